abbrev rm_X4_letPass : Room := { frames := 3, cells := 0, slots := 0, locals := 74 }
set_option maxHeartbeats 4000000 in
set_option maxRecDepth 100000 in
theorem c_X4_letPass (l : Launch) (E : EE) (sz : Nat) (a : Nat → Nat) (g : GG) (B : Nat) (hI : IB B g) (n0 : Nat) (h60 : n0 ≤ 60) (hB : B + 60 ≤ 300000) : MI l yX4_letPass cX4_letPass 4 .int rm_X4_letPass [.ref (a 0), .int (nI n0)] E sz [stC E a g] (fun (r : Int32) (_ : Unit) => r = nI (passG g n0 8 2 - g 8 2)) (fun _ => [stC E a (passG g n0)]) 0 0 := by
  refine mi_go (by decide) (Nat.le_of_ble_eq_true rfl) ?_
  intro p e s m below meth c A Q ls hx hb hml hown hts hK hZ hA hsz hP hD hl hret
  have hS : va_S A s.heap s.heap [] := va_S.rf
  have hl : lv_has ls 4 [(0, .ref (a 0)), (1, .int (nI n0))] := hl
  skip
  have hmc := hI.mc
  have hbu := hI.bud
  refine lv_aload_n hx hb dX4_letPass_0 rfl (lv_at hl 0 rfl) ?_
  refine va_get (D := E.1) (ci := 8) (v := .int (nI (g 8 2))) (C := RX4) (T := TX4) (N := 16) hx hb hts inX4 hown hK hP 0 rfl rfl 11 (by decide) (hts _ q93) (fun _ h9 => h9) rfl dX4_letPass_1 ?_
  refine lv_istore_n (lv' := [(2, .int (nI (g 8 2))), (0, .ref (a 0)), (1, .int (nI n0))]) hx hb dX4_letPass_4 rfl hl (by decide) rfl (fun ls hl => ?_)
  refine lv_iconst (v := nI 0) hx hb dX4_letPass_5 (by decide) ?_
  refine lv_istore_n (lv' := [(3, .int (nI 0)), (2, .int (nI (g 8 2))), (0, .ref (a 0)), (1, .int (nI n0))]) hx hb dX4_letPass_6 rfl hl (by decide) rfl (fun ls hl => ?_)
  have loop7 : ∀ (n : Nat) (i : Nat), (i ≤ n0) → n0 - i < n → ∀ (H : Heap) (locs : List Loc) (ls : Array Slot), va_P E.1 vwCl ([stC E a (passG g i)] : List va_W).flatten H → va_D A ([stC E a (passG g i)] : List va_W).flatten → va_S A s.heap H locs → lv_has ls 4 [(0, .ref (a 0)), (1, .int (nI n0)), (2, .int (nI (g 8 2))), (3, .int (nI i))] → W p l e rm_X4_letPass s m ([.ref (a 0), .int (nI n0)] : List Value).toArray below meth c H locs 0 0 Q (F0 m 7 ls []) := by
    intro n
    induction n with
    | zero => intro i hi hn; exact absurd hn (Nat.not_lt_zero _)
    | succ n ih =>
      intro i hi hn H locs ls hP hD hS hl
      refine lv_iload_n hx hb dX4_letPass_7 rfl (lv_at hl 3 rfl) ?_
      refine lv_iload_n hx hb dX4_letPass_8 rfl (lv_at hl 1 rfl) ?_
      refine nv_icmp_ge (X := ((i : Nat) : Int)) (Y := ((n0 : Nat) : Int)) hx hb (nI_toInt (by omega)) (nI_toInt (by omega)) (tgt := 22) dX4_letPass_9 (by decide) (fun c_1 => ?_) (fun c_1 => ?_)
      · skip
        have hsu := sur_pass g n0
        have hgE : (passG g i) = (passG g n0) := by rw [show i = n0 by omega]
        rw [hgE] at hP hD; clear hgE
        refine lv_aload_n hx hb dX4_letPass_22 rfl (lv_at hl 0 rfl) ?_
        refine va_get (D := E.1) (ci := 8) (v := .int (nI ((passG g n0) 8 2))) (C := RX4) (T := TX4) (N := 16) hx hb hts inX4 hown hK hP 0 rfl rfl 11 (by decide) (hts _ q93) (fun _ h9 => h9) rfl dX4_letPass_23 ?_
        refine lv_iload_n hx hb dX4_letPass_26 rfl (lv_at hl 2 rfl) ?_
        refine nv_isub hx hb (by omega) dX4_letPass_27 ?_
        exact hret _ _ (nI (((passG g n0) 8 2) - (g 8 2))) () _ _ hP hD hS rfl rfl dX4_letPass_28
      · skip
        have hI2 := IB_pass hI (k := i) (by omega)
        refine lv_aload_n hx hb dX4_letPass_12 rfl (lv_at hl 0 rfl) ?_
        refine run_v (S := Unit) (run_V (As := []) (rest := []) (bs := [stC E a (passG g i)]) (cb := [stC E a (passG g i)]) hx hb hml hown hts hK hZ hA (c_X4_passOne l E _ a (passG g i)  _ hI2) l_X4_74 rfl ⟨⟨rfl, rfl⟩, Nat.le_of_ble_eq_true rfl, Nat.le_of_ble_eq_true rfl⟩ 8 rfl [0] rfl (by decide) rfl hP hD hS hl.1 rfl (Nat.le_of_ble_eq_true rfl) dX4_letPass_13 ⟨Nat.zero_le _, Nat.zero_le _⟩) hA hP hD hS (isC := [0]) rfl [] [0] (br := []) (bs2 := fun _ => [stC E a (oneG (passG g i))]) rfl (by decide) (fun _ => rfl) (by decide) (fun u H locs hw hP hD hS => ?_)
        have hgE : (oneG (passG g i)) = (passG g (i + 1)) := rfl
        rw [hgE] at hP hD; clear hgE
        refine lv_iinc (v := nI (i + 1)) (lv' := [(3, .int (nI (i + 1))), (0, .ref (a 0)), (1, .int (nI n0)), (2, .int (nI (g 8 2)))]) hx hb dX4_letPass_16 hl (k := 3) rfl (nI_add i 1) (by decide) rfl (fun ls hl => ?_)
        refine lv_goto (tgt := 7) hx hb dX4_letPass_19 (by decide) ?_
        exact ih (i + 1) (by omega) (by omega) _ _ _ hP hD hS (lv_sub hl [1, 2, 3, 0] rfl)
  exact loop7 _ 0 (by omega) (Nat.lt_succ_self _) _ _ _ hP hD hS (lv_sub hl [2, 3, 1, 0] rfl)
abbrev rm_X4_isChorus : Room := { frames := 1, cells := 0, slots := 0, locals := 23 }
set_option maxHeartbeats 4000000 in
set_option maxRecDepth 100000 in
theorem c_X4_isChorus (l : Launch) (E : EE) (sz : Nat) (a : Nat → Nat) (g : GG) (B : Nat) (hI : IB B g) (b0 : Nat) (h3 : b0 < 1000000) : MI l yX4_isChorus cX4_isChorus 3 .boolean rm_X4_isChorus [.ref (a 0), .int (nI b0)] E sz [stC E a g] (fun (r : Int32) (_ : Unit) => r = bI (chor g b0)) (fun _ => [stC E a g]) 0 0 := by
  refine mi_go (by decide) (Nat.le_of_ble_eq_true rfl) ?_
  intro p e s m below meth c A Q ls hx hb hml hown hts hK hZ hA hsz hP hD hl hret
  have hS : va_S A s.heap s.heap [] := va_S.rf
  have hl : lv_has ls 3 [(0, .ref (a 0)), (1, .int (nI b0))] := hl
  skip
  have hmc := hI.mc
  have hbu := hI.bud
  refine lv_iconst (v := nI 0) hx hb dX4_isChorus_0 (by decide) ?_
  refine lv_istore_n (lv' := [(2, .int (nI 0)), (0, .ref (a 0)), (1, .int (nI b0))]) hx hb dX4_isChorus_1 rfl hl (by decide) rfl (fun ls hl => ?_)
  have loop2 : ∀ (n : Nat) (i : Nat), (i ≤ g 8 0) → (∀ m, m < i → dueB g m b0 = true) → g 8 0 - i < n → ∀ (H : Heap) (locs : List Loc) (ls : Array Slot), va_P E.1 vwCl ([stC E a g] : List va_W).flatten H → va_D A ([stC E a g] : List va_W).flatten → va_S A s.heap H locs → lv_has ls 3 [(0, .ref (a 0)), (1, .int (nI b0)), (2, .int (nI i))] → W p l e rm_X4_isChorus s m ([.ref (a 0), .int (nI b0)] : List Value).toArray below meth c H locs 0 0 Q (F0 m 2 ls []) := by
    intro n
    induction n with
    | zero => intro i hi hal hn; exact absurd hn (Nat.not_lt_zero _)
    | succ n ih =>
      intro i hi hal hn H locs ls hP hD hS hl
      refine lv_iload_n hx hb dX4_isChorus_2 rfl (lv_at hl 2 rfl) ?_
      refine lv_aload_n hx hb dX4_isChorus_3 rfl (lv_at hl 0 rfl) ?_
      refine va_get (D := E.1) (ci := 8) (v := .int (nI (g 8 0))) (C := RX4) (T := TX4) (N := 16) hx hb hts inX4 hown hK hP 0 rfl rfl 8 (by decide) (hts _ q85) (fun _ h9 => h9) rfl dX4_isChorus_4 ?_
      refine nv_icmp_ge (X := ((i : Nat) : Int)) (Y := ((g 8 0 : Nat) : Int)) hx hb (nI_toInt (by omega)) (nI_toInt (by omega)) (tgt := 27) dX4_isChorus_7 (by decide) (fun c_1 => ?_) (fun c_1 => ?_)
      · skip
        refine lv_aload_n hx hb dX4_isChorus_27 rfl (lv_at hl 0 rfl) ?_
        refine va_get (D := E.1) (ci := 8) (v := .int (nI (g 8 0))) (C := RX4) (T := TX4) (N := 16) hx hb hts inX4 hown hK hP 0 rfl rfl 8 (by decide) (hts _ q85) (fun _ h9 => h9) rfl dX4_isChorus_28 ?_
        refine nv_if_le (X := ((g 8 0 : Nat) : Int)) hx hb (nI_toInt (by omega)) (tgt := 38) dX4_isChorus_31 (by decide) (fun c_2 => ?_) (fun c_2 => ?_)
        · skip
          refine lv_iconst (v := nI 0) hx hb dX4_isChorus_38 (by decide) ?_
          exact hret _ _ (nI 0) () _ _ hP hD hS (by decide) (bf_of (fun q => by omega)) dX4_isChorus_39
        · skip
          refine lv_iconst (v := nI 1) hx hb dX4_isChorus_34 (by decide) ?_
          refine lv_goto (tgt := 39) hx hb dX4_isChorus_35 (by decide) ?_
          exact hret _ _ (nI 1) () _ _ hP hD hS (by decide) (bt_of ⟨by omega, fun m hm => hal m (by omega)⟩) dX4_isChorus_39
      · skip
        have hmb := hI.mem (m := i) (by omega)
        have hq1 : g 1 i ≤ 12 := hmb.2.1.2.1
        have hq2 : g 2 i ≤ 12 := by omega
        refine lv_aload_n hx hb dX4_isChorus_10 rfl (lv_at hl 0 rfl) ?_
        refine lv_iload_n hx hb dX4_isChorus_11 rfl (lv_at hl 2 rfl) ?_
        refine lv_iload_n hx hb dX4_isChorus_12 rfl (lv_at hl 1 rfl) ?_
        refine run_i (S := Unit) (run_V (As := [.int (nI i), .int (nI b0)]) (rest := []) (bs := [stC E a g]) (cb := [stC E a g]) hx hb hml hown hts hK hZ hA (c_X4_isDue l E _ a g i b0 (by omega) hq1 hq2 (by omega)) l_X4_77 rfl ⟨⟨rfl, rfl⟩, Nat.le_of_ble_eq_true rfl, Nat.le_of_ble_eq_true rfl⟩ 8 rfl [0] rfl (by decide) rfl hP hD hS hl.1 rfl (Nat.le_of_ble_eq_true rfl) dX4_isChorus_13 ⟨Nat.zero_le _, Nat.zero_le _⟩) hA hP hD hS (isC := [0]) rfl [] [0] (br := []) (bs2 := fun _ => [stC E a g]) rfl (by decide) (fun _ => rfl) (by decide) (fun r u H locs hw hP hD hS => ?_)
        subst hw
        refine bv_if_ne hx hb (tgt := 21) dX4_isChorus_16 (by decide) (fun c_3 => ?_) (fun c_3 => ?_)
        · skip
          have hdu := c_3
          refine lv_iinc (v := nI (i + 1)) (lv' := [(2, .int (nI (i + 1))), (0, .ref (a 0)), (1, .int (nI b0))]) hx hb dX4_isChorus_21 hl (k := 2) rfl (nI_add i 1) (by decide) rfl (fun ls hl => ?_)
          refine lv_goto (tgt := 2) hx hb dX4_isChorus_24 (by decide) ?_
          exact ih (i + 1) (by omega) (fun m hm => by rcases Nat.lt_or_ge m i with q | q; exact hal m q; rw [show m = i by omega]; exact hdu) (by omega) _ _ _ hP hD hS (lv_sub hl [1, 2, 0] rfl)
        · skip
          have hdu := c_3
          refine lv_iconst (v := nI 0) hx hb dX4_isChorus_19 (by decide) ?_
          exact hret _ _ (nI 0) () _ _ hP hD hS (by decide) (bf_of (fun q => by have := q.2 i (by omega); rw [hdu] at this; cases this)) dX4_isChorus_20
  exact loop2 _ 0 (by omega) (fun m hm => absurd hm (Nat.not_lt_zero _)) (Nat.lt_succ_self _) _ _ _ hP hD hS (lv_sub hl [1, 2, 0] rfl)
abbrev rm_X4_dueByLooking : Room := { frames := 1, cells := 0, slots := 0, locals := 23 }
set_option maxHeartbeats 4000000 in
set_option maxRecDepth 100000 in
theorem c_X4_dueByLooking (l : Launch) (E : EE) (sz : Nat) (a : Nat → Nat) (g : GG) (B : Nat) (hI : IB B g) (m0 : Nat) (hm : m0 < g 8 0) : ML l yX4_dueByLooking cX4_dueByLooking 5 rm_X4_dueByLooking [.ref (a 0), .int (nI m0)] E sz [stC E a g] (fun (r : Int64) (_ : Unit) => r = lN (dlk g m0 60)) (fun _ => [stC E a g]) 0 0 := by
  refine ml_go (by decide) (Nat.le_of_ble_eq_true rfl) ?_
  intro p e s m below meth c A Q ls hx hb hml hown hts hK hZ hA hsz hP hD hl hret
  have hS : va_S A s.heap s.heap [] := va_S.rf
  have hl : lv_has ls 5 [(0, .ref (a 0)), (1, .int (nI m0))] := hl
  skip
  have hmc := hI.mc
  have hbu := hI.bud
  have hmb := hI.mem hm
  have hq1 : g 1 m0 ≤ 12 := hmb.2.1.2.1
  have hq2 : g 2 m0 ≤ 12 := by omega
  refine lv_lconst (v := lN 0) hx hb dX4_dueByLooking_0 (by decide) ?_
  refine lv_lstore_n (lv' := [(2, .long (lN 0)), (0, .ref (a 0)), (1, .int (nI m0))]) hx hb dX4_dueByLooking_1 rfl hl (by decide) rfl (fun ls hl => ?_)
  refine lv_iconst (v := nI 0) hx hb dX4_dueByLooking_2 (by decide) ?_
  refine lv_istore (lv' := [(4, .int (nI 0)), (2, .long (lN 0)), (0, .ref (a 0)), (1, .int (nI m0))]) hx hb dX4_dueByLooking_3 hl (by decide) rfl (fun ls hl => ?_)
  have loop5 : ∀ (n : Nat) (i : Nat), (i ≤ 60) → 60 - i < n → ∀ (H : Heap) (locs : List Loc) (ls : Array Slot), va_P E.1 vwCl ([stC E a g] : List va_W).flatten H → va_D A ([stC E a g] : List va_W).flatten → va_S A s.heap H locs → lv_has ls 5 [(0, .ref (a 0)), (1, .int (nI m0)), (2, .long (lN (dlk g m0 i))), (4, .int (nI i))] → W p l e rm_X4_dueByLooking s m ([.ref (a 0), .int (nI m0)] : List Value).toArray below meth c H locs 0 0 Q (F0 m 5 ls []) := by
    intro n
    induction n with
    | zero => intro i hi hn; exact absurd hn (Nat.not_lt_zero _)
    | succ n ih =>
      intro i hi hn H locs ls hP hD hS hl
      refine lv_iload hx hb dX4_dueByLooking_5 (lv_at hl 3 rfl) ?_
      refine lv_bipush (v := nI 60) hx hb dX4_dueByLooking_7 (by decide) ?_
      refine nv_icmp_ge (X := ((i : Nat) : Int)) (Y := ((60 : Nat) : Int)) hx hb (nI_toInt (by omega)) (nI_toInt (by omega)) (tgt := 42) dX4_dueByLooking_9 (by decide) (fun c_1 => ?_) (fun c_1 => ?_)
      · skip
        rw [show dlk g m0 i = dlk g m0 60 from by rw [show i = 60 by omega]] at hl
        refine lv_lload_n hx hb dX4_dueByLooking_42 rfl (lv_at hl 2 rfl) ?_
        exact hret _ _ (lN (dlk g m0 60)) () _ _ hP hD hS rfl dX4_dueByLooking_43
      · skip
        refine lv_aload_n hx hb dX4_dueByLooking_12 rfl (lv_at hl 0 rfl) ?_
        refine lv_iload_n hx hb dX4_dueByLooking_13 rfl (lv_at hl 1 rfl) ?_
        refine lv_aload_n hx hb dX4_dueByLooking_14 rfl (lv_at hl 0 rfl) ?_
        refine va_get (D := E.1) (ci := 8) (v := .int (nI (g 8 1))) (C := RX4) (T := TX4) (N := 16) hx hb hts inX4 hown hK hP 0 rfl rfl 10 (by decide) (hts _ q91) (fun _ h9 => h9) rfl dX4_dueByLooking_15 ?_
        refine lv_iconst (v := nI 1) hx hb dX4_dueByLooking_18 (by decide) ?_
        refine nv_iadd hx hb dX4_dueByLooking_19 ?_
        refine lv_iload hx hb dX4_dueByLooking_20 (lv_at hl 3 rfl) ?_
        refine nv_iadd hx hb dX4_dueByLooking_22 ?_
        refine run_i (S := Unit) (run_V (As := [.int (nI m0), .int (nI (g 8 1 + 1 + i))]) (rest := []) (bs := [stC E a g]) (cb := [stC E a g]) hx hb hml hown hts hK hZ hA (c_X4_isDue l E _ a g m0 (g 8 1 + 1 + i) (by omega) hq1 hq2 (by omega)) l_X4_77 rfl ⟨⟨rfl, rfl⟩, Nat.le_of_ble_eq_true rfl, Nat.le_of_ble_eq_true rfl⟩ 8 rfl [0] rfl (by decide) rfl hP hD hS hl.1 rfl (Nat.le_of_ble_eq_true rfl) dX4_dueByLooking_23 ⟨Nat.zero_le _, Nat.zero_le _⟩) hA hP hD hS (isC := [0]) rfl [] [0] (br := []) (bs2 := fun _ => [stC E a g]) rfl (by decide) (fun _ => rfl) (by decide) (fun r u H locs hw hP hD hS => ?_)
        subst hw
        refine bv_if_eq hx hb (tgt := 36) dX4_dueByLooking_26 (by decide) (fun c_2 => ?_) (fun c_2 => ?_)
        · skip
          rw [show dlk g m0 i = dlk g m0 (i + 1) from (if_neg (by rw [c_2]; decide)).symm] at hl
          refine lv_iinc (v := nI (i + 1)) (lv' := [(4, .int (nI (i + 1))), (0, .ref (a 0)), (1, .int (nI m0)), (2, .long (lN (dlk g m0 (i + 1))))]) hx hb dX4_dueByLooking_36 hl (k := 3) rfl (nI_add i 1) (by decide) rfl (fun ls hl => ?_)
          refine lv_goto (tgt := 5) hx hb dX4_dueByLooking_39 (by decide) ?_
          exact ih (i + 1) (by omega) (by omega) _ _ _ hP hD hS (lv_sub hl [1, 2, 3, 0] rfl)
        · skip
          have hdu := c_2
          refine lv_lload_n hx hb dX4_dueByLooking_29 rfl (lv_at hl 2 rfl) ?_
          refine lv_lconst (v := lN 1) hx hb dX4_dueByLooking_30 (by decide) ?_
          refine lv_iload hx hb dX4_dueByLooking_31 (lv_at hl 3 rfl) ?_
          refine nv_lshl hx hb (by omega) dX4_dueByLooking_33 ?_
          refine nv_lor hx hb (dlk_64 hi) (by rw [Nat.one_mul]; exact Nat.pow_lt_pow_right (by decide) (by omega)) dX4_dueByLooking_34 ?_
          refine lv_lstore_n (lv' := [(2, .long (lN (dlk g m0 i ||| 1 * 2 ^ i))), (0, .ref (a 0)), (1, .int (nI m0)), (4, .int (nI i))]) hx hb dX4_dueByLooking_35 rfl hl (by decide) rfl (fun ls hl => ?_)
          rw [show (dlk g m0 i ||| 1 * 2 ^ i) = dlk g m0 (i + 1) from (if_pos hdu).symm] at hl
          refine lv_iinc (v := nI (i + 1)) (lv' := [(4, .int (nI (i + 1))), (2, .long (lN (dlk g m0 (i + 1)))), (0, .ref (a 0)), (1, .int (nI m0))]) hx hb dX4_dueByLooking_36 hl (k := 3) rfl (nI_add i 1) (by decide) rfl (fun ls hl => ?_)
          refine lv_goto (tgt := 5) hx hb dX4_dueByLooking_39 (by decide) ?_
          exact ih (i + 1) (by omega) (by omega) _ _ _ hP hD hS (lv_sub hl [2, 3, 1, 0] rfl)
  exact loop5 _ 0 (by omega) (Nat.lt_succ_self _) _ _ _ hP hD hS (lv_sub hl [2, 3, 1, 0] rfl)
abbrev rm_X5_stepsBetween : Room := { frames := 0, cells := 0, slots := 0, locals := 0 }
set_option maxHeartbeats 4000000 in
set_option maxRecDepth 100000 in
theorem c_X5_stepsBetween (l : Launch) (E : EE) (sz : Nat) (n0 n1 : Nat) (h0 : n0 ≤ 11) (h1 : n1 ≤ 11) : MI l yX5_stepsBetween cX5_stepsBetween 3 .int rm_X5_stepsBetween [.int (nI n0), .int (nI n1)] E sz [] (fun (r : Int32) (_ : Unit) => r = nI (ap n0 n1)) (fun _ => []) 0 0 := by
  refine mi_go (by decide) (Nat.le_of_ble_eq_true rfl) ?_
  intro p e s m below meth c A Q ls hx hb hml hown hts hK hZ hA hsz hP hD hl hret
  have hS : va_S A s.heap s.heap [] := va_S.rf
  have hl : lv_has ls 3 [(0, .int (nI n0)), (1, .int (nI n1))] := hl
  skip
  refine lv_iload_n hx hb dX5_stepsBetween_0 rfl (lv_at hl 0 rfl) ?_
  refine lv_iload_n hx hb dX5_stepsBetween_1 rfl (lv_at hl 1 rfl) ?_
  refine nv_icmp_ge (X := ((n0 : Nat) : Int)) (Y := ((n1 : Nat) : Int)) hx hb (nI_toInt (by omega)) (nI_toInt (by omega)) (tgt := 11) dX5_stepsBetween_2 (by decide) (fun c_1 => ?_) (fun c_1 => ?_)
  · skip
    refine lv_iload_n hx hb dX5_stepsBetween_11 rfl (lv_at hl 0 rfl) ?_
    refine lv_iload_n hx hb dX5_stepsBetween_12 rfl (lv_at hl 1 rfl) ?_
    refine nv_isub hx hb (by omega) dX5_stepsBetween_13 ?_
    refine lv_istore_n (lv' := [(2, .int (nI (n0 - n1))), (0, .int (nI n0)), (1, .int (nI n1))]) hx hb dX5_stepsBetween_14 rfl hl (by decide) rfl (fun ls hl => ?_)
    refine lv_iload_n hx hb dX5_stepsBetween_15 rfl (lv_at hl 0 rfl) ?_
    refine lv_bipush (v := nI 6) hx hb dX5_stepsBetween_16 (by decide) ?_
    refine nv_icmp_le (X := ((n0 - n1 : Nat) : Int)) (Y := ((6 : Nat) : Int)) hx hb (nI_toInt (by omega)) (nI_toInt (by omega)) (tgt := 28) dX5_stepsBetween_18 (by decide) (fun c_2 => ?_) (fun c_2 => ?_)
    · skip
      refine lv_iload_n hx hb dX5_stepsBetween_28 rfl (lv_at hl 0 rfl) ?_
      exact hret _ _ (nI (n0 - n1)) () _ _ hP hD hS rfl (by unfold ap; congr 1; (repeat' split) <;> omega) dX5_stepsBetween_29
    · skip
      refine lv_bipush (v := nI 12) hx hb dX5_stepsBetween_21 (by decide) ?_
      refine lv_iload_n hx hb dX5_stepsBetween_23 rfl (lv_at hl 0 rfl) ?_
      refine nv_isub hx hb (by omega) dX5_stepsBetween_24 ?_
      refine lv_goto (tgt := 29) hx hb dX5_stepsBetween_25 (by decide) ?_
      exact hret _ _ (nI (12 - (n0 - n1))) () _ _ hP hD hS rfl (by unfold ap; congr 1; (repeat' split) <;> omega) dX5_stepsBetween_29
  · skip
    refine lv_iload_n hx hb dX5_stepsBetween_5 rfl (lv_at hl 1 rfl) ?_
    refine lv_iload_n hx hb dX5_stepsBetween_6 rfl (lv_at hl 0 rfl) ?_
    refine nv_isub hx hb (by omega) dX5_stepsBetween_7 ?_
    refine lv_goto (tgt := 14) hx hb dX5_stepsBetween_8 (by decide) ?_
    refine lv_istore_n (lv' := [(2, .int (nI (n1 - n0))), (0, .int (nI n0)), (1, .int (nI n1))]) hx hb dX5_stepsBetween_14 rfl hl (by decide) rfl (fun ls hl => ?_)
    refine lv_iload_n hx hb dX5_stepsBetween_15 rfl (lv_at hl 0 rfl) ?_
    refine lv_bipush (v := nI 6) hx hb dX5_stepsBetween_16 (by decide) ?_
    refine nv_icmp_le (X := ((n1 - n0 : Nat) : Int)) (Y := ((6 : Nat) : Int)) hx hb (nI_toInt (by omega)) (nI_toInt (by omega)) (tgt := 28) dX5_stepsBetween_18 (by decide) (fun c_3 => ?_) (fun c_3 => ?_)
    · skip
      refine lv_iload_n hx hb dX5_stepsBetween_28 rfl (lv_at hl 0 rfl) ?_
      exact hret _ _ (nI (n1 - n0)) () _ _ hP hD hS rfl (by unfold ap; congr 1; (repeat' split) <;> omega) dX5_stepsBetween_29
    · skip
      refine lv_bipush (v := nI 12) hx hb dX5_stepsBetween_21 (by decide) ?_
      refine lv_iload_n hx hb dX5_stepsBetween_23 rfl (lv_at hl 0 rfl) ?_
      refine nv_isub hx hb (by omega) dX5_stepsBetween_24 ?_
      refine lv_goto (tgt := 29) hx hb dX5_stepsBetween_25 (by decide) ?_
      exact hret _ _ (nI (12 - (n1 - n0))) () _ _ hP hD hS rfl (by unfold ap; congr 1; (repeat' split) <;> omega) dX5_stepsBetween_29
