abbrev rm_X6_dueBeats : Room := { frames := 3, cells := 0, slots := 0, locals := 64 }
set_option maxHeartbeats 4000000 in
set_option maxRecDepth 100000 in
theorem c_X6_dueBeats (l : Launch) (E : EE) (sz : Nat) (b : Nat → Nat) (z : Nat → Nat) (g : GG) (gs : Nat → GG) (ar : GG) (B : Nat) (hI : IB B g) (p0 : Int32) : ML l yX6_dueBeats cX6_dueBeats 5 rm_X6_dueBeats [.ref (b 0), .int p0] E sz [moC E b z g gs ar] (fun (r : Int64) (_ : Unit) => r = lN (if hasM g p0 = true then dlk g (tn p0) 60 else 0)) (fun _ => [moC E b (upn z 0 (if hasM g p0 = true then 0 else 1)) g gs ar]) 0 0 := by
  refine ml_go (by decide) (Nat.le_of_ble_eq_true rfl) ?_
  intro p e s m below meth c A Q ls hx hb hml hown hts hK hZ hA hsz hP hD hl hret
  have hS : va_S A s.heap s.heap [] := va_S.rf
  have hl : lv_has ls 5 [(0, .ref (b 0)), (1, .int p0)] := hl
  skip
  have hmc := hI.mc
  have hbu := hI.bud
  refine lv_lconst (v := lN 0) hx hb dX6_dueBeats_0 (by decide) ?_
  refine lv_lstore_n (lv' := [(2, .long (lN 0)), (0, .ref (b 0)), (1, .int p0)]) hx hb dX6_dueBeats_1 rfl hl (by decide) rfl (fun ls hl => ?_)
  refine lv_aload_n hx hb dX6_dueBeats_2 rfl (lv_at hl 1 rfl) ?_
  refine lv_iload_n hx hb dX6_dueBeats_3 rfl (lv_at hl 2 rfl) ?_
  refine run_i (S := Unit) (run_V (As := [.int p0]) (rest := []) (bs := [moC E b z g gs ar]) (cb := [moC E b z g gs ar]) hx hb hml hown hts hK hZ hA (c_X6_isAsked l E _ b z g gs ar  p0 hmc) l_X6_133 rfl ⟨⟨rfl, rfl⟩, Nat.le_of_ble_eq_true rfl, Nat.le_of_ble_eq_true rfl⟩ 10 rfl [0] rfl (by decide) rfl hP hD hS hl.1 rfl (Nat.le_of_ble_eq_true rfl) dX6_dueBeats_4 ⟨Nat.zero_le _, Nat.zero_le _⟩) hA hP hD hS (isC := [0]) rfl [] [0] (br := []) (bs2 := fun _ => [moC E b (upn z 0 (if hasM g p0 = true then 0 else 1)) g gs ar]) rfl (by decide) (fun _ => rfl) (by decide) (fun r u H locs hw hP hD hS => ?_)
  subst hw
  refine bv_if_ne hx hb (tgt := 12) dX6_dueBeats_7 (by decide) (fun c_1 => ?_) (fun c_1 => ?_)
  · skip
    have hh := c_1
    have hh1 := of_decide_eq_true (show decide (0 ≤ p0.toInt ∧ p0.toInt < (g 8 0 : Int)) = true from hh)
    obtain ⟨m0, hm0, rfl, em0⟩ := raw_n (x := p0) (by omega)
    have hmb := hI.mem (m := m0) (by omega)
    have hq0 : 0 < g 1 m0 := by omega
    have hq1 : g 1 m0 ≤ 12 := hmb.2.1.2.1
    have hq2 : g 2 m0 ≤ 12 := by omega
    refine lv_iconst (v := nI 0) hx hb dX6_dueBeats_12 (by decide) ?_
    refine lv_istore (lv' := [(4, .int (nI 0)), (2, .long (lN 0)), (0, .ref (b 0)), (1, .int (nI m0))]) hx hb dX6_dueBeats_13 hl (by decide) rfl (fun ls hl => ?_)
    have loop15 : ∀ (n : Nat) (i : Nat), (i ≤ 60) → 60 - i < n → ∀ (H : Heap) (locs : List Loc) (ls : Array Slot), va_P E.1 vwCl ([moC E b (upn z 0 (if hasM g (nI m0) = true then 0 else 1)) g gs ar] : List va_W).flatten H → va_D A ([moC E b (upn z 0 (if hasM g (nI m0) = true then 0 else 1)) g gs ar] : List va_W).flatten → va_S A s.heap H locs → lv_has ls 5 [(0, .ref (b 0)), (1, .int (nI m0)), (2, .long (lN (dlk g m0 i))), (4, .int (nI i))] → W p l e rm_X6_dueBeats s m ([.ref (b 0), .int (nI m0)] : List Value).toArray below meth c H locs 0 0 Q (F0 m 15 ls []) := by
      intro n15
      induction n15 with
      | zero => intro i hi hn15; exact absurd hn15 (Nat.not_lt_zero _)
      | succ n15 ih15 =>
        intro i hi hn15 H locs ls hP hD hS hl
        refine lv_iload hx hb dX6_dueBeats_15 (lv_at hl 3 rfl) ?_
        refine lv_bipush (v := nI 60) hx hb dX6_dueBeats_17 (by decide) ?_
        refine nv_icmp_ge (X := ((i : Nat) : Int)) (Y := ((60 : Nat) : Int)) hx hb (nI_toInt (by omega)) (nI_toInt (by omega)) (tgt := 58) dX6_dueBeats_19 (by decide) (fun c_2 => ?_) (fun c_2 => ?_)
        · skip
          rw [show dlk g m0 i = dlk g m0 60 from by rw [show i = 60 by omega]] at hl
          refine lv_lload_n hx hb dX6_dueBeats_58 rfl (lv_at hl 2 rfl) ?_
          exact hret _ _ (lN (dlk g m0 60)) () _ _ hP hD hS (by rw [if_pos hh, tn_nI hm0]) dX6_dueBeats_59
        · skip
          refine lv_lload_n hx hb dX6_dueBeats_22 rfl (lv_at hl 2 rfl) ?_
          refine lv_aload_n hx hb dX6_dueBeats_23 rfl (lv_at hl 0 rfl) ?_
          refine lv_iload_n hx hb dX6_dueBeats_24 rfl (lv_at hl 1 rfl) ?_
          refine lv_aload_n hx hb dX6_dueBeats_25 rfl (lv_at hl 0 rfl) ?_
          refine va_get (D := E.1) (ci := 10) (v := .ref (b 1)) (C := RX6) (T := TX6) (N := 20) hx hb hts inX6 hown hK hP 0 rfl rfl 1 (by decide) (hts _ q1435) (fun _ h9 => h9) rfl dX6_dueBeats_26 ?_
          refine lv_iconst (v := nI 1) hx hb dX6_dueBeats_29 (by decide) ?_
          refine nv_iald (f := (flat g)) (i := 1) (n := 74) hx hb hK hP 1 0 rfl rfl (by omega) (by decide) dX6_dueBeats_30 ?_
          refine tp_i (show nI ((flat g) 1) = nI (g 8 1) from rfl) ?_
          refine lv_iconst (v := nI 1) hx hb dX6_dueBeats_31 (by decide) ?_
          refine nv_iadd hx hb dX6_dueBeats_32 ?_
          refine lv_iload hx hb dX6_dueBeats_33 (lv_at hl 3 rfl) ?_
          refine nv_iadd hx hb dX6_dueBeats_35 ?_
          refine run_i (S := Unit) (run_V (As := [.int (nI m0), .int (nI (g 8 1 + 1 + i))]) (rest := [.long (lN (dlk g m0 i))]) (bs := [moC E b (upn z 0 (if hasM g (nI m0) = true then 0 else 1)) g gs ar]) (cb := [moC E b (upn z 0 (if hasM g (nI m0) = true then 0 else 1)) g gs ar]) hx hb hml hown hts hK hZ hA (c_X6_isDue l E _ b (upn z 0 (if hasM g (nI m0) = true then 0 else 1)) g gs ar  m0 (g 8 1 + 1 + i) (by omega) hq0 hq1 hq2 (by omega)) l_X6_72 rfl ⟨⟨rfl, rfl⟩, Nat.le_of_ble_eq_true rfl, Nat.le_of_ble_eq_true rfl⟩ 10 rfl [0] rfl (by decide) rfl hP hD hS hl.1 rfl (Nat.le_of_ble_eq_true rfl) dX6_dueBeats_36 ⟨Nat.zero_le _, Nat.zero_le _⟩) hA hP hD hS (isC := [0]) rfl [] [0] (br := []) (bs2 := fun _ => [moC E b (upn z 0 (if hasM g (nI m0) = true then 0 else 1)) g gs ar]) rfl (by decide) (fun _ => rfl) (by decide) (fun r u H locs hw hP hD hS => ?_)
          subst hw
          refine bv_if_eq hx hb (tgt := 49) dX6_dueBeats_39 (by decide) (fun c_3 => ?_) (fun c_3 => ?_)
          · skip
            have hdu := c_3
            refine lv_lconst (v := lN 0) hx hb dX6_dueBeats_49 (by decide) ?_
            refine nv_lor hx hb (dlk_64 hi) (by decide) dX6_dueBeats_50 ?_
            refine lv_lstore_n (lv' := [(2, .long (lN (dlk g m0 i ||| 0))), (0, .ref (b 0)), (1, .int (nI m0)), (4, .int (nI i))]) hx hb dX6_dueBeats_51 rfl hl (by decide) rfl (fun ls hl => ?_)
            rw [show (dlk g m0 i ||| 0) = dlk g m0 (i + 1) from by rw [Nat.or_zero]; exact (if_neg (by rw [hdu]; decide)).symm] at hl
            refine lv_iinc (v := nI (i + 1)) (lv' := [(4, .int (nI (i + 1))), (2, .long (lN (dlk g m0 (i + 1)))), (0, .ref (b 0)), (1, .int (nI m0))]) hx hb dX6_dueBeats_52 hl (k := 3) rfl (nI_add i 1) (by decide) rfl (fun ls hl => ?_)
            refine lv_goto (tgt := 15) hx hb dX6_dueBeats_55 (by decide) ?_
            exact ih15 (i + 1) (by omega) (by omega) _ _ _ hP hD hS (lv_sub hl [2, 3, 1, 0] rfl)
          · skip
            have hdu := c_3
            refine lv_lconst (v := lN 1) hx hb dX6_dueBeats_42 (by decide) ?_
            refine lv_iload hx hb dX6_dueBeats_43 (lv_at hl 3 rfl) ?_
            refine nv_lshl hx hb (by omega) dX6_dueBeats_45 ?_
            refine lv_goto (tgt := 50) hx hb dX6_dueBeats_46 (by decide) ?_
            refine nv_lor hx hb (dlk_64 hi) (by rw [Nat.one_mul]; exact Nat.pow_lt_pow_right (by decide) (by omega)) dX6_dueBeats_50 ?_
            refine lv_lstore_n (lv' := [(2, .long (lN (dlk g m0 i ||| 1 * 2 ^ i))), (0, .ref (b 0)), (1, .int (nI m0)), (4, .int (nI i))]) hx hb dX6_dueBeats_51 rfl hl (by decide) rfl (fun ls hl => ?_)
            rw [show (dlk g m0 i ||| 1 * 2 ^ i) = dlk g m0 (i + 1) from (if_pos hdu).symm] at hl
            refine lv_iinc (v := nI (i + 1)) (lv' := [(4, .int (nI (i + 1))), (2, .long (lN (dlk g m0 (i + 1)))), (0, .ref (b 0)), (1, .int (nI m0))]) hx hb dX6_dueBeats_52 hl (k := 3) rfl (nI_add i 1) (by decide) rfl (fun ls hl => ?_)
            refine lv_goto (tgt := 15) hx hb dX6_dueBeats_55 (by decide) ?_
            exact ih15 (i + 1) (by omega) (by omega) _ _ _ hP hD hS (lv_sub hl [2, 3, 1, 0] rfl)
    exact loop15 _ 0 (by omega) (Nat.lt_succ_self _) _ _ _ hP hD hS (lv_sub hl [2, 3, 1, 0] rfl)
  · skip
    have hh := c_1
    refine lv_lload_n hx hb dX6_dueBeats_10 rfl (lv_at hl 0 rfl) ?_
    exact hret _ _ (lN 0) () _ _ hP hD hS (by rw [if_neg (by rw [hh]; decide)]) dX6_dueBeats_11
abbrev rm_X6_dueBeatsByDoubling : Room := { frames := 5, cells := 0, slots := 0, locals := 164 }
set_option maxHeartbeats 4000000 in
set_option maxRecDepth 100000 in
theorem c_X6_dueBeatsByDoubling (l : Launch) (E : EE) (sz : Nat) (b : Nat → Nat) (z : Nat → Nat) (g : GG) (gs : Nat → GG) (ar : GG) (B : Nat) (hI : IB B g) (p0 : Int32) : ML l yX6_dueBeatsByDoubling cX6_dueBeatsByDoubling 2 rm_X6_dueBeatsByDoubling [.ref (b 0), .int p0] E sz [moC E b z g gs ar] (fun (r : Int64) (_ : Unit) => r = lN (if hasM g p0 = true then dlk g (tn p0) 60 else 0)) (fun _ => [moC E b (upn z 0 (if hasM g p0 = true then 0 else 1)) g gs ar]) 0 0 := by
  refine ml_go (by decide) (Nat.le_of_ble_eq_true rfl) ?_
  intro p e s m below meth c A Q ls hx hb hml hown hts hK hZ hA hsz hP hD hl hret
  have hS : va_S A s.heap s.heap [] := va_S.rf
  have hl : lv_has ls 2 [(0, .ref (b 0)), (1, .int p0)] := hl
  skip
  have hmc := hI.mc
  have hbu := hI.bud
  refine lv_aload_n hx hb dX6_dueBeatsByDoubling_0 rfl (lv_at hl 0 rfl) ?_
  refine lv_iload_n hx hb dX6_dueBeatsByDoubling_1 rfl (lv_at hl 1 rfl) ?_
  refine run_l (S := Unit) (run_V (As := [.int p0]) (rest := []) (bs := [moC E b z g gs ar]) (cb := [moC E b z g gs ar]) hx hb hml hown hts hK hZ hA (c_X6_dueBeats l E _ b z g gs ar _ hI p0) l_X6_142 rfl ⟨⟨rfl, rfl⟩, Nat.le_of_ble_eq_true rfl, Nat.le_of_ble_eq_true rfl⟩ 10 rfl [0] rfl (by decide) rfl hP hD hS hl.1 rfl (Nat.le_of_ble_eq_true rfl) dX6_dueBeatsByDoubling_2 ⟨Nat.zero_le _, Nat.zero_le _⟩) hA hP hD hS (isC := [0]) rfl [] [0] (br := []) (bs2 := fun _ => [moC E b (upn z 0 (if hasM g p0 = true then 0 else 1)) g gs ar]) rfl (by decide) (fun _ => rfl) (by decide) (fun r u H locs hw hP hD hS => ?_)
  subst hw
  exact hret _ _ (lN (if hasM g p0 = true then dlk g (tn p0) 60 else 0)) () _ _ hP hD hS rfl dX6_dueBeatsByDoubling_5
abbrev rm_X6_commonBeats : Room := { frames := 3, cells := 0, slots := 0, locals := 65 }
set_option maxHeartbeats 4000000 in
set_option maxRecDepth 100000 in
theorem c_X6_commonBeats (l : Launch) (E : EE) (sz : Nat) (b : Nat → Nat) (z : Nat → Nat) (g : GG) (gs : Nat → GG) (ar : GG) (B : Nat) (hI : IB B g) (p0 p1 : Int32) : MI l yX6_commonBeats cX6_commonBeats 5 .int rm_X6_commonBeats [.ref (b 0), .int p0, .int p1] E sz [moC E b z g gs ar] (fun (r : Int32) (_ : Unit) => r = nI (if (hasM g p0 && hasM g p1) = true then cmN g (tn p0) (tn p1) 60 else 0)) (fun _ => [moC E b (upn z 0 (if (hasM g p0 && hasM g p1) = true then 0 else 1)) g gs ar]) 0 0 := by
  refine mi_go (by decide) (Nat.le_of_ble_eq_true rfl) ?_
  intro p e s m below meth c A Q ls hx hb hml hown hts hK hZ hA hsz hP hD hl hret
  have hS : va_S A s.heap s.heap [] := va_S.rf
  have hl : lv_has ls 5 [(0, .ref (b 0)), (1, .int p0), (2, .int p1)] := hl
  skip
  have hmc := hI.mc
  have hbu := hI.bud
  refine lv_iconst (v := nI 0) hx hb dX6_commonBeats_0 (by decide) ?_
  refine lv_istore_n (lv' := [(3, .int (nI 0)), (0, .ref (b 0)), (1, .int p0), (2, .int p1)]) hx hb dX6_commonBeats_1 rfl hl (by decide) rfl (fun ls hl => ?_)
  refine lv_aload_n hx hb dX6_commonBeats_2 rfl (lv_at hl 1 rfl) ?_
  refine lv_iload_n hx hb dX6_commonBeats_3 rfl (lv_at hl 2 rfl) ?_
  refine lv_iload_n hx hb dX6_commonBeats_4 rfl (lv_at hl 3 rfl) ?_
  refine run_i (S := Unit) (run_V (As := [.int p0, .int p1]) (rest := []) (bs := [moC E b z g gs ar]) (cb := [moC E b z g gs ar]) hx hb hml hown hts hK hZ hA (c_X6_areAsked l E _ b z g gs ar  p0 p1 hmc) l_X6_136 rfl ⟨⟨rfl, rfl⟩, Nat.le_of_ble_eq_true rfl, Nat.le_of_ble_eq_true rfl⟩ 10 rfl [0] rfl (by decide) rfl hP hD hS hl.1 rfl (Nat.le_of_ble_eq_true rfl) dX6_commonBeats_5 ⟨Nat.zero_le _, Nat.zero_le _⟩) hA hP hD hS (isC := [0]) rfl [] [0] (br := []) (bs2 := fun _ => [moC E b (upn z 0 (if (hasM g p0 && hasM g p1) = true then 0 else 1)) g gs ar]) rfl (by decide) (fun _ => rfl) (by decide) (fun r u H locs hw hP hD hS => ?_)
  subst hw
  refine bv_if_ne hx hb (tgt := 13) dX6_commonBeats_8 (by decide) (fun c_1 => ?_) (fun c_1 => ?_)
  · skip
    have hh0 := c_1
    have hh := ((Bool.and_eq_true _ _).mp hh0).1
    have hh9 := ((Bool.and_eq_true _ _).mp hh0).2
    have hh1 := of_decide_eq_true (show decide (0 ≤ p0.toInt ∧ p0.toInt < (g 8 0 : Int)) = true from hh)
    have hh2 := of_decide_eq_true (show decide (0 ≤ p1.toInt ∧ p1.toInt < (g 8 0 : Int)) = true from hh9)
    obtain ⟨m0, hm0, rfl, em0⟩ := raw_n (x := p0) (by omega)
    obtain ⟨n0, hn0, rfl, en0⟩ := raw_n (x := p1) (by omega)
    have hma := hI.mem (m := m0) (by omega)
    have hna := hI.mem (m := n0) (by omega)
    refine lv_iconst (v := nI 1) hx hb dX6_commonBeats_13 (by decide) ?_
    refine lv_istore (lv' := [(4, .int (nI 1)), (3, .int (nI 0)), (0, .ref (b 0)), (1, .int (nI m0)), (2, .int (nI n0))]) hx hb dX6_commonBeats_14 hl (by decide) rfl (fun ls hl => ?_)
    have loop16 : ∀ (n : Nat) (i : Nat), (i ≤ 60) → 60 - i < n → ∀ (H : Heap) (locs : List Loc) (ls : Array Slot), va_P E.1 vwCl ([moC E b (upn z 0 (if (hasM g (nI m0) && hasM g (nI n0)) = true then 0 else 1)) g gs ar] : List va_W).flatten H → va_D A ([moC E b (upn z 0 (if (hasM g (nI m0) && hasM g (nI n0)) = true then 0 else 1)) g gs ar] : List va_W).flatten → va_S A s.heap H locs → lv_has ls 5 [(0, .ref (b 0)), (1, .int (nI m0)), (2, .int (nI n0)), (3, .int (nI (cmN g m0 n0 i))), (4, .int (nI (i + 1)))] → W p l e rm_X6_commonBeats s m ([.ref (b 0), .int (nI m0), .int (nI n0)] : List Value).toArray below meth c H locs 0 0 Q (F0 m 16 ls []) := by
      intro n16
      induction n16 with
      | zero => intro i hi hn16; exact absurd hn16 (Nat.not_lt_zero _)
      | succ n16 ih16 =>
        intro i hi hn16 H locs ls hP hD hS hl
        refine lv_iload hx hb dX6_commonBeats_16 (lv_at hl 4 rfl) ?_
        refine lv_bipush (v := nI 60) hx hb dX6_commonBeats_18 (by decide) ?_
        refine nv_icmp_gt (X := ((i + 1 : Nat) : Int)) (Y := ((60 : Nat) : Int)) hx hb (nI_toInt (by omega)) (nI_toInt (by omega)) (tgt := 71) dX6_commonBeats_20 (by decide) (fun c_2 => ?_) (fun c_2 => ?_)
        · skip
          rw [show cmN g m0 n0 i = cmN g m0 n0 60 from by rw [show i = 60 by omega]] at hl
          refine lv_iload_n hx hb dX6_commonBeats_71 rfl (lv_at hl 3 rfl) ?_
          exact hret _ _ (nI (cmN g m0 n0 60)) () _ _ hP hD hS rfl (by rw [if_pos hh0, tn_nI hm0, tn_nI hn0]) dX6_commonBeats_72
        · skip
          have hcl := cmN_le (g := g) (x := m0) (y := n0) (k := i)
          have hq0 : 0 < g 1 m0 := by omega
          have hq1 : g 1 m0 ≤ 12 := by omega
          have hq2 : g 2 m0 ≤ 12 := by omega
          refine lv_iload_n hx hb dX6_commonBeats_23 rfl (lv_at hl 3 rfl) ?_
          refine lv_aload_n hx hb dX6_commonBeats_24 rfl (lv_at hl 0 rfl) ?_
          refine lv_iload_n hx hb dX6_commonBeats_25 rfl (lv_at hl 1 rfl) ?_
          refine lv_aload_n hx hb dX6_commonBeats_26 rfl (lv_at hl 0 rfl) ?_
          refine va_get (D := E.1) (ci := 10) (v := .ref (b 1)) (C := RX6) (T := TX6) (N := 20) hx hb hts inX6 hown hK hP 0 rfl rfl 1 (by decide) (hts _ q1435) (fun _ h9 => h9) rfl dX6_commonBeats_27 ?_
          refine lv_iconst (v := nI 1) hx hb dX6_commonBeats_30 (by decide) ?_
          refine nv_iald (f := (flat g)) (i := 1) (n := 74) hx hb hK hP 1 0 rfl rfl (by omega) (by decide) dX6_commonBeats_31 ?_
          refine tp_i (show nI ((flat g) 1) = nI (g 8 1) from rfl) ?_
          refine lv_iload hx hb dX6_commonBeats_32 (lv_at hl 4 rfl) ?_
          refine nv_iadd hx hb dX6_commonBeats_34 ?_
          refine run_i (S := Unit) (run_V (As := [.int (nI m0), .int (nI (g 8 1 + (i + 1)))]) (rest := [.int (nI (cmN g m0 n0 i))]) (bs := [moC E b (upn z 0 (if (hasM g (nI m0) && hasM g (nI n0)) = true then 0 else 1)) g gs ar]) (cb := [moC E b (upn z 0 (if (hasM g (nI m0) && hasM g (nI n0)) = true then 0 else 1)) g gs ar]) hx hb hml hown hts hK hZ hA (c_X6_isDue l E _ b (upn z 0 (if (hasM g (nI m0) && hasM g (nI n0)) = true then 0 else 1)) g gs ar  m0 (g 8 1 + (i + 1)) (by omega) hq0 hq1 hq2 (by omega)) l_X6_72 rfl ⟨⟨rfl, rfl⟩, Nat.le_of_ble_eq_true rfl, Nat.le_of_ble_eq_true rfl⟩ 10 rfl [0] rfl (by decide) rfl hP hD hS hl.1 rfl (Nat.le_of_ble_eq_true rfl) dX6_commonBeats_35 ⟨Nat.zero_le _, Nat.zero_le _⟩) hA hP hD hS (isC := [0]) rfl [] [0] (br := []) (bs2 := fun _ => [moC E b (upn z 0 (if (hasM g (nI m0) && hasM g (nI n0)) = true then 0 else 1)) g gs ar]) rfl (by decide) (fun _ => rfl) (by decide) (fun r u H locs hw hP hD hS => ?_)
          subst hw
          refine bv_if_eq hx hb (tgt := 62) dX6_commonBeats_38 (by decide) (fun c_3 => ?_) (fun c_3 => ?_)
          · skip
            have hcc : (dueB g m0 (g 8 1 + (i + 1)) && dueB g n0 (g 8 1 + (i + 1))) = false := by rw [c_3]; rfl
            refine lv_iconst (v := nI 0) hx hb dX6_commonBeats_62 (by decide) ?_
            refine nv_iadd hx hb dX6_commonBeats_63 ?_
            refine lv_istore_n (lv' := [(3, .int (nI (cmN g m0 n0 i + 0))), (0, .ref (b 0)), (1, .int (nI m0)), (2, .int (nI n0)), (4, .int (nI (i + 1)))]) hx hb dX6_commonBeats_64 rfl hl (by decide) rfl (fun ls hl => ?_)
            have hl : lv_has ls 5 [(3, .int (nI (cmN g m0 n0 (i + 1)))), (0, .ref (b 0)), (1, .int (nI m0)), (2, .int (nI n0)), (4, .int (nI (i + 1)))] := by rw [show cmN g m0 n0 (i + 1) = cmN g m0 n0 i + 0 from cmN_f hcc]; exact hl
            refine lv_iinc (v := nI (i + 1 + 1)) (lv' := [(4, .int (nI (i + 1 + 1))), (3, .int (nI (cmN g m0 n0 (i + 1)))), (0, .ref (b 0)), (1, .int (nI m0)), (2, .int (nI n0))]) hx hb dX6_commonBeats_65 hl (k := 4) rfl (nI_add (i + 1) 1) (by decide) rfl (fun ls hl => ?_)
            refine lv_goto (tgt := 16) hx hb dX6_commonBeats_68 (by decide) ?_
            exact ih16 (i + 1) (by omega) (by omega) _ _ _ hP hD hS (lv_sub hl [2, 3, 4, 1, 0] rfl)
          · skip
            have hd1 := c_3
            have hq0 : 0 < g 1 n0 := by omega
            have hq1 : g 1 n0 ≤ 12 := by omega
            have hq2 : g 2 n0 ≤ 12 := by omega
            refine lv_aload_n hx hb dX6_commonBeats_41 rfl (lv_at hl 0 rfl) ?_
            refine lv_iload_n hx hb dX6_commonBeats_42 rfl (lv_at hl 2 rfl) ?_
            refine lv_aload_n hx hb dX6_commonBeats_43 rfl (lv_at hl 0 rfl) ?_
            refine va_get (D := E.1) (ci := 10) (v := .ref (b 1)) (C := RX6) (T := TX6) (N := 20) hx hb hts inX6 hown hK hP 0 rfl rfl 1 (by decide) (hts _ q1435) (fun _ h9 => h9) rfl dX6_commonBeats_44 ?_
            refine lv_iconst (v := nI 1) hx hb dX6_commonBeats_47 (by decide) ?_
            refine nv_iald (f := (flat g)) (i := 1) (n := 74) hx hb hK hP 1 0 rfl rfl (by omega) (by decide) dX6_commonBeats_48 ?_
            refine tp_i (show nI ((flat g) 1) = nI (g 8 1) from rfl) ?_
            refine lv_iload hx hb dX6_commonBeats_49 (lv_at hl 4 rfl) ?_
            refine nv_iadd hx hb dX6_commonBeats_51 ?_
            refine run_i (S := Unit) (run_V (As := [.int (nI n0), .int (nI (g 8 1 + (i + 1)))]) (rest := [.int (nI (cmN g m0 n0 i))]) (bs := [moC E b (upn z 0 (if (hasM g (nI m0) && hasM g (nI n0)) = true then 0 else 1)) g gs ar]) (cb := [moC E b (upn z 0 (if (hasM g (nI m0) && hasM g (nI n0)) = true then 0 else 1)) g gs ar]) hx hb hml hown hts hK hZ hA (c_X6_isDue l E _ b (upn z 0 (if (hasM g (nI m0) && hasM g (nI n0)) = true then 0 else 1)) g gs ar  n0 (g 8 1 + (i + 1)) (by omega) hq0 hq1 hq2 (by omega)) l_X6_72 rfl ⟨⟨rfl, rfl⟩, Nat.le_of_ble_eq_true rfl, Nat.le_of_ble_eq_true rfl⟩ 10 rfl [0] rfl (by decide) rfl hP hD hS hl.1 rfl (Nat.le_of_ble_eq_true rfl) dX6_commonBeats_52 ⟨Nat.zero_le _, Nat.zero_le _⟩) hA hP hD hS (isC := [0]) rfl [] [0] (br := []) (bs2 := fun _ => [moC E b (upn z 0 (if (hasM g (nI m0) && hasM g (nI n0)) = true then 0 else 1)) g gs ar]) rfl (by decide) (fun _ => rfl) (by decide) (fun r u H locs hw hP hD hS => ?_)
            subst hw
            refine bv_if_eq hx hb (tgt := 62) dX6_commonBeats_55 (by decide) (fun c_4 => ?_) (fun c_4 => ?_)
            · skip
              have hcc : (dueB g m0 (g 8 1 + (i + 1)) && dueB g n0 (g 8 1 + (i + 1))) = false := by rw [hd1, c_4]; rfl
              refine lv_iconst (v := nI 0) hx hb dX6_commonBeats_62 (by decide) ?_
              refine nv_iadd hx hb dX6_commonBeats_63 ?_
              refine lv_istore_n (lv' := [(3, .int (nI (cmN g m0 n0 i + 0))), (0, .ref (b 0)), (1, .int (nI m0)), (2, .int (nI n0)), (4, .int (nI (i + 1)))]) hx hb dX6_commonBeats_64 rfl hl (by decide) rfl (fun ls hl => ?_)
              have hl : lv_has ls 5 [(3, .int (nI (cmN g m0 n0 (i + 1)))), (0, .ref (b 0)), (1, .int (nI m0)), (2, .int (nI n0)), (4, .int (nI (i + 1)))] := by rw [show cmN g m0 n0 (i + 1) = cmN g m0 n0 i + 0 from cmN_f hcc]; exact hl
              refine lv_iinc (v := nI (i + 1 + 1)) (lv' := [(4, .int (nI (i + 1 + 1))), (3, .int (nI (cmN g m0 n0 (i + 1)))), (0, .ref (b 0)), (1, .int (nI m0)), (2, .int (nI n0))]) hx hb dX6_commonBeats_65 hl (k := 4) rfl (nI_add (i + 1) 1) (by decide) rfl (fun ls hl => ?_)
              refine lv_goto (tgt := 16) hx hb dX6_commonBeats_68 (by decide) ?_
              exact ih16 (i + 1) (by omega) (by omega) _ _ _ hP hD hS (lv_sub hl [2, 3, 4, 1, 0] rfl)
            · skip
              have hcc : (dueB g m0 (g 8 1 + (i + 1)) && dueB g n0 (g 8 1 + (i + 1))) = true := by rw [hd1, c_4]; rfl
              refine lv_iconst (v := nI 1) hx hb dX6_commonBeats_58 (by decide) ?_
              refine lv_goto (tgt := 63) hx hb dX6_commonBeats_59 (by decide) ?_
              refine nv_iadd hx hb dX6_commonBeats_63 ?_
              refine lv_istore_n (lv' := [(3, .int (nI (cmN g m0 n0 i + 1))), (0, .ref (b 0)), (1, .int (nI m0)), (2, .int (nI n0)), (4, .int (nI (i + 1)))]) hx hb dX6_commonBeats_64 rfl hl (by decide) rfl (fun ls hl => ?_)
              have hl : lv_has ls 5 [(3, .int (nI (cmN g m0 n0 (i + 1)))), (0, .ref (b 0)), (1, .int (nI m0)), (2, .int (nI n0)), (4, .int (nI (i + 1)))] := by rw [show cmN g m0 n0 (i + 1) = cmN g m0 n0 i + 1 from cmN_t hcc]; exact hl
              refine lv_iinc (v := nI (i + 1 + 1)) (lv' := [(4, .int (nI (i + 1 + 1))), (3, .int (nI (cmN g m0 n0 (i + 1)))), (0, .ref (b 0)), (1, .int (nI m0)), (2, .int (nI n0))]) hx hb dX6_commonBeats_65 hl (k := 4) rfl (nI_add (i + 1) 1) (by decide) rfl (fun ls hl => ?_)
              refine lv_goto (tgt := 16) hx hb dX6_commonBeats_68 (by decide) ?_
              exact ih16 (i + 1) (by omega) (by omega) _ _ _ hP hD hS (lv_sub hl [2, 3, 4, 1, 0] rfl)
    exact loop16 _ 0 (by omega) (Nat.lt_succ_self _) _ _ _ hP hD hS (lv_sub hl [2, 3, 4, 1, 0] rfl)
  · skip
    have hh0 := c_1
    refine lv_iload_n hx hb dX6_commonBeats_11 rfl (lv_at hl 0 rfl) ?_
    exact hret _ _ (nI 0) () _ _ hP hD hS rfl (by rw [if_neg (by rw [hh0]; decide)]) dX6_commonBeats_12
abbrev rm_X6_beatsUntilChorus : Room := { frames := 2, cells := 0, slots := 0, locals := 44 }
set_option maxHeartbeats 4000000 in
set_option maxRecDepth 100000 in
theorem c_X6_beatsUntilChorus (l : Launch) (E : EE) (sz : Nat) (b : Nat → Nat) (z : Nat → Nat) (g : GG) (gs : Nat → GG) (ar : GG) (B : Nat) (hI : IB B g)  : MI l yX6_beatsUntilChorus cX6_beatsUntilChorus 4 .int rm_X6_beatsUntilChorus [.ref (b 0)] E sz [moC E b z g gs ar] (fun (r : Int32) (_ : Unit) => r = nI (if fsC g < 60 then fsC g + 1 else 0)) (fun _ => [moC E b (upn z 0 (if fsC g < 60 then 0 else 1)) g gs ar]) 0 0 := by
  refine mi_go (by decide) (Nat.le_of_ble_eq_true rfl) ?_
  intro p e s m below meth c A Q ls hx hb hml hown hts hK hZ hA hsz hP hD hl hret
  have hS : va_S A s.heap s.heap [] := va_S.rf
  have hl : lv_has ls 4 [(0, .ref (b 0))] := hl
  skip
  have hmc := hI.mc
  have hbu := hI.bud
  refine lv_aload_n hx hb dX6_beatsUntilChorus_0 rfl (lv_at hl 0 rfl) ?_
  refine lv_iconst (v := nI 0) hx hb dX6_beatsUntilChorus_1 (by decide) ?_
  refine va_put (D := E.1) (ci := 10) (v := .int (nI 0)) (ty := .int) (C := RX6) (T := TX6) (N := 20) hx hb hts inX6 tyX6 tyX6_ok nmX6 hown hK hP hD hS 0 rfl rfl 0 (by decide) (hts _ q1434) (fun _ h9 => h9) rfl (by decide +kernel) rfl rfl (Nat.le_of_ble_eq_true rfl) dX6_beatsUntilChorus_2 (fun H locs hP hD hS => ?_)
  have hP : va_P E.1 vwCl ([moC E b (upn z 0 0) g gs ar] : List va_W).flatten H := hP
  have hD : va_D A ([moC E b (upn z 0 0) g gs ar] : List va_W).flatten := hD
  refine lv_iconst (v := nI 1) hx hb dX6_beatsUntilChorus_5 (by decide) ?_
  refine lv_istore_n (lv' := [(1, .int (nI 1)), (0, .ref (b 0))]) hx hb dX6_beatsUntilChorus_6 rfl hl (by decide) rfl (fun ls hl => ?_)
  have loop7 : ∀ (n : Nat) (i : Nat), (i ≤ 60) → (∀ k, k < i → chor g (g 8 1 + (k + 1)) = false) → 60 - i < n → ∀ (H : Heap) (locs : List Loc) (ls : Array Slot), va_P E.1 vwCl ([moC E b (upn z 0 0) g gs ar] : List va_W).flatten H → va_D A ([moC E b (upn z 0 0) g gs ar] : List va_W).flatten → va_S A s.heap H locs → lv_has ls 4 [(0, .ref (b 0)), (1, .int (nI (i + 1)))] → W p l e rm_X6_beatsUntilChorus s m ([.ref (b 0)] : List Value).toArray below meth c H locs 0 0 Q (F0 m 7 ls []) := by
    intro n7
    induction n7 with
    | zero => intro i hi hno hn7; exact absurd hn7 (Nat.not_lt_zero _)
    | succ n7 ih7 =>
      intro i hi hno hn7 H locs ls hP hD hS hl
      refine lv_iload_n hx hb dX6_beatsUntilChorus_7 rfl (lv_at hl 1 rfl) ?_
      refine lv_bipush (v := nI 60) hx hb dX6_beatsUntilChorus_8 (by decide) ?_
      refine nv_icmp_gt (X := ((i + 1 : Nat) : Int)) (Y := ((60 : Nat) : Int)) hx hb (nI_toInt (by omega)) (nI_toInt (by omega)) (tgt := 80) dX6_beatsUntilChorus_10 (by decide) (fun c_1 => ?_) (fun c_1 => ?_)
      · skip
        have hfn : fsC g = 60 := fsC_none (fun k hk => hno k (by omega))
        refine lv_aload_n hx hb dX6_beatsUntilChorus_80 rfl (lv_at hl 0 rfl) ?_
        refine lv_iconst (v := nI 1) hx hb dX6_beatsUntilChorus_81 (by decide) ?_
        refine run_i (S := Unit) (run_V (As := [.int (nI 1)]) (rest := []) (bs := [moC E b (upn z 0 0) g gs ar]) (cb := [moC E b (upn z 0 0) g gs ar]) hx hb hml hown hts hK hZ hA (c_X6_fails l E _ b (upn z 0 0) g gs ar  1 ) l_X6_54 rfl ⟨⟨rfl, rfl⟩, Nat.le_of_ble_eq_true rfl, Nat.le_of_ble_eq_true rfl⟩ 10 rfl [0] rfl (by decide) rfl hP hD hS hl.1 rfl (Nat.le_of_ble_eq_true rfl) dX6_beatsUntilChorus_82 ⟨Nat.zero_le _, Nat.zero_le _⟩) hA hP hD hS (isC := [0]) rfl [] [0] (br := []) (bs2 := fun _ => [moC E b (upn (upn z 0 0) 0 1) g gs ar]) rfl (by decide) (fun _ => rfl) (by decide) (fun r u H locs hw hP hD hS => ?_)
        subst hw
        have hmE : moC E b (upn (upn z 0 0) 0 1) g gs ar = moC E b (upn z 0 (if fsC g < 60 then 0 else 1)) g gs ar := by rw [if_neg (by omega), upn_upn]
        rw [hmE] at hP hD; clear hmE
        exact hret _ _ (nI 0) () _ _ hP hD hS rfl (by rw [if_neg (by omega)]) dX6_beatsUntilChorus_85
      · skip
        refine lv_aload_n hx hb dX6_beatsUntilChorus_13 rfl (lv_at hl 0 rfl) ?_
        refine va_get (D := E.1) (ci := 10) (v := .ref (b 1)) (C := RX6) (T := TX6) (N := 20) hx hb hts inX6 hown hK hP 0 rfl rfl 1 (by decide) (hts _ q1435) (fun _ h9 => h9) rfl dX6_beatsUntilChorus_14 ?_
        refine lv_iconst (v := nI 0) hx hb dX6_beatsUntilChorus_17 (by decide) ?_
        refine nv_iald (f := (flat g)) (i := 0) (n := 74) hx hb hK hP 1 0 rfl rfl (by omega) (by decide) dX6_beatsUntilChorus_18 ?_
        refine tp_i (show nI ((flat g) 0) = nI (g 8 0) from rfl) ?_
        refine nv_if_le (X := ((g 8 0 : Nat) : Int)) hx hb (nI_toInt (by omega)) (tgt := 80) dX6_beatsUntilChorus_19 (by decide) (fun c_2 => ?_) (fun c_2 => ?_)
        · skip
          have hfn : fsC g = 60 := fsC_none (fun k hk => chor_0 (by omega))
          refine lv_aload_n hx hb dX6_beatsUntilChorus_80 rfl (lv_at hl 0 rfl) ?_
          refine lv_iconst (v := nI 1) hx hb dX6_beatsUntilChorus_81 (by decide) ?_
          refine run_i (S := Unit) (run_V (As := [.int (nI 1)]) (rest := []) (bs := [moC E b (upn z 0 0) g gs ar]) (cb := [moC E b (upn z 0 0) g gs ar]) hx hb hml hown hts hK hZ hA (c_X6_fails l E _ b (upn z 0 0) g gs ar  1 ) l_X6_54 rfl ⟨⟨rfl, rfl⟩, Nat.le_of_ble_eq_true rfl, Nat.le_of_ble_eq_true rfl⟩ 10 rfl [0] rfl (by decide) rfl hP hD hS hl.1 rfl (Nat.le_of_ble_eq_true rfl) dX6_beatsUntilChorus_82 ⟨Nat.zero_le _, Nat.zero_le _⟩) hA hP hD hS (isC := [0]) rfl [] [0] (br := []) (bs2 := fun _ => [moC E b (upn (upn z 0 0) 0 1) g gs ar]) rfl (by decide) (fun _ => rfl) (by decide) (fun r u H locs hw hP hD hS => ?_)
          subst hw
          have hmE : moC E b (upn (upn z 0 0) 0 1) g gs ar = moC E b (upn z 0 (if fsC g < 60 then 0 else 1)) g gs ar := by rw [if_neg (by omega), upn_upn]
          rw [hmE] at hP hD; clear hmE
          exact hret _ _ (nI 0) () _ _ hP hD hS rfl (by rw [if_neg (by omega)]) dX6_beatsUntilChorus_85
        · skip
          refine lv_iconst (v := nI 1) hx hb dX6_beatsUntilChorus_22 (by decide) ?_
          refine lv_istore_n (lv' := [(2, .int (nI 1)), (0, .ref (b 0)), (1, .int (nI (i + 1)))]) hx hb dX6_beatsUntilChorus_23 rfl hl (by decide) rfl (fun ls hl => ?_)
          refine lv_iconst (v := nI 0) hx hb dX6_beatsUntilChorus_24 (by decide) ?_
          refine lv_istore_n (lv' := [(3, .int (nI 0)), (2, .int (nI 1)), (0, .ref (b 0)), (1, .int (nI (i + 1)))]) hx hb dX6_beatsUntilChorus_25 rfl hl (by decide) rfl (fun ls hl => ?_)
          have loop26 : ∀ (n : Nat) (j : Nat), (j ≤ g 8 0) → g 8 0 - j < n → ∀ (H : Heap) (locs : List Loc) (ls : Array Slot), va_P E.1 vwCl ([moC E b (upn z 0 0) g gs ar] : List va_W).flatten H → va_D A ([moC E b (upn z 0 0) g gs ar] : List va_W).flatten → va_S A s.heap H locs → lv_has ls 4 [(0, .ref (b 0)), (1, .int (nI (i + 1))), (2, .int (bI (alB g (g 8 1 + (i + 1)) j))), (3, .int (nI j))] → W p l e rm_X6_beatsUntilChorus s m ([.ref (b 0)] : List Value).toArray below meth c H locs 0 0 Q (F0 m 26 ls []) := by
            intro n26
            induction n26 with
            | zero => intro j hj hn26; exact absurd hn26 (Nat.not_lt_zero _)
            | succ n26 ih26 =>
              intro j hj hn26 H locs ls hP hD hS hl
              refine lv_iload_n hx hb dX6_beatsUntilChorus_26 rfl (lv_at hl 3 rfl) ?_
              refine lv_aload_n hx hb dX6_beatsUntilChorus_27 rfl (lv_at hl 0 rfl) ?_
              refine va_get (D := E.1) (ci := 10) (v := .ref (b 1)) (C := RX6) (T := TX6) (N := 20) hx hb hts inX6 hown hK hP 0 rfl rfl 1 (by decide) (hts _ q1435) (fun _ h9 => h9) rfl dX6_beatsUntilChorus_28 ?_
              refine lv_iconst (v := nI 0) hx hb dX6_beatsUntilChorus_31 (by decide) ?_
              refine nv_iald (f := (flat g)) (i := 0) (n := 74) hx hb hK hP 1 0 rfl rfl (by omega) (by decide) dX6_beatsUntilChorus_32 ?_
              refine tp_i (show nI ((flat g) 0) = nI (g 8 0) from rfl) ?_
              refine nv_icmp_ge (X := ((j : Nat) : Int)) (Y := ((g 8 0 : Nat) : Int)) hx hb (nI_toInt (by omega)) (nI_toInt (by omega)) (tgt := 68) dX6_beatsUntilChorus_33 (by decide) (fun c_3 => ?_) (fun c_3 => ?_)
              · skip
                have hl : lv_has ls 4 [(0, .ref (b 0)), (1, .int (nI (i + 1))), (2, .int (bI (chor g (g 8 1 + (i + 1))))), (3, .int (nI j))] := by rw [alB_chor (by omega), show g 8 0 = j by omega]; exact hl
                refine lv_iload_n hx hb dX6_beatsUntilChorus_68 rfl (lv_at hl 2 rfl) ?_
                refine bv_if_eq hx hb (tgt := 74) dX6_beatsUntilChorus_69 (by decide) (fun c_4 => ?_) (fun c_4 => ?_)
                · skip
                  have hne : chor g (g 8 1 + (i + 1)) = false := c_4
                  refine lv_iinc (v := nI (i + 1 + 1)) (lv' := [(1, .int (nI (i + 1 + 1))), (0, .ref (b 0)), (2, .int (bI (chor g (g 8 1 + (i + 1))))), (3, .int (nI j))]) hx hb dX6_beatsUntilChorus_74 hl (k := 1) rfl (nI_add (i + 1) 1) (by decide) rfl (fun ls hl => ?_)
                  refine lv_goto (tgt := 7) hx hb dX6_beatsUntilChorus_77 (by decide) ?_
                  exact ih7 (i + 1) (by omega) (fun j hj => by rcases Nat.lt_or_ge j i with q | q; exact hno j q; rw [show j = i by omega]; exact hne) (by omega) _ _ _ hP hD hS (lv_sub hl [1, 0] rfl)
                · skip
                  have hfi : fsC g = i := fsC_at c_4 hno (by omega)
                  refine lv_iload_n hx hb dX6_beatsUntilChorus_72 rfl (lv_at hl 1 rfl) ?_
                  have hvE : (if fsC g < 60 then 0 else 1) = 0 := if_pos (by omega)
                  have hP : va_P E.1 vwCl ([moC E b (upn z 0 (if fsC g < 60 then 0 else 1)) g gs ar] : List va_W).flatten H := by rw [hvE]; exact hP
                  have hD : va_D A ([moC E b (upn z 0 (if fsC g < 60 then 0 else 1)) g gs ar] : List va_W).flatten := by rw [hvE]; exact hD
                  clear hvE
                  exact hret _ _ (nI (i + 1)) () _ _ hP hD hS rfl (by rw [if_pos (by omega), hfi]) dX6_beatsUntilChorus_73
              · skip
                have hmb := hI.mem (m := j) (by omega)
                have hq0 : 0 < g 1 j := by omega
                have hq1 : g 1 j ≤ 12 := hmb.2.1.2.1
                have hq2 : g 2 j ≤ 12 := by omega
                refine lv_iload_n hx hb dX6_beatsUntilChorus_36 rfl (lv_at hl 2 rfl) ?_
                refine bv_if_eq hx hb (tgt := 60) dX6_beatsUntilChorus_37 (by decide) (fun c_5 => ?_) (fun c_5 => ?_)
                · skip
                  have hal : alB g (g 8 1 + (i + 1)) (j + 1) = false := by show (alB g (g 8 1 + (i + 1)) j && dueB g j (g 8 1 + (i + 1))) = false; rw [c_5]; rfl
                  refine lv_iconst (v := nI 0) hx hb dX6_beatsUntilChorus_60 (by decide) ?_
                  refine lv_istore_n (lv' := [(2, .int (nI 0)), (0, .ref (b 0)), (1, .int (nI (i + 1))), (3, .int (nI j))]) hx hb dX6_beatsUntilChorus_61 rfl hl (by decide) rfl (fun ls hl => ?_)
                  have hl : lv_has ls 4 [(2, .int (bI (alB g (g 8 1 + (i + 1)) (j + 1)))), (0, .ref (b 0)), (1, .int (nI (i + 1))), (3, .int (nI j))] := by rw [show alB g (g 8 1 + (i + 1)) (j + 1) = false from hal]; exact hl
                  refine lv_iinc (v := nI (j + 1)) (lv' := [(3, .int (nI (j + 1))), (2, .int (bI (alB g (g 8 1 + (i + 1)) (j + 1)))), (0, .ref (b 0)), (1, .int (nI (i + 1)))]) hx hb dX6_beatsUntilChorus_62 hl (k := 3) rfl (nI_add j 1) (by decide) rfl (fun ls hl => ?_)
                  refine lv_goto (tgt := 26) hx hb dX6_beatsUntilChorus_65 (by decide) ?_
                  exact ih26 (j + 1) (by omega) (by omega) _ _ _ hP hD hS (lv_sub hl [2, 3, 1, 0] rfl)
                · skip
                  have ha0 := c_5
                  refine lv_aload_n hx hb dX6_beatsUntilChorus_40 rfl (lv_at hl 0 rfl) ?_
                  refine lv_iload_n hx hb dX6_beatsUntilChorus_41 rfl (lv_at hl 3 rfl) ?_
                  refine lv_aload_n hx hb dX6_beatsUntilChorus_42 rfl (lv_at hl 0 rfl) ?_
                  refine va_get (D := E.1) (ci := 10) (v := .ref (b 1)) (C := RX6) (T := TX6) (N := 20) hx hb hts inX6 hown hK hP 0 rfl rfl 1 (by decide) (hts _ q1435) (fun _ h9 => h9) rfl dX6_beatsUntilChorus_43 ?_
                  refine lv_iconst (v := nI 1) hx hb dX6_beatsUntilChorus_46 (by decide) ?_
                  refine nv_iald (f := (flat g)) (i := 1) (n := 74) hx hb hK hP 1 0 rfl rfl (by omega) (by decide) dX6_beatsUntilChorus_47 ?_
                  refine tp_i (show nI ((flat g) 1) = nI (g 8 1) from rfl) ?_
                  refine lv_iload_n hx hb dX6_beatsUntilChorus_48 rfl (lv_at hl 1 rfl) ?_
                  refine nv_iadd hx hb dX6_beatsUntilChorus_49 ?_
                  refine run_i (S := Unit) (run_V (As := [.int (nI j), .int (nI (g 8 1 + (i + 1)))]) (rest := []) (bs := [moC E b (upn z 0 0) g gs ar]) (cb := [moC E b (upn z 0 0) g gs ar]) hx hb hml hown hts hK hZ hA (c_X6_isDue l E _ b (upn z 0 0) g gs ar  j (g 8 1 + (i + 1)) (by omega) hq0 hq1 hq2 (by omega)) l_X6_72 rfl ⟨⟨rfl, rfl⟩, Nat.le_of_ble_eq_true rfl, Nat.le_of_ble_eq_true rfl⟩ 10 rfl [0] rfl (by decide) rfl hP hD hS hl.1 rfl (Nat.le_of_ble_eq_true rfl) dX6_beatsUntilChorus_50 ⟨Nat.zero_le _, Nat.zero_le _⟩) hA hP hD hS (isC := [0]) rfl [] [0] (br := []) (bs2 := fun _ => [moC E b (upn z 0 0) g gs ar]) rfl (by decide) (fun _ => rfl) (by decide) (fun r u H locs hw hP hD hS => ?_)
                  subst hw
                  refine bv_if_eq hx hb (tgt := 60) dX6_beatsUntilChorus_53 (by decide) (fun c_6 => ?_) (fun c_6 => ?_)
                  · skip
                    have hal : alB g (g 8 1 + (i + 1)) (j + 1) = false := by show (alB g (g 8 1 + (i + 1)) j && dueB g j (g 8 1 + (i + 1))) = false; rw [c_6, Bool.and_false]
                    refine lv_iconst (v := nI 0) hx hb dX6_beatsUntilChorus_60 (by decide) ?_
                    refine lv_istore_n (lv' := [(2, .int (nI 0)), (0, .ref (b 0)), (1, .int (nI (i + 1))), (3, .int (nI j))]) hx hb dX6_beatsUntilChorus_61 rfl hl (by decide) rfl (fun ls hl => ?_)
                    have hl : lv_has ls 4 [(2, .int (bI (alB g (g 8 1 + (i + 1)) (j + 1)))), (0, .ref (b 0)), (1, .int (nI (i + 1))), (3, .int (nI j))] := by rw [show alB g (g 8 1 + (i + 1)) (j + 1) = false from hal]; exact hl
                    refine lv_iinc (v := nI (j + 1)) (lv' := [(3, .int (nI (j + 1))), (2, .int (bI (alB g (g 8 1 + (i + 1)) (j + 1)))), (0, .ref (b 0)), (1, .int (nI (i + 1)))]) hx hb dX6_beatsUntilChorus_62 hl (k := 3) rfl (nI_add j 1) (by decide) rfl (fun ls hl => ?_)
                    refine lv_goto (tgt := 26) hx hb dX6_beatsUntilChorus_65 (by decide) ?_
                    exact ih26 (j + 1) (by omega) (by omega) _ _ _ hP hD hS (lv_sub hl [2, 3, 1, 0] rfl)
                  · skip
                    have hal : alB g (g 8 1 + (i + 1)) (j + 1) = true := by show (alB g (g 8 1 + (i + 1)) j && dueB g j (g 8 1 + (i + 1))) = true; rw [ha0, c_6]; rfl
                    refine lv_iconst (v := nI 1) hx hb dX6_beatsUntilChorus_56 (by decide) ?_
                    refine lv_goto (tgt := 61) hx hb dX6_beatsUntilChorus_57 (by decide) ?_
                    refine lv_istore_n (lv' := [(2, .int (nI 1)), (0, .ref (b 0)), (1, .int (nI (i + 1))), (3, .int (nI j))]) hx hb dX6_beatsUntilChorus_61 rfl hl (by decide) rfl (fun ls hl => ?_)
                    have hl : lv_has ls 4 [(2, .int (bI (alB g (g 8 1 + (i + 1)) (j + 1)))), (0, .ref (b 0)), (1, .int (nI (i + 1))), (3, .int (nI j))] := by rw [show alB g (g 8 1 + (i + 1)) (j + 1) = true from hal]; exact hl
                    refine lv_iinc (v := nI (j + 1)) (lv' := [(3, .int (nI (j + 1))), (2, .int (bI (alB g (g 8 1 + (i + 1)) (j + 1)))), (0, .ref (b 0)), (1, .int (nI (i + 1)))]) hx hb dX6_beatsUntilChorus_62 hl (k := 3) rfl (nI_add j 1) (by decide) rfl (fun ls hl => ?_)
                    refine lv_goto (tgt := 26) hx hb dX6_beatsUntilChorus_65 (by decide) ?_
                    exact ih26 (j + 1) (by omega) (by omega) _ _ _ hP hD hS (lv_sub hl [2, 3, 1, 0] rfl)
          have hl : lv_has ls 4 [(3, .int (nI 0)), (2, .int (bI (alB g (g 8 1 + (i + 1)) 0))), (0, .ref (b 0)), (1, .int (nI (i + 1)))] := hl
          exact loop26 _ 0 (by omega) (Nat.lt_succ_self _) _ _ _ hP hD hS (lv_sub hl [2, 3, 1, 0] rfl)
  exact loop7 _ 0 (by omega) (fun j hj => absurd hj (Nat.not_lt_zero _)) (Nat.lt_succ_self _) _ _ _ hP hD hS (lv_sub hl [1, 0] rfl)
abbrev rm_X6_earningsIn : Room := { frames := 3, cells := 0, slots := 0, locals := 69 }
set_option maxHeartbeats 4000000 in
set_option maxRecDepth 100000 in
theorem c_X6_earningsIn (l : Launch) (E : EE) (sz : Nat) (b : Nat → Nat) (z : Nat → Nat) (g : GG) (gs : Nat → GG) (ar : GG) (B : Nat) (hI : IB B g) (hB : B + 60 ≤ 300000) (p0 : Int32) : MI l yX6_earningsIn cX6_earningsIn 4 .int rm_X6_earningsIn [.ref (b 0), .int p0] E sz [moC E b z g gs ar] (fun (r : Int32) (_ : Unit) => r = nI (if 0 ≤ p0.toInt ∧ p0.toInt ≤ 60 then passN g (tn p0) else 0)) (fun _ => [moC E b (upn z 0 (if 0 ≤ p0.toInt ∧ p0.toInt ≤ 60 then 0 else 1)) g (if 0 ≤ p0.toInt ∧ p0.toInt ≤ 60 then upa gs 2 g else gs) ar]) 0 0 := by
  refine mi_go (by decide) (Nat.le_of_ble_eq_true rfl) ?_
  intro p e s m below meth c A Q ls hx hb hml hown hts hK hZ hA hsz hP hD hl hret
  have hS : va_S A s.heap s.heap [] := va_S.rf
  have hl : lv_has ls 4 [(0, .ref (b 0)), (1, .int p0)] := hl
  skip
  have hmc := hI.mc
  have hbu := hI.bud
  refine lv_aload_n hx hb dX6_earningsIn_0 rfl (lv_at hl 0 rfl) ?_
  refine lv_iload_n hx hb dX6_earningsIn_1 rfl (lv_at hl 1 rfl) ?_
  refine lv_iconst (v := nI 0) hx hb dX6_earningsIn_2 (by decide) ?_
  refine lv_bipush (v := nI 60) hx hb dX6_earningsIn_3 (by decide) ?_
  refine run_i (S := Unit) (run_S (As := [.int p0, .int (nI 0), .int (nI 60)]) (rest := [.ref (b 0)]) (bs := [moC E b z g gs ar]) (cb := []) hx hb hml hown hts hK hZ hA (c_X6_in l E _ p0 (nI 0) (nI 60) p0.toInt ((0 : Nat) : Int) ((60 : Nat) : Int) rfl (nI_toInt (by omega)) (nI_toInt (by omega))) l_X6_57 rfl ⟨⟨rfl, rfl⟩, Nat.le_of_ble_eq_true rfl, Nat.le_of_ble_eq_true rfl⟩ [] rfl (by decide) hP hD hS hl.1 rfl (Nat.le_of_ble_eq_true rfl) dX6_earningsIn_5 ⟨Nat.zero_le _, Nat.zero_le _⟩) hA hP hD hS (isC := []) rfl [0] [0] (br := [moC E b z g gs ar]) (bs2 := fun _ => [moC E b z g gs ar]) rfl (by decide) (fun _ => rfl) (by decide) (fun r u H locs hw hP hD hS => ?_)
  subst hw
  refine bv_if_eq hx hb (tgt := 15) dX6_earningsIn_8 (by decide) (fun c_1 => ?_) (fun c_1 => ?_)
  · skip
    have hh : ¬ (0 ≤ p0.toInt ∧ p0.toInt ≤ 60) := fun q => of_decide_eq_false c_1 q
    refine lv_iconst (v := nI 1) hx hb dX6_earningsIn_15 (by decide) ?_
    refine va_put (D := E.1) (ci := 10) (v := .int (nI 1)) (ty := .int) (C := RX6) (T := TX6) (N := 20) hx hb hts inX6 tyX6 tyX6_ok nmX6 hown hK hP hD hS 0 rfl rfl 0 (by decide) (hts _ q1434) (fun _ h9 => h9) rfl (by decide +kernel) rfl rfl (Nat.le_of_ble_eq_true rfl) dX6_earningsIn_16 (fun H locs hP hD hS => ?_)
    have hP : va_P E.1 vwCl ([moC E b (upn z 0 1) g gs ar] : List va_W).flatten H := hP
    have hD : va_D A ([moC E b (upn z 0 1) g gs ar] : List va_W).flatten := hD
    refine lv_aload_n hx hb dX6_earningsIn_19 rfl (lv_at hl 0 rfl) ?_
    refine va_get (D := E.1) (ci := 10) (v := .int (nI 1)) (C := RX6) (T := TX6) (N := 20) hx hb hts inX6 hown hK hP 0 rfl rfl 0 (by decide) (hts _ q1434) (fun _ h9 => h9) rfl dX6_earningsIn_20 ?_
    refine nv_if_le (X := ((1 : Nat) : Int)) hx hb (nI_toInt (by omega)) (tgt := 28) dX6_earningsIn_23 (by decide) (fun c_2 => ?_) (fun c_2 => ?_)
    · exact absurd c_2 (by omega)
    · skip
      refine lv_iconst (v := nI 0) hx hb dX6_earningsIn_26 (by decide) ?_
      have hmE : moC E b (upn z 0 1) g gs ar = moC E b (upn z 0 (if 0 ≤ p0.toInt ∧ p0.toInt ≤ 60 then 0 else 1)) g (if 0 ≤ p0.toInt ∧ p0.toInt ≤ 60 then upa gs 2 g else gs) ar := by rw [if_neg hh, if_neg hh]
      rw [hmE] at hP hD; clear hmE
      exact hret _ _ (nI 0) () _ _ hP hD hS rfl (by rw [if_neg hh]) dX6_earningsIn_27
  · skip
    have hh : 0 ≤ p0.toInt ∧ p0.toInt ≤ 60 := of_decide_eq_true c_1
    obtain ⟨m0, hm0, rfl, em0⟩ := raw_n (x := p0) (by omega)
    refine lv_iconst (v := nI 0) hx hb dX6_earningsIn_11 (by decide) ?_
    refine lv_goto (tgt := 16) hx hb dX6_earningsIn_12 (by decide) ?_
    refine va_put (D := E.1) (ci := 10) (v := .int (nI 0)) (ty := .int) (C := RX6) (T := TX6) (N := 20) hx hb hts inX6 tyX6 tyX6_ok nmX6 hown hK hP hD hS 0 rfl rfl 0 (by decide) (hts _ q1434) (fun _ h9 => h9) rfl (by decide +kernel) rfl rfl (Nat.le_of_ble_eq_true rfl) dX6_earningsIn_16 (fun H locs hP hD hS => ?_)
    have hP : va_P E.1 vwCl ([moC E b (upn z 0 0) g gs ar] : List va_W).flatten H := hP
    have hD : va_D A ([moC E b (upn z 0 0) g gs ar] : List va_W).flatten := hD
    refine lv_aload_n hx hb dX6_earningsIn_19 rfl (lv_at hl 0 rfl) ?_
    refine va_get (D := E.1) (ci := 10) (v := .int (nI 0)) (C := RX6) (T := TX6) (N := 20) hx hb hts inX6 hown hK hP 0 rfl rfl 0 (by decide) (hts _ q1434) (fun _ h9 => h9) rfl dX6_earningsIn_20 ?_
    refine nv_if_le (X := ((0 : Nat) : Int)) hx hb (nI_toInt (by omega)) (tgt := 28) dX6_earningsIn_23 (by decide) (fun c_3 => ?_) (fun c_3 => ?_)
    · skip
      refine lv_iconst (v := nI 0) hx hb dX6_earningsIn_28 (by decide) ?_
      refine lv_istore_n (lv' := [(2, .int (nI 0)), (0, .ref (b 0)), (1, .int (nI m0))]) hx hb dX6_earningsIn_29 rfl hl (by decide) rfl (fun ls hl => ?_)
      have loop30 : ∀ (n : Nat) (i : Nat), (i ≤ 74) → 74 - i < n → ∀ (H : Heap) (locs : List Loc) (ls : Array Slot), va_P E.1 vwCl ([moR E b (upn z 0 0) (upr (moF g gs ar) 4 (fl (flat (gs 2)) (flat g) i))] : List va_W).flatten H → va_D A ([moR E b (upn z 0 0) (upr (moF g gs ar) 4 (fl (flat (gs 2)) (flat g) i))] : List va_W).flatten → va_S A s.heap H locs → lv_has ls 4 [(0, .ref (b 0)), (1, .int (nI m0)), (2, .int (nI i))] → W p l e rm_X6_earningsIn s m ([.ref (b 0), .int (nI m0)] : List Value).toArray below meth c H locs 0 0 Q (F0 m 30 ls []) := by
        intro n30
        induction n30 with
        | zero => intro i hi hn30; exact absurd hn30 (Nat.not_lt_zero _)
        | succ n30 ih30 =>
          intro i hi hn30 H locs ls hP hD hS hl
          refine lv_iload_n hx hb dX6_earningsIn_30 rfl (lv_at hl 2 rfl) ?_
          refine lv_bipush (v := nI 74) hx hb dX6_earningsIn_31 (by decide) ?_
          refine nv_icmp_ge (X := ((i : Nat) : Int)) (Y := ((74 : Nat) : Int)) hx hb (nI_toInt (by omega)) (nI_toInt (by omega)) (tgt := 54) dX6_earningsIn_33 (by decide) (fun c_4 => ?_) (fun c_4 => ?_)
          · skip
            have hP : va_P E.1 vwCl ([moC E b (upn z 0 0) g (upa gs 2 g) ar] : List va_W).flatten H := mo_th (fun j hj => fl_lo (by omega)) hP
            have hD : va_D A ([moC E b (upn z 0 0) g (upa gs 2 g) ar] : List va_W).flatten := mo_D hD
            refine lv_iconst (v := nI 0) hx hb dX6_earningsIn_54 (by decide) ?_
            refine lv_istore_n (lv' := [(2, .int (nI 0)), (0, .ref (b 0)), (1, .int (nI m0))]) hx hb dX6_earningsIn_55 rfl hl (by decide) rfl (fun ls hl => ?_)
            refine lv_iconst (v := nI 0) hx hb dX6_earningsIn_56 (by decide) ?_
            refine lv_istore_n (lv' := [(3, .int (nI 0)), (2, .int (nI 0)), (0, .ref (b 0)), (1, .int (nI m0))]) hx hb dX6_earningsIn_57 rfl hl (by decide) rfl (fun ls hl => ?_)
            have loop58 : ∀ (n : Nat) (i : Nat), (i ≤ m0) → m0 - i < n → ∀ (H : Heap) (locs : List Loc) (ls : Array Slot), va_P E.1 vwCl ([moC E b (upn z 0 0) (passG g i) (upa gs 2 g) ar] : List va_W).flatten H → va_D A ([moC E b (upn z 0 0) (passG g i) (upa gs 2 g) ar] : List va_W).flatten → va_S A s.heap H locs → lv_has ls 4 [(0, .ref (b 0)), (1, .int (nI m0)), (2, .int (nI (passN g i))), (3, .int (nI i))] → W p l e rm_X6_earningsIn s m ([.ref (b 0), .int (nI m0)] : List Value).toArray below meth c H locs 0 0 Q (F0 m 58 ls []) := by
              intro n58
              induction n58 with
              | zero => intro i hi hn58; exact absurd hn58 (Nat.not_lt_zero _)
              | succ n58 ih58 =>
                intro i hi hn58 H locs ls hP hD hS hl
                refine lv_iload_n hx hb dX6_earningsIn_58 rfl (lv_at hl 3 rfl) ?_
                refine lv_iload_n hx hb dX6_earningsIn_59 rfl (lv_at hl 1 rfl) ?_
                refine nv_icmp_ge (X := ((i : Nat) : Int)) (Y := ((m0 : Nat) : Int)) hx hb (nI_toInt (by omega)) (nI_toInt (by omega)) (tgt := 76) dX6_earningsIn_60 (by decide) (fun c_5 => ?_) (fun c_5 => ?_)
                · skip
                  rw [show passN g i = passN g m0 from by rw [show i = m0 by omega]] at hl
                  have hmE : moC E b (upn z 0 0) (passG g i) (upa gs 2 g) ar = moC E b (upn z 0 0) (passG g m0) (upa gs 2 g) ar := by rw [show i = m0 by omega]
                  rw [hmE] at hP hD; clear hmE
                  refine lv_iconst (v := nI 0) hx hb dX6_earningsIn_76 (by decide) ?_
                  refine lv_istore_n (lv' := [(3, .int (nI 0)), (0, .ref (b 0)), (1, .int (nI m0)), (2, .int (nI (passN g m0)))]) hx hb dX6_earningsIn_77 rfl hl (by decide) rfl (fun ls hl => ?_)
                  have loop78 : ∀ (n : Nat) (i : Nat), (i ≤ 74) → 74 - i < n → ∀ (H : Heap) (locs : List Loc) (ls : Array Slot), va_P E.1 vwCl ([moR E b (upn z 0 0) (upr (moF (passG g m0) (upa gs 2 g) ar) 0 (fl (flat (passG g m0)) (flat g) i))] : List va_W).flatten H → va_D A ([moR E b (upn z 0 0) (upr (moF (passG g m0) (upa gs 2 g) ar) 0 (fl (flat (passG g m0)) (flat g) i))] : List va_W).flatten → va_S A s.heap H locs → lv_has ls 4 [(0, .ref (b 0)), (1, .int (nI m0)), (2, .int (nI (passN g m0))), (3, .int (nI i))] → W p l e rm_X6_earningsIn s m ([.ref (b 0), .int (nI m0)] : List Value).toArray below meth c H locs 0 0 Q (F0 m 78 ls []) := by
                    intro n78
                    induction n78 with
                    | zero => intro i hi hn78; exact absurd hn78 (Nat.not_lt_zero _)
                    | succ n78 ih78 =>
                      intro i hi hn78 H locs ls hP hD hS hl
                      refine lv_iload_n hx hb dX6_earningsIn_78 rfl (lv_at hl 3 rfl) ?_
                      refine lv_bipush (v := nI 74) hx hb dX6_earningsIn_79 (by decide) ?_
                      refine nv_icmp_ge (X := ((i : Nat) : Int)) (Y := ((74 : Nat) : Int)) hx hb (nI_toInt (by omega)) (nI_toInt (by omega)) (tgt := 102) dX6_earningsIn_81 (by decide) (fun c_6 => ?_) (fun c_6 => ?_)
                      · skip
                        have hP : va_P E.1 vwCl ([moC E b (upn z 0 0) g (upa gs 2 g) ar] : List va_W).flatten H := mo_s (fun j hj => fl_lo (by omega)) hP
                        have hD : va_D A ([moC E b (upn z 0 0) g (upa gs 2 g) ar] : List va_W).flatten := mo_D hD
                        refine lv_iload_n hx hb dX6_earningsIn_102 rfl (lv_at hl 2 rfl) ?_
                        have hmE : moC E b (upn z 0 0) g (upa gs 2 g) ar = moC E b (upn z 0 (if 0 ≤ (nI m0).toInt ∧ (nI m0).toInt ≤ 60 then 0 else 1)) g (if 0 ≤ (nI m0).toInt ∧ (nI m0).toInt ≤ 60 then upa gs 2 g else gs) ar := by rw [if_pos ⟨by omega, by omega⟩, if_pos ⟨by omega, by omega⟩]
                        rw [hmE] at hP hD; clear hmE
                        exact hret _ _ (nI (passN g m0)) () _ _ hP hD hS rfl (by rw [if_pos ⟨by omega, by omega⟩, tn_nI hm0]) dX6_earningsIn_103
                      · skip
                        refine lv_aload_n hx hb dX6_earningsIn_84 rfl (lv_at hl 0 rfl) ?_
                        refine va_get (D := E.1) (ci := 10) (v := .ref (b 1)) (C := RX6) (T := TX6) (N := 20) hx hb hts inX6 hown hK hP 0 rfl rfl 1 (by decide) (hts _ q1435) (fun _ h9 => h9) rfl dX6_earningsIn_85 ?_
                        refine lv_iload_n hx hb dX6_earningsIn_88 rfl (lv_at hl 3 rfl) ?_
                        refine lv_aload_n hx hb dX6_earningsIn_89 rfl (lv_at hl 0 rfl) ?_
                        refine va_get (D := E.1) (ci := 10) (v := .ref (b 5)) (C := RX6) (T := TX6) (N := 20) hx hb hts inX6 hown hK hP 0 rfl rfl 5 (by decide) (hts _ q1439) (fun _ h9 => h9) rfl dX6_earningsIn_90 ?_
                        refine lv_iload_n hx hb dX6_earningsIn_93 rfl (lv_at hl 3 rfl) ?_
                        refine nv_iald (f := (flat ((upa gs 2 g) 2))) (i := i) (n := 74) hx hb hK hP 5 0 rfl rfl (by omega) (by decide) dX6_earningsIn_94 ?_
                        refine tp_i (show _ = nI ((flat g) i) from rfl) ?_
                        refine nv_iast (f := (fl (flat (passG g m0)) (flat g) i)) (i := i) (v := (flat g) i) (n := 74) hx hb hK hP hD hS 1 0 rfl rfl (by omega) (by decide) dX6_earningsIn_95 (fun H locs hP hD hS => ?_)
                        have hP : va_P E.1 vwCl ([moR E b (upn z 0 0) (upr (moF (passG g m0) (upa gs 2 g) ar) 0 (upn (fl (flat (passG g m0)) (flat g) i) i ((flat g) i)))] : List va_W).flatten H := hP
                        have hD : va_D A ([moR E b (upn z 0 0) (upr (moF (passG g m0) (upa gs 2 g) ar) 0 (upn (fl (flat (passG g m0)) (flat g) i) i ((flat g) i)))] : List va_W).flatten := hD
                        have hmE : moR E b (upn z 0 0) (upr (moF (passG g m0) (upa gs 2 g) ar) 0 (upn (fl (flat (passG g m0)) (flat g) i) i ((flat g) i))) = moR E b (upn z 0 0) (upr (moF (passG g m0) (upa gs 2 g) ar) 0 (fl (flat (passG g m0)) (flat g) (i + 1))) := by rw [fl_step rfl]
                        rw [hmE] at hP hD; clear hmE
                        refine lv_iinc (v := nI (i + 1)) (lv' := [(3, .int (nI (i + 1))), (0, .ref (b 0)), (1, .int (nI m0)), (2, .int (nI (passN g m0)))]) hx hb dX6_earningsIn_96 hl (k := 3) rfl (nI_add i 1) (by decide) rfl (fun ls hl => ?_)
                        refine lv_goto (tgt := 78) hx hb dX6_earningsIn_99 (by decide) ?_
                        exact ih78 (i + 1) (by omega) (by omega) _ _ _ hP hD hS (lv_sub hl [1, 2, 3, 0] rfl)
                  have hmE : moC E b (upn z 0 0) (passG g m0) (upa gs 2 g) ar = moR E b (upn z 0 0) (upr (moF (passG g m0) (upa gs 2 g) ar) 0 (fl (flat (passG g m0)) (flat g) 0)) := mo_pre 0 (f' := (flat g))
                  rw [hmE] at hP hD; clear hmE
                  exact loop78 _ 0 (by omega) (Nat.lt_succ_self _) _ _ _ hP hD hS (lv_sub hl [1, 2, 3, 0] rfl)
                · skip
                  have hI2 := IB_pass hI (k := i) (by omega)
                  have hps := passN_s g i
                  refine lv_iload_n hx hb dX6_earningsIn_63 rfl (lv_at hl 2 rfl) ?_
                  refine lv_aload_n hx hb dX6_earningsIn_64 rfl (lv_at hl 0 rfl) ?_
                  refine run_i (S := Unit) (run_V (As := []) (rest := [.int (nI (passN g i))]) (bs := [moC E b (upn z 0 0) (passG g i) (upa gs 2 g) ar]) (cb := [moC E b (upn z 0 0) (passG g i) (upa gs 2 g) ar]) hx hb hml hown hts hK hZ hA (c_X6_oneBeat l E _ b (upn z 0 0) (passG g i) (upa gs 2 g) ar _ hI2  ) l_X6_96 rfl ⟨⟨rfl, rfl⟩, Nat.le_of_ble_eq_true rfl, Nat.le_of_ble_eq_true rfl⟩ 10 rfl [0] rfl (by decide) rfl hP hD hS hl.1 rfl (Nat.le_of_ble_eq_true rfl) dX6_earningsIn_65 ⟨Nat.zero_le _, Nat.zero_le _⟩) hA hP hD hS (isC := [0]) rfl [] [0] (br := []) (bs2 := fun _ => [moC E b (upn z 0 0) (oneG (passG g i)) (upa gs 2 g) ar]) rfl (by decide) (fun _ => rfl) (by decide) (fun r u H locs hw hP hD hS => ?_)
                  subst hw
                  refine nv_iadd hx hb dX6_earningsIn_68 ?_
                  refine lv_istore_n (lv' := [(2, .int (nI (passN g i + (oneN (passG g i))))), (0, .ref (b 0)), (1, .int (nI m0)), (3, .int (nI i))]) hx hb dX6_earningsIn_69 rfl hl (by decide) rfl (fun ls hl => ?_)
                  rw [show passN g i + (oneN (passG g i)) = passN g (i + 1) from hps] at hl
                  have hmE : moC E b (upn z 0 0) (oneG (passG g i)) (upa gs 2 g) ar = moC E b (upn z 0 0) (passG g (i + 1)) (upa gs 2 g) ar := rfl
                  rw [hmE] at hP hD; clear hmE
                  refine lv_iinc (v := nI (i + 1)) (lv' := [(3, .int (nI (i + 1))), (2, .int (nI (passN g (i + 1)))), (0, .ref (b 0)), (1, .int (nI m0))]) hx hb dX6_earningsIn_70 hl (k := 3) rfl (nI_add i 1) (by decide) rfl (fun ls hl => ?_)
                  refine lv_goto (tgt := 58) hx hb dX6_earningsIn_73 (by decide) ?_
                  exact ih58 (i + 1) (by omega) (by omega) _ _ _ hP hD hS (lv_sub hl [2, 3, 1, 0] rfl)
            have hl : lv_has ls 4 [(3, .int (nI 0)), (2, .int (nI (passN g 0))), (0, .ref (b 0)), (1, .int (nI m0))] := by rw [show passN g 0 = 0 from by unfold passN; exact Nat.sub_self _]; exact hl
            exact loop58 _ 0 (by omega) (Nat.lt_succ_self _) _ _ _ hP hD hS (lv_sub hl [2, 3, 1, 0] rfl)
          · skip
            refine lv_aload_n hx hb dX6_earningsIn_36 rfl (lv_at hl 0 rfl) ?_
            refine va_get (D := E.1) (ci := 10) (v := .ref (b 5)) (C := RX6) (T := TX6) (N := 20) hx hb hts inX6 hown hK hP 0 rfl rfl 5 (by decide) (hts _ q1439) (fun _ h9 => h9) rfl dX6_earningsIn_37 ?_
            refine lv_iload_n hx hb dX6_earningsIn_40 rfl (lv_at hl 2 rfl) ?_
            refine lv_aload_n hx hb dX6_earningsIn_41 rfl (lv_at hl 0 rfl) ?_
            refine va_get (D := E.1) (ci := 10) (v := .ref (b 1)) (C := RX6) (T := TX6) (N := 20) hx hb hts inX6 hown hK hP 0 rfl rfl 1 (by decide) (hts _ q1435) (fun _ h9 => h9) rfl dX6_earningsIn_42 ?_
            refine lv_iload_n hx hb dX6_earningsIn_45 rfl (lv_at hl 2 rfl) ?_
            refine nv_iald (f := (flat g)) (i := i) (n := 74) hx hb hK hP 1 0 rfl rfl (by omega) (by decide) dX6_earningsIn_46 ?_
            refine nv_iast (f := (fl (flat (gs 2)) (flat g) i)) (i := i) (v := (flat g) i) (n := 74) hx hb hK hP hD hS 5 0 rfl rfl (by omega) (by decide) dX6_earningsIn_47 (fun H locs hP hD hS => ?_)
            have hP : va_P E.1 vwCl ([moR E b (upn z 0 0) (upr (moF g gs ar) 4 (upn (fl (flat (gs 2)) (flat g) i) i ((flat g) i)))] : List va_W).flatten H := hP
            have hD : va_D A ([moR E b (upn z 0 0) (upr (moF g gs ar) 4 (upn (fl (flat (gs 2)) (flat g) i) i ((flat g) i)))] : List va_W).flatten := hD
            have hmE : moR E b (upn z 0 0) (upr (moF g gs ar) 4 (upn (fl (flat (gs 2)) (flat g) i) i ((flat g) i))) = moR E b (upn z 0 0) (upr (moF g gs ar) 4 (fl (flat (gs 2)) (flat g) (i + 1))) := by rw [fl_step rfl]
            rw [hmE] at hP hD; clear hmE
            refine lv_iinc (v := nI (i + 1)) (lv' := [(2, .int (nI (i + 1))), (0, .ref (b 0)), (1, .int (nI m0))]) hx hb dX6_earningsIn_48 hl (k := 2) rfl (nI_add i 1) (by decide) rfl (fun ls hl => ?_)
            refine lv_goto (tgt := 30) hx hb dX6_earningsIn_51 (by decide) ?_
            exact ih30 (i + 1) (by omega) (by omega) _ _ _ hP hD hS (lv_sub hl [1, 2, 0] rfl)
      have hmE : moC E b (upn z 0 0) g gs ar = moR E b (upn z 0 0) (upr (moF g gs ar) 4 (fl (flat (gs 2)) (flat g) 0)) := mo_pre 4 (f' := (flat g))
      rw [hmE] at hP hD; clear hmE
      exact loop30 _ 0 (by omega) (Nat.lt_succ_self _) _ _ _ hP hD hS (lv_sub hl [1, 2, 0] rfl)
    · exact absurd c_3 (by omega)
abbrev rm_X6_sharesInFavour : Room := { frames := 2, cells := 0, slots := 0, locals := 46 }
set_option maxHeartbeats 4000000 in
set_option maxRecDepth 100000 in
theorem c_X6_sharesInFavour (l : Launch) (E : EE) (sz : Nat) (b : Nat → Nat) (z : Nat → Nat) (g : GG) (gs : Nat → GG) (ar : GG) (B : Nat) (hI : IB B g) (p0 p1 : Int32) : MI l yX6_sharesInFavour cX6_sharesInFavour 3 .int rm_X6_sharesInFavour [.ref (b 0), .int p0, .int p1] E sz [moC E b z g gs ar] (fun (r : Int32) (_ : Unit) => r = nI (if fMot p0 p1 = 0 then favN g (tn p0) (tn p1) else 0)) (fun _ => [moC E b (upn z 0 (if fMot p0 p1 = 0 then 0 else 1)) g gs ar]) 0 0 := by
  refine mi_go (by decide) (Nat.le_of_ble_eq_true rfl) ?_
  intro p e s m below meth c A Q ls hx hb hml hown hts hK hZ hA hsz hP hD hl hret
  have hS : va_S A s.heap s.heap [] := va_S.rf
  have hl : lv_has ls 3 [(0, .ref (b 0)), (1, .int p0), (2, .int p1)] := hl
  skip
  have hmc := hI.mc
  have hbu := hI.bud
  refine lv_aload_n hx hb dX6_sharesInFavour_0 rfl (lv_at hl 0 rfl) ?_
  refine lv_iload_n hx hb dX6_sharesInFavour_1 rfl (lv_at hl 1 rfl) ?_
  refine lv_iconst (v := nI 0) hx hb dX6_sharesInFavour_2 (by decide) ?_
  refine lv_bipush (v := nI 11) hx hb dX6_sharesInFavour_3 (by decide) ?_
  refine run_i (S := Unit) (run_S (As := [.int p0, .int (nI 0), .int (nI 11)]) (rest := [.ref (b 0)]) (bs := [moC E b z g gs ar]) (cb := []) hx hb hml hown hts hK hZ hA (c_X6_in l E _ p0 (nI 0) (nI 11) p0.toInt ((0 : Nat) : Int) ((11 : Nat) : Int) rfl (nI_toInt (by omega)) (nI_toInt (by omega))) l_X6_57 rfl ⟨⟨rfl, rfl⟩, Nat.le_of_ble_eq_true rfl, Nat.le_of_ble_eq_true rfl⟩ [] rfl (by decide) hP hD hS hl.1 rfl (Nat.le_of_ble_eq_true rfl) dX6_sharesInFavour_5 ⟨Nat.zero_le _, Nat.zero_le _⟩) hA hP hD hS (isC := []) rfl [0] [0] (br := [moC E b z g gs ar]) (bs2 := fun _ => [moC E b z g gs ar]) rfl (by decide) (fun _ => rfl) (by decide) (fun r u H locs hw hP hD hS => ?_)
  subst hw
  refine bv_if_eq hx hb (tgt := 25) dX6_sharesInFavour_8 (by decide) (fun c_1 => ?_) (fun c_1 => ?_)
  · skip
    have c_1 := of_decide_eq_false c_1
    have hf : ¬ fMot p0 p1 = 0 := (by simp only [fMot]; (repeat' split) <;> omega)
    refine lv_iconst (v := nI 1) hx hb dX6_sharesInFavour_25 (by decide) ?_
    refine va_put (D := E.1) (ci := 10) (v := .int (nI 1)) (ty := .int) (C := RX6) (T := TX6) (N := 20) hx hb hts inX6 tyX6 tyX6_ok nmX6 hown hK hP hD hS 0 rfl rfl 0 (by decide) (hts _ q1434) (fun _ h9 => h9) rfl (by decide +kernel) rfl rfl (Nat.le_of_ble_eq_true rfl) dX6_sharesInFavour_26 (fun H locs hP hD hS => ?_)
    have hP : va_P E.1 vwCl ([moC E b (upn z 0 1) g gs ar] : List va_W).flatten H := hP
    have hD : va_D A ([moC E b (upn z 0 1) g gs ar] : List va_W).flatten := hD
    refine lv_aload_n hx hb dX6_sharesInFavour_29 rfl (lv_at hl 0 rfl) ?_
    refine va_get (D := E.1) (ci := 10) (v := .int (nI 1)) (C := RX6) (T := TX6) (N := 20) hx hb hts inX6 hown hK hP 0 rfl rfl 0 (by decide) (hts _ q1434) (fun _ h9 => h9) rfl dX6_sharesInFavour_30 ?_
    refine nv_if_le (X := ((1 : Nat) : Int)) hx hb (nI_toInt (by omega)) (tgt := 40) dX6_sharesInFavour_33 (by decide) (fun c_2 => ?_) (fun c_2 => ?_)
    · exact absurd c_2 (by omega)
    · skip
      refine lv_iconst (v := nI 0) hx hb dX6_sharesInFavour_36 (by decide) ?_
      refine lv_goto (tgt := 46) hx hb dX6_sharesInFavour_37 (by decide) ?_
      have hmE : moC E b (upn z 0 1) g gs ar = moC E b (upn z 0 (if fMot p0 p1 = 0 then 0 else 1)) g gs ar := by rw [if_neg hf]
      rw [hmE] at hP hD; clear hmE
      exact hret _ _ (nI 0) () _ _ hP hD hS rfl (by rw [if_neg hf]) dX6_sharesInFavour_46
  · skip
    have c_1 := of_decide_eq_true c_1
    refine lv_iload_n hx hb dX6_sharesInFavour_11 rfl (lv_at hl 2 rfl) ?_
    refine lv_iconst (v := nI 0) hx hb dX6_sharesInFavour_12 (by decide) ?_
    refine lv_bipush (v := nI 6) hx hb dX6_sharesInFavour_13 (by decide) ?_
    refine run_i (S := Unit) (run_S (As := [.int p1, .int (nI 0), .int (nI 6)]) (rest := [.ref (b 0)]) (bs := [moC E b z g gs ar]) (cb := []) hx hb hml hown hts hK hZ hA (c_X6_in l E _ p1 (nI 0) (nI 6) p1.toInt ((0 : Nat) : Int) ((6 : Nat) : Int) rfl (nI_toInt (by omega)) (nI_toInt (by omega))) l_X6_57 rfl ⟨⟨rfl, rfl⟩, Nat.le_of_ble_eq_true rfl, Nat.le_of_ble_eq_true rfl⟩ [] rfl (by decide) hP hD hS hl.1 rfl (Nat.le_of_ble_eq_true rfl) dX6_sharesInFavour_15 ⟨Nat.zero_le _, Nat.zero_le _⟩) hA hP hD hS (isC := []) rfl [0] [0] (br := [moC E b z g gs ar]) (bs2 := fun _ => [moC E b z g gs ar]) rfl (by decide) (fun _ => rfl) (by decide) (fun r u H locs hw hP hD hS => ?_)
    subst hw
    refine bv_if_eq hx hb (tgt := 25) dX6_sharesInFavour_18 (by decide) (fun c_3 => ?_) (fun c_3 => ?_)
    · skip
      have c_3 := of_decide_eq_false c_3
      have hf : ¬ fMot p0 p1 = 0 := (by simp only [fMot]; (repeat' split) <;> omega)
      refine lv_iconst (v := nI 1) hx hb dX6_sharesInFavour_25 (by decide) ?_
      refine va_put (D := E.1) (ci := 10) (v := .int (nI 1)) (ty := .int) (C := RX6) (T := TX6) (N := 20) hx hb hts inX6 tyX6 tyX6_ok nmX6 hown hK hP hD hS 0 rfl rfl 0 (by decide) (hts _ q1434) (fun _ h9 => h9) rfl (by decide +kernel) rfl rfl (Nat.le_of_ble_eq_true rfl) dX6_sharesInFavour_26 (fun H locs hP hD hS => ?_)
      have hP : va_P E.1 vwCl ([moC E b (upn z 0 1) g gs ar] : List va_W).flatten H := hP
      have hD : va_D A ([moC E b (upn z 0 1) g gs ar] : List va_W).flatten := hD
      refine lv_aload_n hx hb dX6_sharesInFavour_29 rfl (lv_at hl 0 rfl) ?_
      refine va_get (D := E.1) (ci := 10) (v := .int (nI 1)) (C := RX6) (T := TX6) (N := 20) hx hb hts inX6 hown hK hP 0 rfl rfl 0 (by decide) (hts _ q1434) (fun _ h9 => h9) rfl dX6_sharesInFavour_30 ?_
      refine nv_if_le (X := ((1 : Nat) : Int)) hx hb (nI_toInt (by omega)) (tgt := 40) dX6_sharesInFavour_33 (by decide) (fun c_4 => ?_) (fun c_4 => ?_)
      · exact absurd c_4 (by omega)
      · skip
        refine lv_iconst (v := nI 0) hx hb dX6_sharesInFavour_36 (by decide) ?_
        refine lv_goto (tgt := 46) hx hb dX6_sharesInFavour_37 (by decide) ?_
        have hmE : moC E b (upn z 0 1) g gs ar = moC E b (upn z 0 (if fMot p0 p1 = 0 then 0 else 1)) g gs ar := by rw [if_neg hf]
        rw [hmE] at hP hD; clear hmE
        exact hret _ _ (nI 0) () _ _ hP hD hS rfl (by rw [if_neg hf]) dX6_sharesInFavour_46
    · skip
      have c_3 := of_decide_eq_true c_3
      have hf : fMot p0 p1 = 0 := (by simp only [fMot]; (repeat' split) <;> first | rfl | (exfalso; omega))
      refine lv_iconst (v := nI 0) hx hb dX6_sharesInFavour_21 (by decide) ?_
      refine lv_goto (tgt := 26) hx hb dX6_sharesInFavour_22 (by decide) ?_
      refine va_put (D := E.1) (ci := 10) (v := .int (nI 0)) (ty := .int) (C := RX6) (T := TX6) (N := 20) hx hb hts inX6 tyX6 tyX6_ok nmX6 hown hK hP hD hS 0 rfl rfl 0 (by decide) (hts _ q1434) (fun _ h9 => h9) rfl (by decide +kernel) rfl rfl (Nat.le_of_ble_eq_true rfl) dX6_sharesInFavour_26 (fun H locs hP hD hS => ?_)
      have hP : va_P E.1 vwCl ([moC E b (upn z 0 0) g gs ar] : List va_W).flatten H := hP
      have hD : va_D A ([moC E b (upn z 0 0) g gs ar] : List va_W).flatten := hD
      refine lv_aload_n hx hb dX6_sharesInFavour_29 rfl (lv_at hl 0 rfl) ?_
      refine va_get (D := E.1) (ci := 10) (v := .int (nI 0)) (C := RX6) (T := TX6) (N := 20) hx hb hts inX6 hown hK hP 0 rfl rfl 0 (by decide) (hts _ q1434) (fun _ h9 => h9) rfl dX6_sharesInFavour_30 ?_
      refine nv_if_le (X := ((0 : Nat) : Int)) hx hb (nI_toInt (by omega)) (tgt := 40) dX6_sharesInFavour_33 (by decide) (fun c_5 => ?_) (fun c_5 => ?_)
      · skip
        obtain ⟨m0, hm0, rfl, em0⟩ := raw_n (x := p0) (by omega)
        obtain ⟨n0, hn0, rfl, en0⟩ := raw_n (x := p1) (by omega)
        refine lv_aload_n hx hb dX6_sharesInFavour_40 rfl (lv_at hl 0 rfl) ?_
        refine lv_iload_n hx hb dX6_sharesInFavour_41 rfl (lv_at hl 1 rfl) ?_
        refine lv_iload_n hx hb dX6_sharesInFavour_42 rfl (lv_at hl 2 rfl) ?_
        refine run_i (S := Unit) (run_V (As := [.int (nI m0), .int (nI n0)]) (rest := []) (bs := [moC E b (upn z 0 0) g gs ar]) (cb := [moC E b (upn z 0 0) g gs ar]) hx hb hml hown hts hK hZ hA (c_X6_favour l E _ b (upn z 0 0) g gs ar _ hI m0 n0 (by omega) (by omega)) l_X6_102 rfl ⟨⟨rfl, rfl⟩, Nat.le_of_ble_eq_true rfl, Nat.le_of_ble_eq_true rfl⟩ 10 rfl [0] rfl (by decide) rfl hP hD hS hl.1 rfl (Nat.le_of_ble_eq_true rfl) dX6_sharesInFavour_43 ⟨Nat.zero_le _, Nat.zero_le _⟩) hA hP hD hS (isC := [0]) rfl [] [0] (br := []) (bs2 := fun _ => [moC E b (upn z 0 0) g gs ar]) rfl (by decide) (fun _ => rfl) (by decide) (fun r u H locs hw hP hD hS => ?_)
        subst hw
        have hmE : moC E b (upn z 0 0) g gs ar = moC E b (upn z 0 (if fMot (nI m0) (nI n0) = 0 then 0 else 1)) g gs ar := by rw [if_pos hf]
        rw [hmE] at hP hD; clear hmE
        exact hret _ _ (nI (favN g m0 n0)) () _ _ hP hD hS rfl (by rw [if_pos hf, tn_nI hm0, tn_nI hn0]) dX6_sharesInFavour_46
      · exact absurd c_5 (by omega)
abbrev rm_X6_carriedTone : Room := { frames := 3, cells := 0, slots := 0, locals := 64 }
set_option maxHeartbeats 4000000 in
set_option maxRecDepth 100000 in
theorem c_X6_carriedTone (l : Launch) (E : EE) (sz : Nat) (b : Nat → Nat) (z : Nat → Nat) (g : GG) (gs : Nat → GG) (ar : GG) (B : Nat) (hI : IB B g) (p0 : Int32) : MI l yX6_carriedTone cX6_carriedTone 3 .int rm_X6_carriedTone [.ref (b 0), .int p0] E sz [moC E b z g gs ar] (fun (r : Int32) (_ : Unit) => r = nI (if (0 ≤ p0.toInt ∧ p0.toInt ≤ 6) ∧ fst1 (fun t => decide (quo g ≤ favN g t (tn p0))) 12 < 12 then fst1 (fun t => decide (quo g ≤ favN g t (tn p0))) 12 else 0)) (fun _ => [moC E b (upn z 0 (if 0 ≤ p0.toInt ∧ p0.toInt ≤ 6 then (if fst1 (fun t => decide (quo g ≤ favN g t (tn p0))) 12 < 12 then 0 else 2) else 1)) g gs ar]) 0 0 := by
  refine mi_go (by decide) (Nat.le_of_ble_eq_true rfl) ?_
  intro p e s m below meth c A Q ls hx hb hml hown hts hK hZ hA hsz hP hD hl hret
  have hS : va_S A s.heap s.heap [] := va_S.rf
  have hl : lv_has ls 3 [(0, .ref (b 0)), (1, .int p0)] := hl
  skip
  have hmc := hI.mc
  have hbu := hI.bud
  have hsh : allSh g ≤ 50 * g 8 0 := hI.shs (Nat.le_refl _)
  have hqd : quo g = allSh g / 2 + 1 := rfl
  refine lv_aload_n hx hb dX6_carriedTone_0 rfl (lv_at hl 0 rfl) ?_
  refine lv_iload_n hx hb dX6_carriedTone_1 rfl (lv_at hl 1 rfl) ?_
  refine lv_iconst (v := nI 0) hx hb dX6_carriedTone_2 (by decide) ?_
  refine lv_bipush (v := nI 6) hx hb dX6_carriedTone_3 (by decide) ?_
  refine run_i (S := Unit) (run_S (As := [.int p0, .int (nI 0), .int (nI 6)]) (rest := [.ref (b 0)]) (bs := [moC E b z g gs ar]) (cb := []) hx hb hml hown hts hK hZ hA (c_X6_in l E _ p0 (nI 0) (nI 6) p0.toInt ((0 : Nat) : Int) ((6 : Nat) : Int) rfl (nI_toInt (by omega)) (nI_toInt (by omega))) l_X6_57 rfl ⟨⟨rfl, rfl⟩, Nat.le_of_ble_eq_true rfl, Nat.le_of_ble_eq_true rfl⟩ [] rfl (by decide) hP hD hS hl.1 rfl (Nat.le_of_ble_eq_true rfl) dX6_carriedTone_5 ⟨Nat.zero_le _, Nat.zero_le _⟩) hA hP hD hS (isC := []) rfl [0] [0] (br := [moC E b z g gs ar]) (bs2 := fun _ => [moC E b z g gs ar]) rfl (by decide) (fun _ => rfl) (by decide) (fun r u H locs hw hP hD hS => ?_)
  subst hw
  refine bv_if_eq hx hb (tgt := 15) dX6_carriedTone_8 (by decide) (fun c_1 => ?_) (fun c_1 => ?_)
  · skip
    have hh : ¬ (0 ≤ p0.toInt ∧ p0.toInt ≤ 6) := fun q => of_decide_eq_false c_1 q
    refine lv_iconst (v := nI 1) hx hb dX6_carriedTone_15 (by decide) ?_
    refine va_put (D := E.1) (ci := 10) (v := .int (nI 1)) (ty := .int) (C := RX6) (T := TX6) (N := 20) hx hb hts inX6 tyX6 tyX6_ok nmX6 hown hK hP hD hS 0 rfl rfl 0 (by decide) (hts _ q1434) (fun _ h9 => h9) rfl (by decide +kernel) rfl rfl (Nat.le_of_ble_eq_true rfl) dX6_carriedTone_16 (fun H locs hP hD hS => ?_)
    have hP : va_P E.1 vwCl ([moC E b (upn z 0 1) g gs ar] : List va_W).flatten H := hP
    have hD : va_D A ([moC E b (upn z 0 1) g gs ar] : List va_W).flatten := hD
    refine lv_aload_n hx hb dX6_carriedTone_19 rfl (lv_at hl 0 rfl) ?_
    refine va_get (D := E.1) (ci := 10) (v := .int (nI 1)) (C := RX6) (T := TX6) (N := 20) hx hb hts inX6 hown hK hP 0 rfl rfl 0 (by decide) (hts _ q1434) (fun _ h9 => h9) rfl dX6_carriedTone_20 ?_
    refine nv_if_le (X := ((1 : Nat) : Int)) hx hb (nI_toInt (by omega)) (tgt := 28) dX6_carriedTone_23 (by decide) (fun c_2 => ?_) (fun c_2 => ?_)
    · exact absurd c_2 (by omega)
    · skip
      refine lv_iconst (v := nI 0) hx hb dX6_carriedTone_26 (by decide) ?_
      have hmE : moC E b (upn z 0 1) g gs ar = moC E b (upn z 0 (if 0 ≤ p0.toInt ∧ p0.toInt ≤ 6 then (if fst1 (fun t => decide (quo g ≤ favN g t (tn p0))) 12 < 12 then 0 else 2) else 1)) g gs ar := by rw [if_neg hh]
      rw [hmE] at hP hD; clear hmE
      exact hret _ _ (nI 0) () _ _ hP hD hS rfl (by rw [if_neg (fun q => hh q.1)]) dX6_carriedTone_27
  · skip
    have hh : 0 ≤ p0.toInt ∧ p0.toInt ≤ 6 := of_decide_eq_true c_1
    obtain ⟨m0, hm0, rfl, em0⟩ := raw_n (x := p0) (by omega)
    refine lv_iconst (v := nI 0) hx hb dX6_carriedTone_11 (by decide) ?_
    refine lv_goto (tgt := 16) hx hb dX6_carriedTone_12 (by decide) ?_
    refine va_put (D := E.1) (ci := 10) (v := .int (nI 0)) (ty := .int) (C := RX6) (T := TX6) (N := 20) hx hb hts inX6 tyX6 tyX6_ok nmX6 hown hK hP hD hS 0 rfl rfl 0 (by decide) (hts _ q1434) (fun _ h9 => h9) rfl (by decide +kernel) rfl rfl (Nat.le_of_ble_eq_true rfl) dX6_carriedTone_16 (fun H locs hP hD hS => ?_)
    have hP : va_P E.1 vwCl ([moC E b (upn z 0 0) g gs ar] : List va_W).flatten H := hP
    have hD : va_D A ([moC E b (upn z 0 0) g gs ar] : List va_W).flatten := hD
    refine lv_aload_n hx hb dX6_carriedTone_19 rfl (lv_at hl 0 rfl) ?_
    refine va_get (D := E.1) (ci := 10) (v := .int (nI 0)) (C := RX6) (T := TX6) (N := 20) hx hb hts inX6 hown hK hP 0 rfl rfl 0 (by decide) (hts _ q1434) (fun _ h9 => h9) rfl dX6_carriedTone_20 ?_
    refine nv_if_le (X := ((0 : Nat) : Int)) hx hb (nI_toInt (by omega)) (tgt := 28) dX6_carriedTone_23 (by decide) (fun c_3 => ?_) (fun c_3 => ?_)
    · skip
      refine lv_iconst (v := nI 0) hx hb dX6_carriedTone_28 (by decide) ?_
      refine lv_istore_n (lv' := [(2, .int (nI 0)), (0, .ref (b 0)), (1, .int (nI m0))]) hx hb dX6_carriedTone_29 rfl hl (by decide) rfl (fun ls hl => ?_)
      have loop30 : ∀ (n : Nat) (i : Nat), (i ≤ 12) → (∀ j, j < i → (fun t => decide (quo g ≤ favN g t m0)) j = false) → 12 - i < n → ∀ (H : Heap) (locs : List Loc) (ls : Array Slot), va_P E.1 vwCl ([moC E b (upn z 0 0) g gs ar] : List va_W).flatten H → va_D A ([moC E b (upn z 0 0) g gs ar] : List va_W).flatten → va_S A s.heap H locs → lv_has ls 3 [(0, .ref (b 0)), (1, .int (nI m0)), (2, .int (nI i))] → W p l e rm_X6_carriedTone s m ([.ref (b 0), .int (nI m0)] : List Value).toArray below meth c H locs 0 0 Q (F0 m 30 ls []) := by
        intro n30
        induction n30 with
        | zero => intro i hi hno hn30; exact absurd hn30 (Nat.not_lt_zero _)
        | succ n30 ih30 =>
          intro i hi hno hn30 H locs ls hP hD hS hl
          refine lv_iload_n hx hb dX6_carriedTone_30 rfl (lv_at hl 2 rfl) ?_
          refine lv_bipush (v := nI 12) hx hb dX6_carriedTone_31 (by decide) ?_
          refine nv_icmp_ge (X := ((i : Nat) : Int)) (Y := ((12 : Nat) : Int)) hx hb (nI_toInt (by omega)) (nI_toInt (by omega)) (tgt := 57) dX6_carriedTone_33 (by decide) (fun c_4 => ?_) (fun c_4 => ?_)
          · skip
            have hfn : fst1 (fun t => decide (quo g ≤ favN g t m0)) 12 = 12 := fst1_none (fun j hj => hno j (by omega))
            refine lv_aload_n hx hb dX6_carriedTone_57 rfl (lv_at hl 0 rfl) ?_
            refine lv_iconst (v := nI 2) hx hb dX6_carriedTone_58 (by decide) ?_
            refine run_i (S := Unit) (run_V (As := [.int (nI 2)]) (rest := []) (bs := [moC E b (upn z 0 0) g gs ar]) (cb := [moC E b (upn z 0 0) g gs ar]) hx hb hml hown hts hK hZ hA (c_X6_fails l E _ b (upn z 0 0) g gs ar  2 ) l_X6_54 rfl ⟨⟨rfl, rfl⟩, Nat.le_of_ble_eq_true rfl, Nat.le_of_ble_eq_true rfl⟩ 10 rfl [0] rfl (by decide) rfl hP hD hS hl.1 rfl (Nat.le_of_ble_eq_true rfl) dX6_carriedTone_59 ⟨Nat.zero_le _, Nat.zero_le _⟩) hA hP hD hS (isC := [0]) rfl [] [0] (br := []) (bs2 := fun _ => [moC E b (upn (upn z 0 0) 0 2) g gs ar]) rfl (by decide) (fun _ => rfl) (by decide) (fun r u H locs hw hP hD hS => ?_)
            subst hw
            have hmE : moC E b (upn (upn z 0 0) 0 2) g gs ar = moC E b (upn z 0 (if 0 ≤ (nI m0).toInt ∧ (nI m0).toInt ≤ 6 then (if fst1 (fun t => decide (quo g ≤ favN g t (tn (nI m0)))) 12 < 12 then 0 else 2) else 1)) g gs ar := by rw [if_pos hh, tn_nI hm0, if_neg (by omega), upn_upn]
            rw [hmE] at hP hD; clear hmE
            exact hret _ _ (nI 0) () _ _ hP hD hS rfl (by rw [tn_nI hm0, if_neg (fun q => by omega)]) dX6_carriedTone_62
          · skip
            have hfv : favN g i m0 ≤ 50 * g 8 0 := fav_le hI (Nat.le_refl _)
            refine lv_aload_n hx hb dX6_carriedTone_36 rfl (lv_at hl 0 rfl) ?_
            refine lv_iload_n hx hb dX6_carriedTone_37 rfl (lv_at hl 2 rfl) ?_
            refine lv_iload_n hx hb dX6_carriedTone_38 rfl (lv_at hl 1 rfl) ?_
            refine run_i (S := Unit) (run_V (As := [.int (nI i), .int (nI m0)]) (rest := []) (bs := [moC E b (upn z 0 0) g gs ar]) (cb := [moC E b (upn z 0 0) g gs ar]) hx hb hml hown hts hK hZ hA (c_X6_favour l E _ b (upn z 0 0) g gs ar _ hI i m0 (by omega) (by omega)) l_X6_102 rfl ⟨⟨rfl, rfl⟩, Nat.le_of_ble_eq_true rfl, Nat.le_of_ble_eq_true rfl⟩ 10 rfl [0] rfl (by decide) rfl hP hD hS hl.1 rfl (Nat.le_of_ble_eq_true rfl) dX6_carriedTone_39 ⟨Nat.zero_le _, Nat.zero_le _⟩) hA hP hD hS (isC := [0]) rfl [] [0] (br := []) (bs2 := fun _ => [moC E b (upn z 0 0) g gs ar]) rfl (by decide) (fun _ => rfl) (by decide) (fun r u H locs hw hP hD hS => ?_)
            subst hw
            refine lv_aload_n hx hb dX6_carriedTone_42 rfl (lv_at hl 0 rfl) ?_
            refine run_i (S := Unit) (run_V (As := []) (rest := [.int (nI (favN g i m0))]) (bs := [moC E b (upn z 0 0) g gs ar]) (cb := [moC E b (upn z 0 0) g gs ar]) hx hb hml hown hts hK hZ hA (c_X6_most l E _ b (upn z 0 0) g gs ar _ hI  ) l_X6_86 rfl ⟨⟨rfl, rfl⟩, Nat.le_of_ble_eq_true rfl, Nat.le_of_ble_eq_true rfl⟩ 10 rfl [0] rfl (by decide) rfl hP hD hS hl.1 rfl (Nat.le_of_ble_eq_true rfl) dX6_carriedTone_43 ⟨Nat.zero_le _, Nat.zero_le _⟩) hA hP hD hS (isC := [0]) rfl [] [0] (br := []) (bs2 := fun _ => [moC E b (upn z 0 0) g gs ar]) rfl (by decide) (fun _ => rfl) (by decide) (fun r u H locs hw hP hD hS => ?_)
            subst hw
            refine nv_icmp_lt (X := ((favN g i m0 : Nat) : Int)) (Y := ((quo g : Nat) : Int)) hx hb (nI_toInt (by omega)) (nI_toInt (by omega)) (tgt := 51) dX6_carriedTone_46 (by decide) (fun c_5 => ?_) (fun c_5 => ?_)
            · skip
              have hne : (fun t => decide (quo g ≤ favN g t m0)) i = false := decide_eq_false (by omega)
              refine lv_iinc (v := nI (i + 1)) (lv' := [(2, .int (nI (i + 1))), (0, .ref (b 0)), (1, .int (nI m0))]) hx hb dX6_carriedTone_51 hl (k := 2) rfl (nI_add i 1) (by decide) rfl (fun ls hl => ?_)
              refine lv_goto (tgt := 30) hx hb dX6_carriedTone_54 (by decide) ?_
              exact ih30 (i + 1) (by omega) (fun j hj => by rcases Nat.lt_or_ge j i with q | q; exact hno j q; rw [show j = i by omega]; exact hne) (by omega) _ _ _ hP hD hS (lv_sub hl [1, 2, 0] rfl)
            · skip
              have hfi : fst1 (fun t => decide (quo g ≤ favN g t m0)) 12 = i := fst1_at (decide_eq_true (by omega)) hno (by omega)
              refine lv_iload_n hx hb dX6_carriedTone_49 rfl (lv_at hl 2 rfl) ?_
              have hmE : moC E b (upn z 0 0) g gs ar = moC E b (upn z 0 (if 0 ≤ (nI m0).toInt ∧ (nI m0).toInt ≤ 6 then (if fst1 (fun t => decide (quo g ≤ favN g t (tn (nI m0)))) 12 < 12 then 0 else 2) else 1)) g gs ar := by rw [if_pos hh, tn_nI hm0, if_pos (by omega)]
              rw [hmE] at hP hD; clear hmE
              exact hret _ _ (nI i) () _ _ hP hD hS rfl (by rw [tn_nI hm0, if_pos ⟨hh, by omega⟩, hfi]) dX6_carriedTone_50
      exact loop30 _ 0 (by omega) (fun j hj => absurd hj (Nat.not_lt_zero _)) (Nat.lt_succ_self _) _ _ _ hP hD hS (lv_sub hl [1, 2, 0] rfl)
    · exact absurd c_3 (by omega)
