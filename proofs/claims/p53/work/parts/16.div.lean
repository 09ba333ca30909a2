abbrev rm_X0_divide : Room := { frames := 1, cells := 0, slots := 0, locals := 22 }
set_option maxHeartbeats 4000000 in
set_option maxRecDepth 100000 in
theorem c_X0_divide (l : Launch) (E : EE) (sz : Nat) (b : Nat → Nat) (co re : Nat → Nat) (a : Nat → Nat) (g : GG) (B : Nat) (hI : IB B g) (hz : 0 < g 8 0)  : MI l yX0_divide cX0_divide 6 .int rm_X0_divide [.ref (b 0), .ref (a 0)] E sz [diC E b co re, stC E a g] (fun (r : Int32) (_ : Unit) => r = nI (lef g)) (fun _ => [diC E b (fl co (dq g) (g 8 0)) (fl re (fun m => dr g m + 1) (g 8 0)), stC E a g]) 0 0 := by
  refine mi_go (by decide) (Nat.le_of_ble_eq_true rfl) ?_
  intro p e s m below meth c A Q ls hx hb hml hown hts hK hZ hA hsz hP hD hl hret
  have hS : va_S A s.heap s.heap [] := va_S.rf
  have hl : lv_has ls 6 [(0, .ref (b 0)), (1, .ref (a 0))] := hl
  skip
  have hmc := hI.mc
  have hbu := hI.bud
  have hT := allSh_pos hI hz
  have hsh : allSh g ≤ 50 * g 8 0 := hI.shs (Nat.le_refl _)
  have hlf := lef_lt hT hz
  refine lv_aload_n hx hb dX0_divide_0 rfl (lv_at hl 1 rfl) ?_
  refine run_i (S := Unit) (run_V (As := []) (rest := []) (bs := [diC E b co re, stC E a g]) (cb := [stC E a g]) hx hb hml hown hts hK hZ hA (c_X4_allShares l E _ a g  hmc) l_X0_45 rfl ⟨⟨rfl, rfl⟩, Nat.le_of_ble_eq_true rfl, Nat.le_of_ble_eq_true rfl⟩ 8 rfl [1] rfl (by decide) rfl hP hD hS hl.1 rfl (Nat.le_of_ble_eq_true rfl) dX0_divide_1 ⟨Nat.zero_le _, Nat.zero_le _⟩) hA hP hD hS (isC := [1]) rfl [0] [0, 1] (br := [diC E b co re]) (bs2 := fun _ => [diC E b co re, stC E a g]) rfl (by decide) (fun _ => rfl) (by decide) (fun r u H locs hw hP hD hS => ?_)
  subst hw
  refine lv_istore_n (lv' := [(2, .int (nI (allSh g))), (0, .ref (b 0)), (1, .ref (a 0))]) hx hb dX0_divide_4 rfl hl (by decide) rfl (fun ls hl => ?_)
  refine lv_aload_n hx hb dX0_divide_5 rfl (lv_at hl 2 rfl) ?_
  refine va_get (D := E.1) (ci := 8) (v := .int (nI (g 8 2))) (C := RX4) (T := TX4) (N := 16) hx hb hts inX4 hown hK hP 3 rfl rfl 11 (by decide) (hts _ q94) (fun _ h9 => h9) rfl dX0_divide_6 ?_
  refine lv_istore_n (lv' := [(3, .int (nI (g 8 2))), (2, .int (nI (allSh g))), (0, .ref (b 0)), (1, .ref (a 0))]) hx hb dX0_divide_9 rfl hl (by decide) rfl (fun ls hl => ?_)
  refine lv_iconst (v := nI 0) hx hb dX0_divide_10 (by decide) ?_
  refine lv_istore (lv' := [(4, .int (nI 0)), (3, .int (nI (g 8 2))), (2, .int (nI (allSh g))), (0, .ref (b 0)), (1, .ref (a 0))]) hx hb dX0_divide_11 hl (by decide) rfl (fun ls hl => ?_)
  have loop13 : ∀ (n : Nat) (i : Nat), (i ≤ g 8 0) → g 8 0 - i < n → ∀ (H : Heap) (locs : List Loc) (ls : Array Slot), va_P E.1 vwCl ([diC E b (fl co (dq g) i) (fl re (fun m => dr g m + 1) i), stC E a g] : List va_W).flatten H → va_D A ([diC E b (fl co (dq g) i) (fl re (fun m => dr g m + 1) i), stC E a g] : List va_W).flatten → va_S A s.heap H locs → lv_has ls 6 [(0, .ref (b 0)), (1, .ref (a 0)), (2, .int (nI (allSh g))), (3, .int (nI (g 8 2 - sm (dq g) i))), (4, .int (nI i))] → W p l e rm_X0_divide s m ([.ref (b 0), .ref (a 0)] : List Value).toArray below meth c H locs 0 0 Q (F0 m 13 ls []) := by
    intro n
    induction n with
    | zero => intro i hi hn; exact absurd hn (Nat.not_lt_zero _)
    | succ n ih =>
      intro i hi hn H locs ls hP hD hS hl
      refine lv_iload hx hb dX0_divide_13 (lv_at hl 4 rfl) ?_
      refine lv_aload_n hx hb dX0_divide_15 rfl (lv_at hl 1 rfl) ?_
      refine va_get (D := E.1) (ci := 8) (v := .int (nI (g 8 0))) (C := RX4) (T := TX4) (N := 16) hx hb hts inX4 hown hK hP 3 rfl rfl 8 (by decide) (hts _ q86) (fun _ h9 => h9) rfl dX0_divide_16 ?_
      refine nv_icmp_ge (X := ((i : Nat) : Int)) (Y := ((g 8 0 : Nat) : Int)) hx hb (nI_toInt (by omega)) (nI_toInt (by omega)) (tgt := 90) dX0_divide_19 (by decide) (fun c_1 => ?_) (fun c_1 => ?_)
      · skip
        rw [show (fl co (dq g) i) = (fl co (dq g) (g 8 0)) from by rw [show i = g 8 0 by omega]] at hP hD
        rw [show (fl re (fun m => dr g m + 1) i) = (fl re (fun m => dr g m + 1) (g 8 0)) from by rw [show i = g 8 0 by omega]] at hP hD
        refine lv_iload_n hx hb dX0_divide_90 rfl (lv_at hl 3 rfl) ?_
        exact hret _ _ (nI (g 8 2 - sm (dq g) i)) () _ _ hP hD hS rfl (by rw [show i = g 8 0 by omega]; rfl) dX0_divide_91
      · skip
        have hmb := hI.mem (m := i) (by omega)
        have hpr : g 8 2 * g 0 i ≤ 300000 * 50 := Nat.mul_le_mul (by omega) (by omega)
        have hds := dq_le hT (i := i + 1) (by omega)
        have hde : sm (dq g) (i + 1) = sm (dq g) i + dq g i := rfl
        refine lv_aload_n hx hb dX0_divide_22 rfl (lv_at hl 1 rfl) ?_
        refine va_get (D := E.1) (ci := 8) (v := .int (nI (g 8 2))) (C := RX4) (T := TX4) (N := 16) hx hb hts inX4 hown hK hP 3 rfl rfl 11 (by decide) (hts _ q94) (fun _ h9 => h9) rfl dX0_divide_23 ?_
        refine lv_aload_n hx hb dX0_divide_26 rfl (lv_at hl 1 rfl) ?_
        refine va_get (D := E.1) (ci := 8) (v := .ref (a 1)) (C := RX4) (T := TX4) (N := 16) hx hb hts inX4 hown hK hP 3 rfl rfl 0 (by decide) (hts _ q68) (fun _ h9 => h9) rfl dX0_divide_27 ?_
        refine lv_iload hx hb dX0_divide_30 (lv_at hl 4 rfl) ?_
        refine nv_iald (f := (g 0)) (i := i) (n := 8) hx hb hK hP 4 0 rfl rfl (by omega) (by decide) dX0_divide_32 ?_
        refine nv_imul hx hb dX0_divide_33 ?_
        refine lv_istore (lv' := [(5, .int (nI ((g 8 2) * (g 0 i)))), (0, .ref (b 0)), (1, .ref (a 0)), (2, .int (nI (allSh g))), (3, .int (nI (g 8 2 - sm (dq g) i))), (4, .int (nI i))]) hx hb dX0_divide_34 hl (by decide) rfl (fun ls hl => ?_)
        refine lv_aload_n hx hb dX0_divide_36 rfl (lv_at hl 1 rfl) ?_
        refine va_get (D := E.1) (ci := 4) (v := .ref (b 1)) (C := RX0) (T := TX0) (N := 2) hx hb hts inX0 hown hK hP 0 rfl rfl 0 (by decide) (hts _ q165) (fun _ h9 => h9) rfl dX0_divide_37 ?_
        refine lv_iload hx hb dX0_divide_40 (lv_at hl 5 rfl) ?_
        refine lv_iload_n hx hb dX0_divide_42 rfl (lv_at hl 3 rfl) ?_
        refine nv_if_ne (X := ((allSh g : Nat) : Int)) hx hb (nI_toInt (by omega)) (tgt := 50) dX0_divide_43 (by decide) (fun c_2 => ?_) (fun c_2 => ?_)
        · skip
          refine lv_iload hx hb dX0_divide_50 (lv_at hl 0 rfl) ?_
          refine lv_iload_n hx hb dX0_divide_52 rfl (lv_at hl 3 rfl) ?_
          refine nv_idiv hx hb (by omega) (by omega) (by omega) dX0_divide_53 ?_
          refine nv_iast (f := (fl co (dq g) i)) (i := i) (v := ((g 8 2) * (g 0 i)) / (allSh g)) (n := 8) hx hb hK hP hD hS 1 0 rfl rfl (by omega) (by decide) dX0_divide_54 (fun H locs hP hD hS => ?_)
          have hP : va_P E.1 vwCl ([diC E b (upn (fl co (dq g) i) i (((g 8 2) * (g 0 i)) / (allSh g))) (fl re (fun m => dr g m + 1) i), stC E a g] : List va_W).flatten H := hP
          have hD : va_D A ([diC E b (upn (fl co (dq g) i) i (((g 8 2) * (g 0 i)) / (allSh g))) (fl re (fun m => dr g m + 1) i), stC E a g] : List va_W).flatten := hD
          rw [show (upn (fl co (dq g) i) i (((g 8 2) * (g 0 i)) / (allSh g))) = (fl co (dq g) (i + 1)) from fl_step rfl] at hP hD
          refine lv_aload_n hx hb dX0_divide_55 rfl (lv_at hl 1 rfl) ?_
          refine va_get (D := E.1) (ci := 4) (v := .ref (b 2)) (C := RX0) (T := TX0) (N := 2) hx hb hts inX0 hown hK hP 0 rfl rfl 1 (by decide) (hts _ q166) (fun _ h9 => h9) rfl dX0_divide_56 ?_
          refine lv_iload hx hb dX0_divide_59 (lv_at hl 5 rfl) ?_
          refine lv_iload_n hx hb dX0_divide_61 rfl (lv_at hl 3 rfl) ?_
          refine nv_if_ne (X := ((allSh g : Nat) : Int)) hx hb (nI_toInt (by omega)) (tgt := 69) dX0_divide_62 (by decide) (fun c_3 => ?_) (fun c_3 => ?_)
          · skip
            refine lv_iload hx hb dX0_divide_69 (lv_at hl 0 rfl) ?_
            refine lv_iload_n hx hb dX0_divide_71 rfl (lv_at hl 3 rfl) ?_
            refine nv_irem hx hb (by omega) (by omega) (by omega) dX0_divide_72 ?_
            refine nv_iast1 (f := (fl re (fun m => dr g m + 1) i)) (i := i) (v := (g 8 2 * g 0 i % allSh g + 1)) (n := 8) hx hb hK hP hD hS 2 0 rfl rfl (m1_of _) (by omega) (by decide) dX0_divide_73 (fun H locs hP hD hS => ?_)
            have hP : va_P E.1 vwCl ([diC E b (fl co (dq g) (i + 1)) (upn (fl re (fun m => dr g m + 1) i) i (g 8 2 * g 0 i % allSh g + 1)), stC E a g] : List va_W).flatten H := hP
            have hD : va_D A ([diC E b (fl co (dq g) (i + 1)) (upn (fl re (fun m => dr g m + 1) i) i (g 8 2 * g 0 i % allSh g + 1)), stC E a g] : List va_W).flatten := hD
            rw [show (upn (fl re (fun m => dr g m + 1) i) i (g 8 2 * g 0 i % allSh g + 1)) = (fl re (fun m => dr g m + 1) (i + 1)) from fl_step rfl] at hP hD
            refine lv_iload_n hx hb dX0_divide_74 rfl (lv_at hl 4 rfl) ?_
            refine lv_aload_n hx hb dX0_divide_75 rfl (lv_at hl 1 rfl) ?_
            refine va_get (D := E.1) (ci := 4) (v := .ref (b 1)) (C := RX0) (T := TX0) (N := 2) hx hb hts inX0 hown hK hP 0 rfl rfl 0 (by decide) (hts _ q165) (fun _ h9 => h9) rfl dX0_divide_76 ?_
            refine lv_iload hx hb dX0_divide_79 (lv_at hl 5 rfl) ?_
            refine nv_iald (f := (fl co (dq g) (i + 1))) (i := i) (n := 8) hx hb hK hP 1 0 rfl rfl (by omega) (by decide) dX0_divide_81 ?_
            refine tp_i (congrArg nI (fl_lo (Nat.lt_succ_self i))) ?_
            refine nv_isub hx hb (by omega) dX0_divide_82 ?_
            refine lv_istore_n (lv' := [(3, .int (nI ((g 8 2 - sm (dq g) i) - (dq g i)))), (5, .int (nI ((g 8 2) * (g 0 i)))), (0, .ref (b 0)), (1, .ref (a 0)), (2, .int (nI (allSh g))), (4, .int (nI i))]) hx hb dX0_divide_83 rfl hl (by decide) rfl (fun ls hl => ?_)
            rw [show (g 8 2 - sm (dq g) i) - (dq g i) = g 8 2 - sm (dq g) (i + 1) from by omega] at hl
            refine lv_iinc (v := nI (i + 1)) (lv' := [(4, .int (nI (i + 1))), (3, .int (nI (g 8 2 - sm (dq g) (i + 1)))), (5, .int (nI ((g 8 2) * (g 0 i)))), (0, .ref (b 0)), (1, .ref (a 0)), (2, .int (nI (allSh g)))]) hx hb dX0_divide_84 hl (k := 5) rfl (nI_add i 1) (by decide) rfl (fun ls hl => ?_)
            refine lv_goto (tgt := 13) hx hb dX0_divide_87 (by decide) ?_
            exact ih (i + 1) (by omega) (by omega) _ _ _ hP hD hS (lv_sub hl [3, 4, 5, 1, 0] rfl)
          · exact absurd c_3 (by omega)
        · exact absurd c_2 (by omega)
  rw [show co = fl co (dq g) 0 from fl_0.symm, show re = fl re (fun m => dr g m + 1) 0 from fl_0.symm] at hP hD
  exact loop13 _ 0 (by omega) (Nat.lt_succ_self _) _ _ _ hP hD hS (lv_sub hl [3, 4, 2, 1, 0] rfl)
abbrev rm_X0_greatestRemainder : Room := { frames := 0, cells := 0, slots := 0, locals := 0 }
set_option maxHeartbeats 4000000 in
set_option maxRecDepth 100000 in
theorem c_X0_greatestRemainder (l : Launch) (E : EE) (sz : Nat) (b : Nat → Nat) (co re : Nat → Nat) (n0 : Nat) (h0 : 0 < n0) (h8 : n0 ≤ 8) (hr : ∀ m, m < n0 → re m ≤ 1000) : MI l yX0_greatestRemainder cX0_greatestRemainder 4 .int rm_X0_greatestRemainder [.ref (b 0), .int (nI n0)] E sz [diC E b co re] (fun (r : Int32) (_ : Unit) => r = nI (bs re n0)) (fun _ => [diC E b co re]) 0 0 := by
  refine mi_go (by decide) (Nat.le_of_ble_eq_true rfl) ?_
  intro p e s m below meth c A Q ls hx hb hml hown hts hK hZ hA hsz hP hD hl hret
  have hS : va_S A s.heap s.heap [] := va_S.rf
  have hl : lv_has ls 4 [(0, .ref (b 0)), (1, .int (nI n0))] := hl
  skip
  refine lv_iconst (v := nI 0) hx hb dX0_greatestRemainder_0 (by decide) ?_
  refine lv_istore_n (lv' := [(2, .int (nI 0)), (0, .ref (b 0)), (1, .int (nI n0))]) hx hb dX0_greatestRemainder_1 rfl hl (by decide) rfl (fun ls hl => ?_)
  refine lv_iconst (v := nI 1) hx hb dX0_greatestRemainder_2 (by decide) ?_
  refine lv_istore_n (lv' := [(3, .int (nI 1)), (2, .int (nI 0)), (0, .ref (b 0)), (1, .int (nI n0))]) hx hb dX0_greatestRemainder_3 rfl hl (by decide) rfl (fun ls hl => ?_)
  have loop4 : ∀ (n : Nat) (i : Nat), (i ≤ n0) → (1 ≤ i) → n0 - i < n → ∀ (H : Heap) (locs : List Loc) (ls : Array Slot), va_P E.1 vwCl ([diC E b co re] : List va_W).flatten H → va_D A ([diC E b co re] : List va_W).flatten → va_S A s.heap H locs → lv_has ls 4 [(0, .ref (b 0)), (1, .int (nI n0)), (2, .int (nI (bs re i))), (3, .int (nI i))] → W p l e rm_X0_greatestRemainder s m ([.ref (b 0), .int (nI n0)] : List Value).toArray below meth c H locs 0 0 Q (F0 m 4 ls []) := by
    intro n
    induction n with
    | zero => intro i hi h1 hn; exact absurd hn (Nat.not_lt_zero _)
    | succ n ih =>
      intro i hi h1 hn H locs ls hP hD hS hl
      refine lv_iload_n hx hb dX0_greatestRemainder_4 rfl (lv_at hl 3 rfl) ?_
      refine lv_iload_n hx hb dX0_greatestRemainder_5 rfl (lv_at hl 1 rfl) ?_
      refine nv_icmp_ge (X := ((i : Nat) : Int)) (Y := ((n0 : Nat) : Int)) hx hb (nI_toInt (by omega)) (nI_toInt (by omega)) (tgt := 32) dX0_greatestRemainder_6 (by decide) (fun c_1 => ?_) (fun c_1 => ?_)
      · skip
        refine lv_iload_n hx hb dX0_greatestRemainder_32 rfl (lv_at hl 2 rfl) ?_
        exact hret _ _ (nI (bs re i)) () _ _ hP hD hS rfl (by rw [show i = n0 by omega]) dX0_greatestRemainder_33
      · skip
        have hbl := (bs_max (re := re) (n := i) (by omega)).1
        have hb1 := hr i (by omega)
        have hb2 := hr (bs re i) (by omega)
        refine lv_aload_n hx hb dX0_greatestRemainder_9 rfl (lv_at hl 0 rfl) ?_
        refine va_get (D := E.1) (ci := 4) (v := .ref (b 2)) (C := RX0) (T := TX0) (N := 2) hx hb hts inX0 hown hK hP 0 rfl rfl 1 (by decide) (hts _ q166) (fun _ h9 => h9) rfl dX0_greatestRemainder_10 ?_
        refine lv_iload_n hx hb dX0_greatestRemainder_13 rfl (lv_at hl 3 rfl) ?_
        refine nv_iald1 (f := re) (i := i) (n := 8) hx hb hK hP 2 0 rfl rfl (by omega) (by decide) dX0_greatestRemainder_14 ?_
        refine lv_aload_n hx hb dX0_greatestRemainder_15 rfl (lv_at hl 0 rfl) ?_
        refine va_get (D := E.1) (ci := 4) (v := .ref (b 2)) (C := RX0) (T := TX0) (N := 2) hx hb hts inX0 hown hK hP 0 rfl rfl 1 (by decide) (hts _ q166) (fun _ h9 => h9) rfl dX0_greatestRemainder_16 ?_
        refine lv_iload_n hx hb dX0_greatestRemainder_19 rfl (lv_at hl 2 rfl) ?_
        refine nv_iald1 (f := re) (i := bs re i) (n := 8) hx hb hK hP 2 0 rfl rfl (by omega) (by decide) dX0_greatestRemainder_20 ?_
        refine nv_icmp_le (X := ((re i : Nat) : Int) - 1) (Y := ((re (bs re i) : Nat) : Int) - 1) hx hb (m1_t (by omega)) (m1_t (by omega)) (tgt := 26) dX0_greatestRemainder_21 (by decide) (fun c_2 => ?_) (fun c_2 => ?_)
        · skip
          rw [show bs re i = bs re (i + 1) from (if_neg (by omega)).symm] at hl
          refine lv_iinc (v := nI (i + 1)) (lv' := [(3, .int (nI (i + 1))), (0, .ref (b 0)), (1, .int (nI n0)), (2, .int (nI (bs re (i + 1))))]) hx hb dX0_greatestRemainder_26 hl (k := 3) rfl (nI_add i 1) (by decide) rfl (fun ls hl => ?_)
          refine lv_goto (tgt := 4) hx hb dX0_greatestRemainder_29 (by decide) ?_
          exact ih (i + 1) (by omega) (by omega) (by omega) _ _ _ hP hD hS (lv_sub hl [1, 2, 3, 0] rfl)
        · skip
          have hgr : re (bs re i) < re i := by omega
          refine lv_iload_n hx hb dX0_greatestRemainder_24 rfl (lv_at hl 3 rfl) ?_
          refine lv_istore_n (lv' := [(2, .int (nI i)), (0, .ref (b 0)), (1, .int (nI n0)), (3, .int (nI i))]) hx hb dX0_greatestRemainder_25 rfl hl (by decide) rfl (fun ls hl => ?_)
          have hl : lv_has ls 4 [(2, .int (nI (bs re (i + 1)))), (0, .ref (b 0)), (1, .int (nI n0)), (3, .int (nI i))] := by rw [show bs re (i + 1) = i from if_pos hgr]; exact hl
          refine lv_iinc (v := nI (i + 1)) (lv' := [(3, .int (nI (i + 1))), (2, .int (nI (bs re (i + 1)))), (0, .ref (b 0)), (1, .int (nI n0))]) hx hb dX0_greatestRemainder_26 hl (k := 3) rfl (nI_add i 1) (by decide) rfl (fun ls hl => ?_)
          refine lv_goto (tgt := 4) hx hb dX0_greatestRemainder_29 (by decide) ?_
          exact ih (i + 1) (by omega) (by omega) (by omega) _ _ _ hP hD hS (lv_sub hl [2, 3, 1, 0] rfl)
  have hl : lv_has ls 4 [(3, .int (nI 1)), (2, .int (nI (bs re 1))), (0, .ref (b 0)), (1, .int (nI n0))] := by rw [show bs re 1 = 0 from bs_1]; exact hl
  exact loop4 _ 1 (by omega) (by omega) (Nat.lt_succ_self _) _ _ _ hP hD hS (lv_sub hl [2, 3, 1, 0] rfl)
abbrev rm_X0_giveAll : Room := { frames := 2, cells := 0, slots := 0, locals := 85 }
set_option maxHeartbeats 4000000 in
set_option maxRecDepth 100000 in
theorem c_X0_giveAll (l : Launch) (E : EE) (sz : Nat) (b : Nat → Nat) (co re : Nat → Nat) (a : Nat → Nat) (g : GG) (B : Nat) (hI : IB B g) (hz : 0 < g 8 0)  : MV l yX0_giveAll cX0_giveAll 5 rm_X0_giveAll [.ref (b 0), .ref (a 0)] E sz [diC E b co re, stC E a g] (fun (_ : Unit) => True) (fun _ => [diC E b (gco g co (lef g)) (gre g re (lef g)), stC E a g]) 0 0 := by
  refine mv_go (by decide) (Nat.le_of_ble_eq_true rfl) ?_
  intro p e s m below meth c A Q ls hx hb hml hown hts hK hZ hA hsz hP hD hl hret hnm
  have hS : va_S A s.heap s.heap [] := va_S.rf
  have hl : lv_has ls 5 [(0, .ref (b 0)), (1, .ref (a 0))] := hl
  skip
  have hmc := hI.mc
  have hbu := hI.bud
  have hT := allSh_pos hI hz
  have hsh : allSh g ≤ 50 * g 8 0 := hI.shs (Nat.le_refl _)
  have hlf := lef_lt hT hz
  refine lv_aload_n hx hb dX0_giveAll_0 rfl (lv_at hl 0 rfl) ?_
  refine lv_aload_n hx hb dX0_giveAll_1 rfl (lv_at hl 1 rfl) ?_
  refine run_i (S := Unit) (run_V (As := [.ref (a 0)]) (rest := []) (bs := [diC E b co re, stC E a g]) (cb := [diC E b co re, stC E a g]) hx hb hml hown hts hK hZ hA (c_X0_divide l E _ b co re a g _ hI hz  ) l_X0_22 rfl ⟨⟨rfl, rfl⟩, Nat.le_of_ble_eq_true rfl, Nat.le_of_ble_eq_true rfl⟩ 4 rfl [0, 1] rfl (by decide) rfl hP hD hS hl.1 rfl (Nat.le_of_ble_eq_true rfl) dX0_giveAll_2 ⟨Nat.zero_le _, Nat.zero_le _⟩) hA hP hD hS (isC := [0, 1]) rfl [] [0, 1] (br := []) (bs2 := fun _ => [diC E b (fl co (dq g) (g 8 0)) (fl re (fun m => dr g m + 1) (g 8 0)), stC E a g]) rfl (by decide) (fun _ => rfl) (by decide) (fun r u H locs hw hP hD hS => ?_)
  subst hw
  refine lv_istore_n (lv' := [(2, .int (nI (lef g))), (0, .ref (b 0)), (1, .ref (a 0))]) hx hb dX0_giveAll_5 rfl hl (by decide) rfl (fun ls hl => ?_)
  refine lv_iconst (v := nI 0) hx hb dX0_giveAll_6 (by decide) ?_
  refine lv_istore_n (lv' := [(3, .int (nI 0)), (2, .int (nI (lef g))), (0, .ref (b 0)), (1, .ref (a 0))]) hx hb dX0_giveAll_7 rfl hl (by decide) rfl (fun ls hl => ?_)
  have loop8 : ∀ (n : Nat) (i : Nat), (i ≤ lef g) → lef g - i < n → ∀ (H : Heap) (locs : List Loc) (ls : Array Slot), va_P E.1 vwCl ([diC E b (gco g co i) (gre g re i), stC E a g] : List va_W).flatten H → va_D A ([diC E b (gco g co i) (gre g re i), stC E a g] : List va_W).flatten → va_S A s.heap H locs → lv_has ls 5 [(0, .ref (b 0)), (1, .ref (a 0)), (2, .int (nI (lef g))), (3, .int (nI i))] → W p l e rm_X0_giveAll s m ([.ref (b 0), .ref (a 0)] : List Value).toArray below meth c H locs 0 0 Q (F0 m 8 ls []) := by
    intro n
    induction n with
    | zero => intro i hi hn; exact absurd hn (Nat.not_lt_zero _)
    | succ n ih =>
      intro i hi hn H locs ls hP hD hS hl
      refine lv_iload_n hx hb dX0_giveAll_8 rfl (lv_at hl 3 rfl) ?_
      refine lv_iload_n hx hb dX0_giveAll_9 rfl (lv_at hl 2 rfl) ?_
      refine nv_icmp_ge (X := ((i : Nat) : Int)) (Y := ((lef g : Nat) : Int)) hx hb (nI_toInt (by omega)) (nI_toInt (by omega)) (tgt := 48) dX0_giveAll_10 (by decide) (fun c_1 => ?_) (fun c_1 => ?_)
      · skip
        rw [show (gco g co i) = (gco g co (lef g)) from by rw [show i = lef g by omega]] at hP hD
        rw [show (gre g re i) = (gre g re (lef g)) from by rw [show i = lef g by omega]] at hP hD
        exact hret _ _ () _ _ hP hD hS trivial dX0_giveAll_48
      · skip
        have hlk := luck (g := g) (re := re) (k := i) (by omega)
        have hgr : ∀ m, m < g 8 0 → gre g re i m ≤ 1000 := fun m hm => Nat.le_trans (gre_bd hT hm) (by omega)
        refine lv_aload_n hx hb dX0_giveAll_13 rfl (lv_at hl 0 rfl) ?_
        refine lv_aload_n hx hb dX0_giveAll_14 rfl (lv_at hl 1 rfl) ?_
        refine va_get (D := E.1) (ci := 8) (v := .int (nI (g 8 0))) (C := RX4) (T := TX4) (N := 16) hx hb hts inX4 hown hK hP 3 rfl rfl 8 (by decide) (hts _ q86) (fun _ h9 => h9) rfl dX0_giveAll_15 ?_
        refine run_i (S := Unit) (run_V (As := [.int (nI (g 8 0))]) (rest := []) (bs := [diC E b (gco g co i) (gre g re i), stC E a g]) (cb := [diC E b (gco g co i) (gre g re i)]) hx hb hml hown hts hK hZ hA (c_X0_greatestRemainder l E _ b (gco g co i) (gre g re i) (g 8 0) (by omega) (by omega) hgr) l_X0_41 rfl ⟨⟨rfl, rfl⟩, Nat.le_of_ble_eq_true rfl, Nat.le_of_ble_eq_true rfl⟩ 4 rfl [0] rfl (by decide) rfl hP hD hS hl.1 rfl (Nat.le_of_ble_eq_true rfl) dX0_giveAll_18 ⟨Nat.zero_le _, Nat.zero_le _⟩) hA hP hD hS (isC := [0]) rfl [1] [1, 0] (br := [stC E a g]) (bs2 := fun _ => [diC E b (gco g co i) (gre g re i), stC E a g]) rfl (by decide) (fun _ => rfl) (by decide) (fun r u H locs hw hP hD hS => ?_)
        subst hw
        refine lv_istore (lv' := [(4, .int (nI (bs (gre g re i) (g 8 0)))), (0, .ref (b 0)), (1, .ref (a 0)), (2, .int (nI (lef g))), (3, .int (nI i))]) hx hb dX0_giveAll_21 hl (by decide) rfl (fun ls hl => ?_)
        refine lv_aload_n hx hb dX0_giveAll_23 rfl (lv_at hl 1 rfl) ?_
        refine va_get (D := E.1) (ci := 4) (v := .ref (b 1)) (C := RX0) (T := TX0) (N := 2) hx hb hts inX0 hown hK hP 0 rfl rfl 0 (by decide) (hts _ q165) (fun _ h9 => h9) rfl dX0_giveAll_24 ?_
        refine lv_iload hx hb dX0_giveAll_27 (lv_at hl 0 rfl) ?_
        refine lv_dup2_11 hx hb dX0_giveAll_29 rfl rfl ?_
        refine nv_iald (f := (gco g co i)) (i := bs (gre g re i) (g 8 0)) (n := 8) hx hb hK hP 1 0 rfl rfl (by omega) (by decide) dX0_giveAll_30 ?_
        refine lv_iconst (v := nI 1) hx hb dX0_giveAll_31 (by decide) ?_
        refine nv_iadd hx hb dX0_giveAll_32 ?_
        refine nv_iast (f := (gco g co i)) (i := bs (gre g re i) (g 8 0)) (v := (gco g co i) (bs (gre g re i) (g 8 0)) + 1) (n := 8) hx hb hK hP hD hS 1 0 rfl rfl (by omega) (by decide) dX0_giveAll_33 (fun H locs hP hD hS => ?_)
        have hP : va_P E.1 vwCl ([diC E b (upn (gco g co i) (bs (gre g re i) (g 8 0)) ((gco g co i) (bs (gre g re i) (g 8 0)) + 1)) (gre g re i), stC E a g] : List va_W).flatten H := hP
        have hD : va_D A ([diC E b (upn (gco g co i) (bs (gre g re i) (g 8 0)) ((gco g co i) (bs (gre g re i) (g 8 0)) + 1)) (gre g re i), stC E a g] : List va_W).flatten := hD
        rw [show (upn (gco g co i) (bs (gre g re i) (g 8 0)) ((gco g co i) (bs (gre g re i) (g 8 0)) + 1)) = (gco g co (i + 1)) from gco_s (by omega)] at hP hD
        refine lv_aload_n hx hb dX0_giveAll_34 rfl (lv_at hl 1 rfl) ?_
        refine va_get (D := E.1) (ci := 4) (v := .ref (b 2)) (C := RX0) (T := TX0) (N := 2) hx hb hts inX0 hown hK hP 0 rfl rfl 1 (by decide) (hts _ q166) (fun _ h9 => h9) rfl dX0_giveAll_35 ?_
        refine lv_iload hx hb dX0_giveAll_38 (lv_at hl 0 rfl) ?_
        refine lv_iconst (v := -1) hx hb dX0_giveAll_40 (by decide) ?_
        refine nv_iast1 (f := (gre g re i)) (i := bs (gre g re i) (g 8 0)) (v := 0) (n := 8) hx hb hK hP hD hS 2 0 rfl rfl (by decide) (by omega) (by decide) dX0_giveAll_41 (fun H locs hP hD hS => ?_)
        have hP : va_P E.1 vwCl ([diC E b (gco g co (i + 1)) (upn (gre g re i) (bs (gre g re i) (g 8 0)) 0), stC E a g] : List va_W).flatten H := hP
        have hD : va_D A ([diC E b (gco g co (i + 1)) (upn (gre g re i) (bs (gre g re i) (g 8 0)) 0), stC E a g] : List va_W).flatten := hD
        rw [show (upn (gre g re i) (bs (gre g re i) (g 8 0)) 0) = (gre g re (i + 1)) from gre_s (by omega)] at hP hD
        refine lv_iinc (v := nI (i + 1)) (lv' := [(3, .int (nI (i + 1))), (4, .int (nI (bs (gre g re i) (g 8 0)))), (0, .ref (b 0)), (1, .ref (a 0)), (2, .int (nI (lef g)))]) hx hb dX0_giveAll_42 hl (k := 4) rfl (nI_add i 1) (by decide) rfl (fun ls hl => ?_)
        refine lv_goto (tgt := 8) hx hb dX0_giveAll_45 (by decide) ?_
        exact ih (i + 1) (by omega) (by omega) _ _ _ hP hD hS (lv_sub hl [2, 3, 4, 0] rfl)
  rw [gco_0, gre_0] at hP hD
  exact loop8 _ 0 (by omega) (Nat.lt_succ_self _) _ _ _ hP hD hS (lv_sub hl [2, 3, 1, 0] rfl)
abbrev rm_X0_byGiving : Room := { frames := 3, cells := 0, slots := 0, locals := 144 }
set_option maxHeartbeats 4000000 in
set_option maxRecDepth 100000 in
theorem c_X0_byGiving (l : Launch) (E : EE) (sz : Nat) (b : Nat → Nat) (co re : Nat → Nat) (a : Nat → Nat) (g : GG) (B : Nat) (hI : IB B g) (hz : 0 < g 8 0) (m0 : Nat) (hm : m0 < g 8 0) : MI l yX0_byGiving cX0_byGiving 3 .int rm_X0_byGiving [.ref (b 0), .ref (a 0), .int (nI m0)] E sz [diC E b co re, stC E a g] (fun (r : Int32) (u : (Nat → Nat) × (Nat → Nat)) => r = nI (dv g m0)) (fun u => [diC E b u.1 u.2, stC E a g]) 0 0 := by
  refine mi_go (by decide) (Nat.le_of_ble_eq_true rfl) ?_
  intro p e s m below meth c A Q ls hx hb hml hown hts hK hZ hA hsz hP hD hl hret
  have hS : va_S A s.heap s.heap [] := va_S.rf
  have hl : lv_has ls 3 [(0, .ref (b 0)), (1, .ref (a 0)), (2, .int (nI m0))] := hl
  skip
  have hmc := hI.mc
  have hbu := hI.bud
  have hT := allSh_pos hI hz
  have hsh : allSh g ≤ 50 * g 8 0 := hI.shs (Nat.le_refl _)
  have hlf := lef_lt hT hz
  refine lv_aload_n hx hb dX0_byGiving_0 rfl (lv_at hl 0 rfl) ?_
  refine lv_aload_n hx hb dX0_byGiving_1 rfl (lv_at hl 1 rfl) ?_
  refine run_v (S := Unit) (run_V (As := [.ref (a 0)]) (rest := []) (bs := [diC E b co re, stC E a g]) (cb := [diC E b co re, stC E a g]) hx hb hml hown hts hK hZ hA (c_X0_giveAll l E _ b co re a g _ hI hz  ) l_X0_18 rfl ⟨⟨rfl, rfl⟩, Nat.le_of_ble_eq_true rfl, Nat.le_of_ble_eq_true rfl⟩ 4 rfl [0, 1] rfl (by decide) rfl hP hD hS hl.1 rfl (Nat.le_of_ble_eq_true rfl) dX0_byGiving_2 ⟨Nat.zero_le _, Nat.zero_le _⟩) hA hP hD hS (isC := [0, 1]) rfl [] [0, 1] (br := []) (bs2 := fun _ => [diC E b (gco g co (lef g)) (gre g re (lef g)), stC E a g]) rfl (by decide) (fun _ => rfl) (by decide) (fun u H locs hw hP hD hS => ?_)
  refine lv_aload_n hx hb dX0_byGiving_5 rfl (lv_at hl 0 rfl) ?_
  refine va_get (D := E.1) (ci := 4) (v := .ref (b 1)) (C := RX0) (T := TX0) (N := 2) hx hb hts inX0 hown hK hP 0 rfl rfl 0 (by decide) (hts _ q165) (fun _ h9 => h9) rfl dX0_byGiving_6 ?_
  refine lv_iload_n hx hb dX0_byGiving_9 rfl (lv_at hl 2 rfl) ?_
  refine nv_iald (f := (gco g co (lef g))) (i := m0) (n := 8) hx hb hK hP 1 0 rfl rfl (by omega) (by decide) dX0_byGiving_10 ?_
  exact hret _ _ (nI ((gco g co (lef g)) m0)) (gco g co (lef g), gre g re (lef g)) _ _ hP hD hS rfl (by rw [gco_dv hm]) dX0_byGiving_11
abbrev rm_X0_byCounting : Room := { frames := 2, cells := 0, slots := 0, locals := 85 }
set_option maxHeartbeats 4000000 in
set_option maxRecDepth 100000 in
theorem c_X0_byCounting (l : Launch) (E : EE) (sz : Nat) (b : Nat → Nat) (co re : Nat → Nat) (a : Nat → Nat) (g : GG) (B : Nat) (hI : IB B g) (hz : 0 < g 8 0) (m0 : Nat) (hm : m0 < g 8 0) : MI l yX0_byCounting cX0_byCounting 6 .int rm_X0_byCounting [.ref (b 0), .ref (a 0), .int (nI m0)] E sz [diC E b co re, stC E a g] (fun (r : Int32) (u : (Nat → Nat) × (Nat → Nat)) => r = nI (dv g m0)) (fun u => [diC E b u.1 u.2, stC E a g]) 0 0 := by
  refine mi_go (by decide) (Nat.le_of_ble_eq_true rfl) ?_
  intro p e s m below meth c A Q ls hx hb hml hown hts hK hZ hA hsz hP hD hl hret
  have hS : va_S A s.heap s.heap [] := va_S.rf
  have hl : lv_has ls 6 [(0, .ref (b 0)), (1, .ref (a 0)), (2, .int (nI m0))] := hl
  skip
  have hmc := hI.mc
  have hbu := hI.bud
  have hT := allSh_pos hI hz
  have hsh : allSh g ≤ 50 * g 8 0 := hI.shs (Nat.le_refl _)
  have hlf := lef_lt hT hz
  have hrb : ∀ m, dr g m < 1000 := fun m => Nat.lt_of_lt_of_le (dr_lt hT) (by omega)
  have hdq := dq_bd hI hT hm
  refine lv_aload_n hx hb dX0_byCounting_0 rfl (lv_at hl 0 rfl) ?_
  refine lv_aload_n hx hb dX0_byCounting_1 rfl (lv_at hl 1 rfl) ?_
  refine run_i (S := Unit) (run_V (As := [.ref (a 0)]) (rest := []) (bs := [diC E b co re, stC E a g]) (cb := [diC E b co re, stC E a g]) hx hb hml hown hts hK hZ hA (c_X0_divide l E _ b co re a g _ hI hz  ) l_X0_22 rfl ⟨⟨rfl, rfl⟩, Nat.le_of_ble_eq_true rfl, Nat.le_of_ble_eq_true rfl⟩ 4 rfl [0, 1] rfl (by decide) rfl hP hD hS hl.1 rfl (Nat.le_of_ble_eq_true rfl) dX0_byCounting_2 ⟨Nat.zero_le _, Nat.zero_le _⟩) hA hP hD hS (isC := [0, 1]) rfl [] [0, 1] (br := []) (bs2 := fun _ => [diC E b (fl co (dq g) (g 8 0)) (fl re (fun m => dr g m + 1) (g 8 0)), stC E a g]) rfl (by decide) (fun _ => rfl) (by decide) (fun r u H locs hw hP hD hS => ?_)
  subst hw
  refine lv_istore_n (lv' := [(3, .int (nI (lef g))), (0, .ref (b 0)), (1, .ref (a 0)), (2, .int (nI m0))]) hx hb dX0_byCounting_5 rfl hl (by decide) rfl (fun ls hl => ?_)
  refine lv_iconst (v := nI 0) hx hb dX0_byCounting_6 (by decide) ?_
  refine lv_istore (lv' := [(4, .int (nI 0)), (3, .int (nI (lef g))), (0, .ref (b 0)), (1, .ref (a 0)), (2, .int (nI m0))]) hx hb dX0_byCounting_7 hl (by decide) rfl (fun ls hl => ?_)
  refine lv_iconst (v := nI 0) hx hb dX0_byCounting_9 (by decide) ?_
  refine lv_istore (lv' := [(5, .int (nI 0)), (4, .int (nI 0)), (3, .int (nI (lef g))), (0, .ref (b 0)), (1, .ref (a 0)), (2, .int (nI m0))]) hx hb dX0_byCounting_10 hl (by decide) rfl (fun ls hl => ?_)
  have loop12 : ∀ (n : Nat) (i : Nat), (i ≤ g 8 0) → g 8 0 - i < n → ∀ (H : Heap) (locs : List Loc) (ls : Array Slot), va_P E.1 vwCl ([diC E b (fl co (dq g) (g 8 0)) (fl re (fun m => dr g m + 1) (g 8 0)), stC E a g] : List va_W).flatten H → va_D A ([diC E b (fl co (dq g) (g 8 0)) (fl re (fun m => dr g m + 1) (g 8 0)), stC E a g] : List va_W).flatten → va_S A s.heap H locs → lv_has ls 6 [(0, .ref (b 0)), (1, .ref (a 0)), (2, .int (nI m0)), (3, .int (nI (lef g))), (4, .int (nI (sm (fun o => if bfr g o m0 then 1 else 0) i))), (5, .int (nI i))] → W p l e rm_X0_byCounting s m ([.ref (b 0), .ref (a 0), .int (nI m0)] : List Value).toArray below meth c H locs 0 0 Q (F0 m 12 ls []) := by
    intro n
    induction n with
    | zero => intro i hi hn; exact absurd hn (Nat.not_lt_zero _)
    | succ n ih =>
      intro i hi hn H locs ls hP hD hS hl
      refine lv_iload hx hb dX0_byCounting_12 (lv_at hl 5 rfl) ?_
      refine lv_aload_n hx hb dX0_byCounting_14 rfl (lv_at hl 1 rfl) ?_
      refine va_get (D := E.1) (ci := 8) (v := .int (nI (g 8 0))) (C := RX4) (T := TX4) (N := 16) hx hb hts inX4 hown hK hP 3 rfl rfl 8 (by decide) (hts _ q86) (fun _ h9 => h9) rfl dX0_byCounting_15 ?_
      refine nv_icmp_ge (X := ((i : Nat) : Int)) (Y := ((g 8 0 : Nat) : Int)) hx hb (nI_toInt (by omega)) (nI_toInt (by omega)) (tgt := 68) dX0_byCounting_18 (by decide) (fun c_1 => ?_) (fun c_1 => ?_)
      · skip
        have hri : sm (fun o => if bfr g o m0 then 1 else 0) i = rnk g m0 := by rw [show i = g 8 0 by omega]; rfl
        have hrb2 := rnk_bd hm
        rw [show sm (fun o => if bfr g o m0 then 1 else 0) i = rnk g m0 from hri] at hl
        refine lv_aload_n hx hb dX0_byCounting_68 rfl (lv_at hl 0 rfl) ?_
        refine va_get (D := E.1) (ci := 4) (v := .ref (b 1)) (C := RX0) (T := TX0) (N := 2) hx hb hts inX0 hown hK hP 0 rfl rfl 0 (by decide) (hts _ q165) (fun _ h9 => h9) rfl dX0_byCounting_69 ?_
        refine lv_iload_n hx hb dX0_byCounting_72 rfl (lv_at hl 2 rfl) ?_
        refine nv_iald (f := (fl co (dq g) (g 8 0))) (i := m0) (n := 8) hx hb hK hP 1 0 rfl rfl (by omega) (by decide) dX0_byCounting_73 ?_
        refine tp_i (congrArg nI (fl_lo hm)) ?_
        refine lv_iload hx hb dX0_byCounting_74 (lv_at hl 4 rfl) ?_
        refine lv_iload_n hx hb dX0_byCounting_76 rfl (lv_at hl 3 rfl) ?_
        refine nv_icmp_ge (X := ((rnk g m0 : Nat) : Int)) (Y := ((lef g : Nat) : Int)) hx hb (nI_toInt (by omega)) (nI_toInt (by omega)) (tgt := 84) dX0_byCounting_77 (by decide) (fun c_2 => ?_) (fun c_2 => ?_)
        · skip
          refine lv_iconst (v := nI 0) hx hb dX0_byCounting_84 (by decide) ?_
          refine nv_iadd hx hb dX0_byCounting_85 ?_
          exact hret _ _ (nI (dq g m0 + 0)) (fl co (dq g) (g 8 0), fl re (fun m => dr g m + 1) (g 8 0)) _ _ hP hD hS rfl (by unfold dv; (first | rw [if_pos (by omega)] | rw [if_neg (by omega)])) dX0_byCounting_86
        · skip
          refine lv_iconst (v := nI 1) hx hb dX0_byCounting_80 (by decide) ?_
          refine lv_goto (tgt := 85) hx hb dX0_byCounting_81 (by decide) ?_
          refine nv_iadd hx hb dX0_byCounting_85 ?_
          exact hret _ _ (nI (dq g m0 + 1)) (fl co (dq g) (g 8 0), fl re (fun m => dr g m + 1) (g 8 0)) _ _ hP hD hS rfl (by unfold dv; (first | rw [if_pos (by omega)] | rw [if_neg (by omega)])) dX0_byCounting_86
      · skip
        have hb1 := hrb i
        have hb2 := hrb m0
        refine lv_aload_n hx hb dX0_byCounting_21 rfl (lv_at hl 0 rfl) ?_
        refine va_get (D := E.1) (ci := 4) (v := .ref (b 2)) (C := RX0) (T := TX0) (N := 2) hx hb hts inX0 hown hK hP 0 rfl rfl 1 (by decide) (hts _ q166) (fun _ h9 => h9) rfl dX0_byCounting_22 ?_
        refine lv_iload hx hb dX0_byCounting_25 (lv_at hl 5 rfl) ?_
        refine nv_iald1 (f := (fl re (fun m => dr g m + 1) (g 8 0))) (i := i) (n := 8) hx hb hK hP 2 0 rfl rfl (by omega) (by decide) dX0_byCounting_27 ?_
        refine tp_i (m1_dr hT (by omega)) ?_
        refine lv_aload_n hx hb dX0_byCounting_28 rfl (lv_at hl 0 rfl) ?_
        refine va_get (D := E.1) (ci := 4) (v := .ref (b 2)) (C := RX0) (T := TX0) (N := 2) hx hb hts inX0 hown hK hP 0 rfl rfl 1 (by decide) (hts _ q166) (fun _ h9 => h9) rfl dX0_byCounting_29 ?_
        refine lv_iload_n hx hb dX0_byCounting_32 rfl (lv_at hl 2 rfl) ?_
        refine nv_iald1 (f := (fl re (fun m => dr g m + 1) (g 8 0))) (i := m0) (n := 8) hx hb hK hP 2 0 rfl rfl (by omega) (by decide) dX0_byCounting_33 ?_
        refine tp_i (m1_dr hT (by omega)) ?_
        refine nv_icmp_gt (X := ((dr g i : Nat) : Int)) (Y := ((dr g m0 : Nat) : Int)) hx hb (nI_toInt (by omega)) (nI_toInt (by omega)) (tgt := 59) dX0_byCounting_34 (by decide) (fun c_3 => ?_) (fun c_3 => ?_)
        · skip
          have hbf : bfr g i m0 = true := decide_eq_true (by omega)
          refine lv_iinc (v := nI (sm (fun o => if bfr g o m0 then 1 else 0) i + 1)) (lv' := [(4, .int (nI (sm (fun o => if bfr g o m0 then 1 else 0) i + 1))), (0, .ref (b 0)), (1, .ref (a 0)), (2, .int (nI m0)), (3, .int (nI (lef g))), (5, .int (nI i))]) hx hb dX0_byCounting_59 hl (k := 4) rfl (nI_add (sm (fun o => if bfr g o m0 then 1 else 0) i) 1) (by decide) rfl (fun ls hl => ?_)
          rw [show sm (fun o => if bfr g o m0 then 1 else 0) i + 1 = sm (fun o => if bfr g o m0 then 1 else 0) (i + 1) from sm_if_t (q := fun o => bfr g o m0) (f := fun _ => 1) hbf] at hl
          refine lv_iinc (v := nI (i + 1)) (lv' := [(5, .int (nI (i + 1))), (4, .int (nI (sm (fun o => if bfr g o m0 then 1 else 0) (i + 1)))), (0, .ref (b 0)), (1, .ref (a 0)), (2, .int (nI m0)), (3, .int (nI (lef g)))]) hx hb dX0_byCounting_62 hl (k := 5) rfl (nI_add i 1) (by decide) rfl (fun ls hl => ?_)
          refine lv_goto (tgt := 12) hx hb dX0_byCounting_65 (by decide) ?_
          exact ih (i + 1) (by omega) (by omega) _ _ _ hP hD hS (lv_sub hl [2, 3, 4, 5, 1, 0] rfl)
        · skip
          refine lv_aload_n hx hb dX0_byCounting_37 rfl (lv_at hl 0 rfl) ?_
          refine va_get (D := E.1) (ci := 4) (v := .ref (b 2)) (C := RX0) (T := TX0) (N := 2) hx hb hts inX0 hown hK hP 0 rfl rfl 1 (by decide) (hts _ q166) (fun _ h9 => h9) rfl dX0_byCounting_38 ?_
          refine lv_iload hx hb dX0_byCounting_41 (lv_at hl 5 rfl) ?_
          refine nv_iald1 (f := (fl re (fun m => dr g m + 1) (g 8 0))) (i := i) (n := 8) hx hb hK hP 2 0 rfl rfl (by omega) (by decide) dX0_byCounting_43 ?_
          refine tp_i (m1_dr hT (by omega)) ?_
          refine lv_aload_n hx hb dX0_byCounting_44 rfl (lv_at hl 0 rfl) ?_
          refine va_get (D := E.1) (ci := 4) (v := .ref (b 2)) (C := RX0) (T := TX0) (N := 2) hx hb hts inX0 hown hK hP 0 rfl rfl 1 (by decide) (hts _ q166) (fun _ h9 => h9) rfl dX0_byCounting_45 ?_
          refine lv_iload_n hx hb dX0_byCounting_48 rfl (lv_at hl 2 rfl) ?_
          refine nv_iald1 (f := (fl re (fun m => dr g m + 1) (g 8 0))) (i := m0) (n := 8) hx hb hK hP 2 0 rfl rfl (by omega) (by decide) dX0_byCounting_49 ?_
          refine tp_i (m1_dr hT (by omega)) ?_
          refine nv_icmp_ne (X := ((dr g i : Nat) : Int)) (Y := ((dr g m0 : Nat) : Int)) hx hb (nI_toInt (by omega)) (nI_toInt (by omega)) (tgt := 62) dX0_byCounting_50 (by decide) (fun c_4 => ?_) (fun c_4 => ?_)
          · skip
            rw [show sm (fun o => if bfr g o m0 then 1 else 0) i = sm (fun o => if bfr g o m0 then 1 else 0) (i + 1) from sm_if_f (q := fun o => bfr g o m0) (f := fun _ => 1) (decide_eq_false (by omega))] at hl
            refine lv_iinc (v := nI (i + 1)) (lv' := [(5, .int (nI (i + 1))), (0, .ref (b 0)), (1, .ref (a 0)), (2, .int (nI m0)), (3, .int (nI (lef g))), (4, .int (nI (sm (fun o => if bfr g o m0 then 1 else 0) (i + 1))))]) hx hb dX0_byCounting_62 hl (k := 5) rfl (nI_add i 1) (by decide) rfl (fun ls hl => ?_)
            refine lv_goto (tgt := 12) hx hb dX0_byCounting_65 (by decide) ?_
            exact ih (i + 1) (by omega) (by omega) _ _ _ hP hD hS (lv_sub hl [1, 2, 3, 4, 5, 0] rfl)
          · skip
            refine lv_iload hx hb dX0_byCounting_53 (lv_at hl 5 rfl) ?_
            refine lv_iload_n hx hb dX0_byCounting_55 rfl (lv_at hl 2 rfl) ?_
            refine nv_icmp_ge (X := ((i : Nat) : Int)) (Y := ((m0 : Nat) : Int)) hx hb (nI_toInt (by omega)) (nI_toInt (by omega)) (tgt := 62) dX0_byCounting_56 (by decide) (fun c_5 => ?_) (fun c_5 => ?_)
            · skip
              rw [show sm (fun o => if bfr g o m0 then 1 else 0) i = sm (fun o => if bfr g o m0 then 1 else 0) (i + 1) from sm_if_f (q := fun o => bfr g o m0) (f := fun _ => 1) (decide_eq_false (by omega))] at hl
              refine lv_iinc (v := nI (i + 1)) (lv' := [(5, .int (nI (i + 1))), (0, .ref (b 0)), (1, .ref (a 0)), (2, .int (nI m0)), (3, .int (nI (lef g))), (4, .int (nI (sm (fun o => if bfr g o m0 then 1 else 0) (i + 1))))]) hx hb dX0_byCounting_62 hl (k := 5) rfl (nI_add i 1) (by decide) rfl (fun ls hl => ?_)
              refine lv_goto (tgt := 12) hx hb dX0_byCounting_65 (by decide) ?_
              exact ih (i + 1) (by omega) (by omega) _ _ _ hP hD hS (lv_sub hl [1, 2, 3, 4, 5, 0] rfl)
            · skip
              have hbf : bfr g i m0 = true := decide_eq_true (by omega)
              refine lv_iinc (v := nI (sm (fun o => if bfr g o m0 then 1 else 0) i + 1)) (lv' := [(4, .int (nI (sm (fun o => if bfr g o m0 then 1 else 0) i + 1))), (0, .ref (b 0)), (1, .ref (a 0)), (2, .int (nI m0)), (3, .int (nI (lef g))), (5, .int (nI i))]) hx hb dX0_byCounting_59 hl (k := 4) rfl (nI_add (sm (fun o => if bfr g o m0 then 1 else 0) i) 1) (by decide) rfl (fun ls hl => ?_)
              rw [show sm (fun o => if bfr g o m0 then 1 else 0) i + 1 = sm (fun o => if bfr g o m0 then 1 else 0) (i + 1) from sm_if_t (q := fun o => bfr g o m0) (f := fun _ => 1) hbf] at hl
              refine lv_iinc (v := nI (i + 1)) (lv' := [(5, .int (nI (i + 1))), (4, .int (nI (sm (fun o => if bfr g o m0 then 1 else 0) (i + 1)))), (0, .ref (b 0)), (1, .ref (a 0)), (2, .int (nI m0)), (3, .int (nI (lef g)))]) hx hb dX0_byCounting_62 hl (k := 5) rfl (nI_add i 1) (by decide) rfl (fun ls hl => ?_)
              refine lv_goto (tgt := 12) hx hb dX0_byCounting_65 (by decide) ?_
              exact ih (i + 1) (by omega) (by omega) _ _ _ hP hD hS (lv_sub hl [2, 3, 4, 5, 1, 0] rfl)
  exact loop12 _ 0 (by omega) (Nat.lt_succ_self _) _ _ _ hP hD hS (lv_sub hl [3, 4, 5, 2, 1, 0] rfl)
abbrev rm_X0_payOut : Room := { frames := 3, cells := 0, slots := 0, locals := 144 }
set_option maxHeartbeats 4000000 in
set_option maxRecDepth 100000 in
theorem c_X0_payOut (l : Launch) (E : EE) (sz : Nat) (b : Nat → Nat) (co re : Nat → Nat) (a : Nat → Nat) (g : GG) (B : Nat) (hI : IB B g) (hz : 0 < g 8 0)  : MI l yX0_payOut cX0_payOut 4 .int rm_X0_payOut [.ref (b 0), .ref (a 0)] E sz [diC E b co re, stC E a g] (fun (r : Int32) (u : (Nat → Nat) × (Nat → Nat)) => r = nI (g 8 2)) (fun u => [diC E b u.1 u.2, stC E a (payG g)]) 0 0 := by
  refine mi_go (by decide) (Nat.le_of_ble_eq_true rfl) ?_
  intro p e s m below meth c A Q ls hx hb hml hown hts hK hZ hA hsz hP hD hl hret
  have hS : va_S A s.heap s.heap [] := va_S.rf
  have hl : lv_has ls 4 [(0, .ref (b 0)), (1, .ref (a 0))] := hl
  skip
  have hmc := hI.mc
  have hbu := hI.bud
  have hT := allSh_pos hI hz
  have hsh : allSh g ≤ 50 * g 8 0 := hI.shs (Nat.le_refl _)
  have hlf := lef_lt hT hz
  refine lv_aload_n hx hb dX0_payOut_0 rfl (lv_at hl 0 rfl) ?_
  refine lv_aload_n hx hb dX0_payOut_1 rfl (lv_at hl 1 rfl) ?_
  refine run_v (S := Unit) (run_V (As := [.ref (a 0)]) (rest := []) (bs := [diC E b co re, stC E a g]) (cb := [diC E b co re, stC E a g]) hx hb hml hown hts hK hZ hA (c_X0_giveAll l E _ b co re a g _ hI hz  ) l_X0_18 rfl ⟨⟨rfl, rfl⟩, Nat.le_of_ble_eq_true rfl, Nat.le_of_ble_eq_true rfl⟩ 4 rfl [0, 1] rfl (by decide) rfl hP hD hS hl.1 rfl (Nat.le_of_ble_eq_true rfl) dX0_payOut_2 ⟨Nat.zero_le _, Nat.zero_le _⟩) hA hP hD hS (isC := [0, 1]) rfl [] [0, 1] (br := []) (bs2 := fun _ => [diC E b (gco g co (lef g)) (gre g re (lef g)), stC E a g]) rfl (by decide) (fun _ => rfl) (by decide) (fun u H locs hw hP hD hS => ?_)
  refine lv_iconst (v := nI 0) hx hb dX0_payOut_5 (by decide) ?_
  refine lv_istore_n (lv' := [(2, .int (nI 0)), (0, .ref (b 0)), (1, .ref (a 0))]) hx hb dX0_payOut_6 rfl hl (by decide) rfl (fun ls hl => ?_)
  refine lv_iconst (v := nI 0) hx hb dX0_payOut_7 (by decide) ?_
  refine lv_istore_n (lv' := [(3, .int (nI 0)), (2, .int (nI 0)), (0, .ref (b 0)), (1, .ref (a 0))]) hx hb dX0_payOut_8 rfl hl (by decide) rfl (fun ls hl => ?_)
  have loop9 : ∀ (n : Nat) (i : Nat), (i ≤ g 8 0) → g 8 0 - i < n → ∀ (H : Heap) (locs : List Loc) (ls : Array Slot), va_P E.1 vwCl ([diC E b (gco g co (lef g)) (gre g re (lef g)), stC E a (upr g 5 (fl (g 5) (fun m => g 5 m + dv g m) i))] : List va_W).flatten H → va_D A ([diC E b (gco g co (lef g)) (gre g re (lef g)), stC E a (upr g 5 (fl (g 5) (fun m => g 5 m + dv g m) i))] : List va_W).flatten → va_S A s.heap H locs → lv_has ls 4 [(0, .ref (b 0)), (1, .ref (a 0)), (2, .int (nI (sm (dv g) i))), (3, .int (nI i))] → W p l e rm_X0_payOut s m ([.ref (b 0), .ref (a 0)] : List Value).toArray below meth c H locs 0 0 Q (F0 m 9 ls []) := by
    intro n
    induction n with
    | zero => intro i hi hn; exact absurd hn (Nat.not_lt_zero _)
    | succ n ih =>
      intro i hi hn H locs ls hP hD hS hl
      refine lv_iload_n hx hb dX0_payOut_9 rfl (lv_at hl 3 rfl) ?_
      refine lv_aload_n hx hb dX0_payOut_10 rfl (lv_at hl 1 rfl) ?_
      refine va_get (D := E.1) (ci := 8) (v := .int (nI (g 8 0))) (C := RX4) (T := TX4) (N := 16) hx hb hts inX4 hown hK hP 3 rfl rfl 8 (by decide) (hts _ q86) (fun _ h9 => h9) rfl dX0_payOut_11 ?_
      refine nv_icmp_ge (X := ((i : Nat) : Int)) (Y := ((g 8 0 : Nat) : Int)) hx hb (nI_toInt (by omega)) (nI_toInt (by omega)) (tgt := 47) dX0_payOut_14 (by decide) (fun c_1 => ?_) (fun c_1 => ?_)
      · skip
        have hgE : (upr g 5 (fl (g 5) (fun m => g 5 m + dv g m) i)) = (upr g 5 (fl (g 5) (fun m => g 5 m + dv g m) (g 8 0))) := by rw [show i = g 8 0 by omega]
        rw [hgE] at hP hD; clear hgE
        refine lv_aload_n hx hb dX0_payOut_47 rfl (lv_at hl 1 rfl) ?_
        refine lv_iconst (v := nI 0) hx hb dX0_payOut_48 (by decide) ?_
        refine va_put (D := E.1) (ci := 8) (v := .int (nI 0)) (ty := .int) (C := RX4) (T := TX4) (N := 16) hx hb hts inX4 tyX4 tyX4_ok nmX4 hown hK hP hD hS 3 rfl rfl 11 (by decide) (hts _ q94) (fun _ h9 => h9) rfl (by decide +kernel) rfl rfl (Nat.le_of_ble_eq_true rfl) dX0_payOut_49 (fun H locs hP hD hS => ?_)
        have hP : va_P E.1 vwCl ([diC E b (gco g co (lef g)) (gre g re (lef g)), stC E a (up2 (upr g 5 (fl (g 5) (fun m => g 5 m + dv g m) (g 8 0))) 8 2 0)] : List va_W).flatten H := hP
        have hD : va_D A ([diC E b (gco g co (lef g)) (gre g re (lef g)), stC E a (up2 (upr g 5 (fl (g 5) (fun m => g 5 m + dv g m) (g 8 0))) 8 2 0)] : List va_W).flatten := hD
        refine lv_aload_n hx hb dX0_payOut_52 rfl (lv_at hl 1 rfl) ?_
        refine lv_dup hx hb dX0_payOut_53 rfl ?_
        refine va_get (D := E.1) (ci := 8) (v := .int (nI (g 8 4))) (C := RX4) (T := TX4) (N := 16) hx hb hts inX4 hown hK hP 3 rfl rfl 13 (by decide) (hts _ q99) (fun _ h9 => h9) rfl dX0_payOut_54 ?_
        refine lv_iconst (v := nI 1) hx hb dX0_payOut_57 (by decide) ?_
        refine nv_iadd hx hb dX0_payOut_58 ?_
        refine va_put (D := E.1) (ci := 8) (v := .int (nI (g 8 4 + 1))) (ty := .int) (C := RX4) (T := TX4) (N := 16) hx hb hts inX4 tyX4 tyX4_ok nmX4 hown hK hP hD hS 3 rfl rfl 13 (by decide) (hts _ q99) (fun _ h9 => h9) rfl (by decide +kernel) rfl rfl (Nat.le_of_ble_eq_true rfl) dX0_payOut_59 (fun H locs hP hD hS => ?_)
        have hP : va_P E.1 vwCl ([diC E b (gco g co (lef g)) (gre g re (lef g)), stC E a (up2 (up2 (upr g 5 (fl (g 5) (fun m => g 5 m + dv g m) (g 8 0))) 8 2 0) 8 4 (g 8 4 + 1))] : List va_W).flatten H := hP
        have hD : va_D A ([diC E b (gco g co (lef g)) (gre g re (lef g)), stC E a (up2 (up2 (upr g 5 (fl (g 5) (fun m => g 5 m + dv g m) (g 8 0))) 8 2 0) 8 4 (g 8 4 + 1))] : List va_W).flatten := hD
        refine lv_iload_n hx hb dX0_payOut_62 rfl (lv_at hl 2 rfl) ?_
        exact hret _ _ (nI (sm (dv g) i)) (gco g co (lef g), gre g re (lef g)) _ _ hP hD hS rfl (by rw [show i = g 8 0 by omega, dv_sum hI hz]) dX0_payOut_63
      · skip
        refine lv_aload_n hx hb dX0_payOut_17 rfl (lv_at hl 1 rfl) ?_
        refine va_get (D := E.1) (ci := 8) (v := .ref (a 6)) (C := RX4) (T := TX4) (N := 16) hx hb hts inX4 hown hK hP 3 rfl rfl 5 (by decide) (hts _ q79) (fun _ h9 => h9) rfl dX0_payOut_18 ?_
        refine lv_iload_n hx hb dX0_payOut_21 rfl (lv_at hl 3 rfl) ?_
        refine lv_dup2_11 hx hb dX0_payOut_22 rfl rfl ?_
        refine nv_iald (f := (fl (g 5) (fun m => g 5 m + dv g m) i)) (i := i) (n := 8) hx hb hK hP 9 0 rfl rfl (by omega) (by decide) dX0_payOut_23 ?_
        refine tp_i (congrArg nI fl_at) ?_
        refine lv_aload_n hx hb dX0_payOut_24 rfl (lv_at hl 0 rfl) ?_
        refine va_get (D := E.1) (ci := 4) (v := .ref (b 1)) (C := RX0) (T := TX0) (N := 2) hx hb hts inX0 hown hK hP 0 rfl rfl 0 (by decide) (hts _ q165) (fun _ h9 => h9) rfl dX0_payOut_25 ?_
        refine lv_iload_n hx hb dX0_payOut_28 rfl (lv_at hl 3 rfl) ?_
        refine nv_iald (f := (gco g co (lef g))) (i := i) (n := 8) hx hb hK hP 1 0 rfl rfl (by omega) (by decide) dX0_payOut_29 ?_
        refine tp_i (congrArg nI (gco_dv (by omega))) ?_
        refine nv_iadd hx hb dX0_payOut_30 ?_
        refine nv_iast (f := (fl (g 5) (fun m => g 5 m + dv g m) i)) (i := i) (v := g 5 i + (dv g i)) (n := 8) hx hb hK hP hD hS 9 0 rfl rfl (by omega) (by decide) dX0_payOut_31 (fun H locs hP hD hS => ?_)
        have hP : va_P E.1 vwCl ([diC E b (gco g co (lef g)) (gre g re (lef g)), stC E a (up2 (upr g 5 (fl (g 5) (fun m => g 5 m + dv g m) i)) 5 i (g 5 i + (dv g i)))] : List va_W).flatten H := hP
        have hD : va_D A ([diC E b (gco g co (lef g)) (gre g re (lef g)), stC E a (up2 (upr g 5 (fl (g 5) (fun m => g 5 m + dv g m) i)) 5 i (g 5 i + (dv g i)))] : List va_W).flatten := hD
        have hgE : (up2 (upr g 5 (fl (g 5) (fun m => g 5 m + dv g m) i)) 5 i (g 5 i + (dv g i))) = (upr g 5 (fl (g 5) (fun m => g 5 m + dv g m) (i + 1))) := upr_up2.trans (by rw [fl_step rfl])
        rw [hgE] at hP hD; clear hgE
        refine lv_iload_n hx hb dX0_payOut_32 rfl (lv_at hl 2 rfl) ?_
        refine lv_aload_n hx hb dX0_payOut_33 rfl (lv_at hl 0 rfl) ?_
        refine va_get (D := E.1) (ci := 4) (v := .ref (b 1)) (C := RX0) (T := TX0) (N := 2) hx hb hts inX0 hown hK hP 0 rfl rfl 0 (by decide) (hts _ q165) (fun _ h9 => h9) rfl dX0_payOut_34 ?_
        refine lv_iload_n hx hb dX0_payOut_37 rfl (lv_at hl 3 rfl) ?_
        refine nv_iald (f := (gco g co (lef g))) (i := i) (n := 8) hx hb hK hP 1 0 rfl rfl (by omega) (by decide) dX0_payOut_38 ?_
        refine tp_i (congrArg nI (gco_dv (by omega))) ?_
        refine nv_iadd hx hb dX0_payOut_39 ?_
        refine lv_istore_n (lv' := [(2, .int (nI (sm (dv g) i + (dv g i)))), (0, .ref (b 0)), (1, .ref (a 0)), (3, .int (nI i))]) hx hb dX0_payOut_40 rfl hl (by decide) rfl (fun ls hl => ?_)
        refine lv_iinc (v := nI (i + 1)) (lv' := [(3, .int (nI (i + 1))), (2, .int (nI (sm (dv g) i + (dv g i)))), (0, .ref (b 0)), (1, .ref (a 0))]) hx hb dX0_payOut_41 hl (k := 3) rfl (nI_add i 1) (by decide) rfl (fun ls hl => ?_)
        refine lv_goto (tgt := 9) hx hb dX0_payOut_44 (by decide) ?_
        exact ih (i + 1) (by omega) (by omega) _ _ _ hP hD hS (lv_sub hl [2, 3, 1, 0] rfl)
  rw [show stC E a g = stC E a (upr g 5 (fl (g 5) (fun m => g 5 m + dv g m) 0)) from by rw [fl_0, upr_id]] at hP hD
  exact loop9 _ 0 (by omega) (Nat.lt_succ_self _) _ _ _ hP hD hS (lv_sub hl [2, 3, 1, 0] rfl)
