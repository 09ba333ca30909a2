abbrev rm_X6_winningGroups : Room := { frames := 3, cells := 0, slots := 0, locals := 64 }
set_option maxHeartbeats 4000000 in
set_option maxRecDepth 100000 in
theorem c_X6_winningGroups (l : Launch) (E : EE) (sz : Nat) (b : Nat → Nat) (z : Nat → Nat) (g : GG) (gs : Nat → GG) (ar : GG) (B : Nat) (hI : IB B g)  : MI l yX6_winningGroups cX6_winningGroups 3 .int rm_X6_winningGroups [.ref (b 0)] E sz [moC E b z g gs ar] (fun (r : Int32) (_ : Unit) => r = nI (winN g)) (fun _ => [moC E b (upn z 0 0) g gs ar]) 0 0 := by
  refine mi_go (by decide) (Nat.le_of_ble_eq_true rfl) ?_
  intro p e s m below meth c A Q ls hx hb hml hown hts hK hZ hA hsz hP hD hl hret
  have hS : va_S A s.heap s.heap [] := va_S.rf
  have hl : lv_has ls 3 [(0, .ref (b 0))] := hl
  skip
  have hmc := hI.mc
  have hbu := hI.bud
  have hsh : allSh g ≤ 50 * g 8 0 := hI.shs (Nat.le_refl _)
  have hqd : quo g = allSh g / 2 + 1 := rfl
  have h256 := p256' hI (Nat.le_refl (g 8 0))
  refine lv_aload_n hx hb dX6_winningGroups_0 rfl (lv_at hl 0 rfl) ?_
  refine lv_iconst (v := nI 0) hx hb dX6_winningGroups_1 (by decide) ?_
  refine va_put (D := E.1) (ci := 10) (v := .int (nI 0)) (ty := .int) (C := RX6) (T := TX6) (N := 20) hx hb hts inX6 tyX6 tyX6_ok nmX6 hown hK hP hD hS 0 rfl rfl 0 (by decide) (hts _ q1434) (fun _ h9 => h9) rfl (by decide +kernel) rfl rfl (Nat.le_of_ble_eq_true rfl) dX6_winningGroups_2 (fun H locs hP hD hS => ?_)
  have hP : va_P E.1 vwCl ([moC E b (upn z 0 0) g gs ar] : List va_W).flatten H := hP
  have hD : va_D A ([moC E b (upn z 0 0) g gs ar] : List va_W).flatten := hD
  refine lv_iconst (v := nI 0) hx hb dX6_winningGroups_5 (by decide) ?_
  refine lv_istore_n (lv' := [(1, .int (nI 0)), (0, .ref (b 0))]) hx hb dX6_winningGroups_6 rfl hl (by decide) rfl (fun ls hl => ?_)
  refine lv_iconst (v := nI 0) hx hb dX6_winningGroups_7 (by decide) ?_
  refine lv_istore_n (lv' := [(2, .int (nI 0)), (1, .int (nI 0)), (0, .ref (b 0))]) hx hb dX6_winningGroups_8 rfl hl (by decide) rfl (fun ls hl => ?_)
  have loop9 : ∀ (n : Nat) (i : Nat), (i ≤ 2 ^ g 8 0) → 2 ^ g 8 0 - i < n → ∀ (H : Heap) (locs : List Loc) (ls : Array Slot), va_P E.1 vwCl ([moC E b (upn z 0 0) g gs ar] : List va_W).flatten H → va_D A ([moC E b (upn z 0 0) g gs ar] : List va_W).flatten → va_S A s.heap H locs → lv_has ls 3 [(0, .ref (b 0)), (1, .int (nI (sm (fun q => if wnB g q then 1 else 0) i))), (2, .int (nI i))] → W p l e rm_X6_winningGroups s m ([.ref (b 0)] : List Value).toArray below meth c H locs 0 0 Q (F0 m 9 ls []) := by
    intro n9
    induction n9 with
    | zero => intro i hi hn9; exact absurd hn9 (Nat.not_lt_zero _)
    | succ n9 ih9 =>
      intro i hi hn9 H locs ls hP hD hS hl
      refine lv_iload_n hx hb dX6_winningGroups_9 rfl (lv_at hl 2 rfl) ?_
      refine lv_iconst (v := nI 1) hx hb dX6_winningGroups_10 (by decide) ?_
      refine lv_aload_n hx hb dX6_winningGroups_11 rfl (lv_at hl 0 rfl) ?_
      refine va_get (D := E.1) (ci := 10) (v := .ref (b 1)) (C := RX6) (T := TX6) (N := 20) hx hb hts inX6 hown hK hP 0 rfl rfl 1 (by decide) (hts _ q1435) (fun _ h9 => h9) rfl dX6_winningGroups_12 ?_
      refine lv_iconst (v := nI 0) hx hb dX6_winningGroups_15 (by decide) ?_
      refine nv_iald (f := (flat g)) (i := 0) (n := 74) hx hb hK hP 1 0 rfl rfl (by omega) (by decide) dX6_winningGroups_16 ?_
      refine tp_i (show nI ((flat g) 0) = nI (g 8 0) from rfl) ?_
      refine nv_ishl hx hb (by omega) (by have := Nat.pow_le_pow_right (n := 2) (by decide) hmc; omega) dX6_winningGroups_17 ?_
      refine tp_i (congrArg nI (Nat.one_mul _)) ?_
      refine nv_icmp_ge (X := ((i : Nat) : Int)) (Y := ((2 ^ g 8 0 : Nat) : Int)) hx hb (nI_toInt (by omega)) (nI_toInt (by omega)) (tgt := 47) dX6_winningGroups_18 (by decide) (fun c_1 => ?_) (fun c_1 => ?_)
      · skip
        refine lv_iload_n hx hb dX6_winningGroups_47 rfl (lv_at hl 1 rfl) ?_
        exact hret _ _ (nI (sm (fun q => if wnB g q then 1 else 0) i)) () _ _ hP hD hS rfl (by rw [show i = 2 ^ g 8 0 by omega]; rfl) dX6_winningGroups_48
      · skip
        have hsg : sG g i ≤ allSh g := sgi_le
        refine lv_iload_n hx hb dX6_winningGroups_21 rfl (lv_at hl 1 rfl) ?_
        refine lv_aload_n hx hb dX6_winningGroups_22 rfl (lv_at hl 0 rfl) ?_
        refine lv_iload_n hx hb dX6_winningGroups_23 rfl (lv_at hl 2 rfl) ?_
        refine run_i (S := Unit) (run_V (As := [.int (nI i)]) (rest := [.int (nI (sm (fun q => if wnB g q then 1 else 0) i))]) (bs := [moC E b (upn z 0 0) g gs ar]) (cb := [moC E b (upn z 0 0) g gs ar]) hx hb hml hown hts hK hZ hA (c_X6_sharesOf l E _ b (upn z 0 0) g gs ar _ hI i (by omega)) l_X6_83 rfl ⟨⟨rfl, rfl⟩, Nat.le_of_ble_eq_true rfl, Nat.le_of_ble_eq_true rfl⟩ 10 rfl [0] rfl (by decide) rfl hP hD hS hl.1 rfl (Nat.le_of_ble_eq_true rfl) dX6_winningGroups_24 ⟨Nat.zero_le _, Nat.zero_le _⟩) hA hP hD hS (isC := [0]) rfl [] [0] (br := []) (bs2 := fun _ => [moC E b (upn z 0 0) g gs ar]) rfl (by decide) (fun _ => rfl) (by decide) (fun r u H locs hw hP hD hS => ?_)
        subst hw
        refine lv_aload_n hx hb dX6_winningGroups_27 rfl (lv_at hl 0 rfl) ?_
        refine run_i (S := Unit) (run_V (As := []) (rest := [.int (nI (sG g i)), .int (nI (sm (fun q => if wnB g q then 1 else 0) i))]) (bs := [moC E b (upn z 0 0) g gs ar]) (cb := [moC E b (upn z 0 0) g gs ar]) hx hb hml hown hts hK hZ hA (c_X6_most l E _ b (upn z 0 0) g gs ar _ hI  ) l_X6_86 rfl ⟨⟨rfl, rfl⟩, Nat.le_of_ble_eq_true rfl, Nat.le_of_ble_eq_true rfl⟩ 10 rfl [0] rfl (by decide) rfl hP hD hS hl.1 rfl (Nat.le_of_ble_eq_true rfl) dX6_winningGroups_28 ⟨Nat.zero_le _, Nat.zero_le _⟩) hA hP hD hS (isC := [0]) rfl [] [0] (br := []) (bs2 := fun _ => [moC E b (upn z 0 0) g gs ar]) rfl (by decide) (fun _ => rfl) (by decide) (fun r u H locs hw hP hD hS => ?_)
        subst hw
        refine nv_icmp_lt (X := ((sG g i : Nat) : Int)) (Y := ((quo g : Nat) : Int)) hx hb (nI_toInt (by omega)) (nI_toInt (by omega)) (tgt := 38) dX6_winningGroups_31 (by decide) (fun c_2 => ?_) (fun c_2 => ?_)
        · skip
          have hif : wnB g i = false := decide_eq_false (by omega)
          refine lv_iconst (v := nI 0) hx hb dX6_winningGroups_38 (by decide) ?_
          refine nv_iadd hx hb dX6_winningGroups_39 ?_
          refine lv_istore_n (lv' := [(1, .int (nI (sm (fun q => if wnB g q then 1 else 0) i + 0))), (0, .ref (b 0)), (2, .int (nI i))]) hx hb dX6_winningGroups_40 rfl hl (by decide) rfl (fun ls hl => ?_)
          have hl : lv_has ls 3 [(1, .int (nI (sm (fun q => if wnB g q then 1 else 0) (i + 1)))), (0, .ref (b 0)), (2, .int (nI i))] := by rw [show sm (fun q => if wnB g q then 1 else 0) (i + 1) = sm (fun q => if wnB g q then 1 else 0) i + 0 from (sm_if_f (q := wnB g) (f := fun _ => 1) hif).symm]; exact hl
          refine lv_iinc (v := nI (i + 1)) (lv' := [(2, .int (nI (i + 1))), (1, .int (nI (sm (fun q => if wnB g q then 1 else 0) (i + 1)))), (0, .ref (b 0))]) hx hb dX6_winningGroups_41 hl (k := 2) rfl (nI_add i 1) (by decide) rfl (fun ls hl => ?_)
          refine lv_goto (tgt := 9) hx hb dX6_winningGroups_44 (by decide) ?_
          exact ih9 (i + 1) (by omega) (by omega) _ _ _ hP hD hS (lv_sub hl [2, 1, 0] rfl)
        · skip
          have hif : wnB g i = true := decide_eq_true (by omega)
          refine lv_iconst (v := nI 1) hx hb dX6_winningGroups_34 (by decide) ?_
          refine lv_goto (tgt := 39) hx hb dX6_winningGroups_35 (by decide) ?_
          refine nv_iadd hx hb dX6_winningGroups_39 ?_
          refine lv_istore_n (lv' := [(1, .int (nI (sm (fun q => if wnB g q then 1 else 0) i + 1))), (0, .ref (b 0)), (2, .int (nI i))]) hx hb dX6_winningGroups_40 rfl hl (by decide) rfl (fun ls hl => ?_)
          have hl : lv_has ls 3 [(1, .int (nI (sm (fun q => if wnB g q then 1 else 0) (i + 1)))), (0, .ref (b 0)), (2, .int (nI i))] := by rw [show sm (fun q => if wnB g q then 1 else 0) (i + 1) = sm (fun q => if wnB g q then 1 else 0) i + 1 from (sm_if_t (q := wnB g) (f := fun _ => 1) hif).symm]; exact hl
          refine lv_iinc (v := nI (i + 1)) (lv' := [(2, .int (nI (i + 1))), (1, .int (nI (sm (fun q => if wnB g q then 1 else 0) (i + 1)))), (0, .ref (b 0))]) hx hb dX6_winningGroups_41 hl (k := 2) rfl (nI_add i 1) (by decide) rfl (fun ls hl => ?_)
          refine lv_goto (tgt := 9) hx hb dX6_winningGroups_44 (by decide) ?_
          exact ih9 (i + 1) (by omega) (by omega) _ _ _ hP hD hS (lv_sub hl [2, 1, 0] rfl)
  exact loop9 _ 0 (Nat.zero_le _) (Nat.lt_succ_self _) _ _ _ hP hD hS (lv_sub hl [2, 1, 0] rfl)
abbrev rm_X6_winningGroupsByTable : Room := { frames := 4, cells := 0, slots := 0, locals := 86 }
set_option maxHeartbeats 4000000 in
set_option maxRecDepth 100000 in
theorem c_X6_winningGroupsByTable (l : Launch) (E : EE) (sz : Nat) (b : Nat → Nat) (z : Nat → Nat) (g : GG) (gs : Nat → GG) (ar : GG) (B : Nat) (hI : IB B g)  : MI l yX6_winningGroupsByTable cX6_winningGroupsByTable 1 .int rm_X6_winningGroupsByTable [.ref (b 0)] E sz [moC E b z g gs ar] (fun (r : Int32) (_ : Unit) => r = nI (winN g)) (fun _ => [moC E b (upn z 0 0) g gs ar]) 0 0 := by
  refine mi_go (by decide) (Nat.le_of_ble_eq_true rfl) ?_
  intro p e s m below meth c A Q ls hx hb hml hown hts hK hZ hA hsz hP hD hl hret
  have hS : va_S A s.heap s.heap [] := va_S.rf
  have hl : lv_has ls 1 [(0, .ref (b 0))] := hl
  skip
  have hmc := hI.mc
  have hbu := hI.bud
  refine lv_aload_n hx hb dX6_winningGroupsByTable_0 rfl (lv_at hl 0 rfl) ?_
  refine run_i (S := Unit) (run_V (As := []) (rest := []) (bs := [moC E b z g gs ar]) (cb := [moC E b z g gs ar]) hx hb hml hown hts hK hZ hA (c_X6_winningGroups l E _ b z g gs ar _ hI  ) l_X6_149 rfl ⟨⟨rfl, rfl⟩, Nat.le_of_ble_eq_true rfl, Nat.le_of_ble_eq_true rfl⟩ 10 rfl [0] rfl (by decide) rfl hP hD hS hl.1 rfl (Nat.le_of_ble_eq_true rfl) dX6_winningGroupsByTable_1 ⟨Nat.zero_le _, Nat.zero_le _⟩) hA hP hD hS (isC := [0]) rfl [] [0] (br := []) (bs2 := fun _ => [moC E b (upn z 0 0) g gs ar]) rfl (by decide) (fun _ => rfl) (by decide) (fun r u H locs hw hP hD hS => ?_)
  subst hw
  exact hret _ _ (nI (winN g)) () _ _ hP hD hS rfl rfl dX6_winningGroupsByTable_4
abbrev rm_X6_smallestMajority : Room := { frames := 3, cells := 0, slots := 0, locals := 64 }
set_option maxHeartbeats 4000000 in
set_option maxRecDepth 100000 in
theorem c_X6_smallestMajority (l : Launch) (E : EE) (sz : Nat) (b : Nat → Nat) (z : Nat → Nat) (g : GG) (gs : Nat → GG) (ar : GG) (B : Nat) (hI : IB B g)  : MI l yX6_smallestMajority cX6_smallestMajority 5 .int rm_X6_smallestMajority [.ref (b 0)] E sz [moC E b z g gs ar] (fun (r : Int32) (_ : Unit) => r = nI (if g 8 0 = 0 then 0 else few8 g (2 ^ g 8 0))) (fun _ => [moC E b (upn z 0 (if g 8 0 = 0 then 1 else 0)) g gs ar]) 0 0 := by
  refine mi_go (by decide) (Nat.le_of_ble_eq_true rfl) ?_
  intro p e s m below meth c A Q ls hx hb hml hown hts hK hZ hA hsz hP hD hl hret
  have hS : va_S A s.heap s.heap [] := va_S.rf
  have hl : lv_has ls 5 [(0, .ref (b 0))] := hl
  skip
  have hmc := hI.mc
  have hbu := hI.bud
  have hsh : allSh g ≤ 50 * g 8 0 := hI.shs (Nat.le_refl _)
  have hqd : quo g = allSh g / 2 + 1 := rfl
  have h256 := p256' hI (Nat.le_refl (g 8 0))
  refine lv_aload_n hx hb dX6_smallestMajority_0 rfl (lv_at hl 0 rfl) ?_
  refine lv_aload_n hx hb dX6_smallestMajority_1 rfl (lv_at hl 0 rfl) ?_
  refine va_get (D := E.1) (ci := 10) (v := .ref (b 1)) (C := RX6) (T := TX6) (N := 20) hx hb hts inX6 hown hK hP 0 rfl rfl 1 (by decide) (hts _ q1435) (fun _ h9 => h9) rfl dX6_smallestMajority_2 ?_
  refine lv_iconst (v := nI 0) hx hb dX6_smallestMajority_5 (by decide) ?_
  refine nv_iald (f := (flat g)) (i := 0) (n := 74) hx hb hK hP 1 0 rfl rfl (by omega) (by decide) dX6_smallestMajority_6 ?_
  refine tp_i (show nI ((flat g) 0) = nI (g 8 0) from rfl) ?_
  refine nv_if_ne (X := ((g 8 0 : Nat) : Int)) hx hb (nI_toInt (by omega)) (tgt := 14) dX6_smallestMajority_7 (by decide) (fun c_1 => ?_) (fun c_1 => ?_)
  · skip
    have h0 : ¬ g 8 0 = 0 := by omega
    refine lv_iconst (v := nI 0) hx hb dX6_smallestMajority_14 (by decide) ?_
    refine va_put (D := E.1) (ci := 10) (v := .int (nI 0)) (ty := .int) (C := RX6) (T := TX6) (N := 20) hx hb hts inX6 tyX6 tyX6_ok nmX6 hown hK hP hD hS 0 rfl rfl 0 (by decide) (hts _ q1434) (fun _ h9 => h9) rfl (by decide +kernel) rfl rfl (Nat.le_of_ble_eq_true rfl) dX6_smallestMajority_15 (fun H locs hP hD hS => ?_)
    have hP : va_P E.1 vwCl ([moC E b (upn z 0 0) g gs ar] : List va_W).flatten H := hP
    have hD : va_D A ([moC E b (upn z 0 0) g gs ar] : List va_W).flatten := hD
    refine lv_bipush (v := nI 8) hx hb dX6_smallestMajority_18 (by decide) ?_
    refine lv_istore_n (lv' := [(1, .int (nI 8)), (0, .ref (b 0))]) hx hb dX6_smallestMajority_20 rfl hl (by decide) rfl (fun ls hl => ?_)
    refine lv_iconst (v := nI 0) hx hb dX6_smallestMajority_21 (by decide) ?_
    refine lv_istore_n (lv' := [(2, .int (nI 0)), (1, .int (nI 8)), (0, .ref (b 0))]) hx hb dX6_smallestMajority_22 rfl hl (by decide) rfl (fun ls hl => ?_)
    have loop23 : ∀ (n : Nat) (i : Nat), (i ≤ 2 ^ g 8 0) → 2 ^ g 8 0 - i < n → ∀ (H : Heap) (locs : List Loc) (ls : Array Slot), va_P E.1 vwCl ([moC E b (upn z 0 0) g gs ar] : List va_W).flatten H → va_D A ([moC E b (upn z 0 0) g gs ar] : List va_W).flatten → va_S A s.heap H locs → lv_has ls 5 [(0, .ref (b 0)), (1, .int (nI (few8 g i))), (2, .int (nI i))] → W p l e rm_X6_smallestMajority s m ([.ref (b 0)] : List Value).toArray below meth c H locs 0 0 Q (F0 m 23 ls []) := by
      intro n23
      induction n23 with
      | zero => intro i hi hn23; exact absurd hn23 (Nat.not_lt_zero _)
      | succ n23 ih23 =>
        intro i hi hn23 H locs ls hP hD hS hl
        refine lv_iload_n hx hb dX6_smallestMajority_23 rfl (lv_at hl 2 rfl) ?_
        refine lv_iconst (v := nI 1) hx hb dX6_smallestMajority_24 (by decide) ?_
        refine lv_aload_n hx hb dX6_smallestMajority_25 rfl (lv_at hl 0 rfl) ?_
        refine va_get (D := E.1) (ci := 10) (v := .ref (b 1)) (C := RX6) (T := TX6) (N := 20) hx hb hts inX6 hown hK hP 0 rfl rfl 1 (by decide) (hts _ q1435) (fun _ h9 => h9) rfl dX6_smallestMajority_26 ?_
        refine lv_iconst (v := nI 0) hx hb dX6_smallestMajority_29 (by decide) ?_
        refine nv_iald (f := (flat g)) (i := 0) (n := 74) hx hb hK hP 1 0 rfl rfl (by omega) (by decide) dX6_smallestMajority_30 ?_
        refine tp_i (show nI ((flat g) 0) = nI (g 8 0) from rfl) ?_
        refine nv_ishl hx hb (by omega) (by have := Nat.pow_le_pow_right (n := 2) (by decide) hmc; omega) dX6_smallestMajority_31 ?_
        refine tp_i (congrArg nI (Nat.one_mul _)) ?_
        refine nv_icmp_ge (X := ((i : Nat) : Int)) (Y := ((2 ^ g 8 0 : Nat) : Int)) hx hb (nI_toInt (by omega)) (nI_toInt (by omega)) (tgt := 91) dX6_smallestMajority_32 (by decide) (fun c_2 => ?_) (fun c_2 => ?_)
        · skip
          rw [show few8 g i = few8 g (2 ^ g 8 0) from by rw [show i = 2 ^ g 8 0 by omega]] at hl
          refine lv_aload_n hx hb dX6_smallestMajority_91 rfl (lv_at hl 0 rfl) ?_
          refine va_get (D := E.1) (ci := 10) (v := .int (nI 0)) (C := RX6) (T := TX6) (N := 20) hx hb hts inX6 hown hK hP 0 rfl rfl 0 (by decide) (hts _ q1434) (fun _ h9 => h9) rfl dX6_smallestMajority_92 ?_
          refine nv_if_le (X := ((0 : Nat) : Int)) hx hb (nI_toInt (by omega)) (tgt := 102) dX6_smallestMajority_95 (by decide) (fun c_3 => ?_) (fun c_3 => ?_)
          · skip
            refine lv_iload_n hx hb dX6_smallestMajority_102 rfl (lv_at hl 1 rfl) ?_
            have hvE : (if g 8 0 = 0 then 1 else 0) = 0 := by rw [if_neg h0]
            have hP : va_P E.1 vwCl ([moC E b (upn z 0 (if g 8 0 = 0 then 1 else 0)) g gs ar] : List va_W).flatten H := by rw [hvE]; exact hP
            have hD : va_D A ([moC E b (upn z 0 (if g 8 0 = 0 then 1 else 0)) g gs ar] : List va_W).flatten := by rw [hvE]; exact hD
            clear hvE
            exact hret _ _ (nI (few8 g (2 ^ g 8 0))) () _ _ hP hD hS rfl (by rw [if_neg h0]) dX6_smallestMajority_103
          · exact absurd c_3 (by omega)
        · skip
          have hsg : sG g i ≤ allSh g := sgi_le
          have hf8 := few8_le (g := g) (n := i)
          have hp8 := pcl_le (n := i) (k := 8)
          refine lv_iconst (v := nI 0) hx hb dX6_smallestMajority_35 (by decide) ?_
          refine lv_istore_n (lv' := [(3, .int (nI 0)), (0, .ref (b 0)), (1, .int (nI (few8 g i))), (2, .int (nI i))]) hx hb dX6_smallestMajority_36 rfl hl (by decide) rfl (fun ls hl => ?_)
          refine lv_iconst (v := nI 0) hx hb dX6_smallestMajority_37 (by decide) ?_
          refine lv_istore (lv' := [(4, .int (nI 0)), (3, .int (nI 0)), (0, .ref (b 0)), (1, .int (nI (few8 g i))), (2, .int (nI i))]) hx hb dX6_smallestMajority_38 hl (by decide) rfl (fun ls hl => ?_)
          have loop40 : ∀ (n : Nat) (j : Nat), (j ≤ 8) → 8 - j < n → ∀ (H : Heap) (locs : List Loc) (ls : Array Slot), va_P E.1 vwCl ([moC E b (upn z 0 0) g gs ar] : List va_W).flatten H → va_D A ([moC E b (upn z 0 0) g gs ar] : List va_W).flatten → va_S A s.heap H locs → lv_has ls 5 [(0, .ref (b 0)), (1, .int (nI (few8 g i))), (2, .int (nI i)), (3, .int (nI (sm (fun b => if i.testBit b then 1 else 0) j))), (4, .int (nI j))] → W p l e rm_X6_smallestMajority s m ([.ref (b 0)] : List Value).toArray below meth c H locs 0 0 Q (F0 m 40 ls []) := by
            intro n40
            induction n40 with
            | zero => intro j hj hn40; exact absurd hn40 (Nat.not_lt_zero _)
            | succ n40 ih40 =>
              intro j hj hn40 H locs ls hP hD hS hl
              refine lv_iload hx hb dX6_smallestMajority_40 (lv_at hl 4 rfl) ?_
              refine lv_bipush (v := nI 8) hx hb dX6_smallestMajority_42 (by decide) ?_
              refine nv_icmp_ge (X := ((j : Nat) : Int)) (Y := ((8 : Nat) : Int)) hx hb (nI_toInt (by omega)) (nI_toInt (by omega)) (tgt := 62) dX6_smallestMajority_44 (by decide) (fun c_4 => ?_) (fun c_4 => ?_)
              · skip
                rw [show sm (fun b => if i.testBit b then 1 else 0) j = pcn i from by rw [show j = 8 by omega]; rfl] at hl
                have hp9 : pcn i ≤ 8 := hp8
                refine lv_aload_n hx hb dX6_smallestMajority_62 rfl (lv_at hl 0 rfl) ?_
                refine lv_iload_n hx hb dX6_smallestMajority_63 rfl (lv_at hl 2 rfl) ?_
                refine run_i (S := Unit) (run_V (As := [.int (nI i)]) (rest := []) (bs := [moC E b (upn z 0 0) g gs ar]) (cb := [moC E b (upn z 0 0) g gs ar]) hx hb hml hown hts hK hZ hA (c_X6_sharesOf l E _ b (upn z 0 0) g gs ar _ hI i (by omega)) l_X6_83 rfl ⟨⟨rfl, rfl⟩, Nat.le_of_ble_eq_true rfl, Nat.le_of_ble_eq_true rfl⟩ 10 rfl [0] rfl (by decide) rfl hP hD hS hl.1 rfl (Nat.le_of_ble_eq_true rfl) dX6_smallestMajority_64 ⟨Nat.zero_le _, Nat.zero_le _⟩) hA hP hD hS (isC := [0]) rfl [] [0] (br := []) (bs2 := fun _ => [moC E b (upn z 0 0) g gs ar]) rfl (by decide) (fun _ => rfl) (by decide) (fun r u H locs hw hP hD hS => ?_)
                subst hw
                refine lv_aload_n hx hb dX6_smallestMajority_67 rfl (lv_at hl 0 rfl) ?_
                refine run_i (S := Unit) (run_V (As := []) (rest := [.int (nI (sG g i))]) (bs := [moC E b (upn z 0 0) g gs ar]) (cb := [moC E b (upn z 0 0) g gs ar]) hx hb hml hown hts hK hZ hA (c_X6_most l E _ b (upn z 0 0) g gs ar _ hI  ) l_X6_86 rfl ⟨⟨rfl, rfl⟩, Nat.le_of_ble_eq_true rfl, Nat.le_of_ble_eq_true rfl⟩ 10 rfl [0] rfl (by decide) rfl hP hD hS hl.1 rfl (Nat.le_of_ble_eq_true rfl) dX6_smallestMajority_68 ⟨Nat.zero_le _, Nat.zero_le _⟩) hA hP hD hS (isC := [0]) rfl [] [0] (br := []) (bs2 := fun _ => [moC E b (upn z 0 0) g gs ar]) rfl (by decide) (fun _ => rfl) (by decide) (fun r u H locs hw hP hD hS => ?_)
                subst hw
                refine nv_icmp_lt (X := ((sG g i : Nat) : Int)) (Y := ((quo g : Nat) : Int)) hx hb (nI_toInt (by omega)) (nI_toInt (by omega)) (tgt := 83) dX6_smallestMajority_71 (by decide) (fun c_5 => ?_) (fun c_5 => ?_)
                · skip
                  have hno : ¬ (wnB g i = true ∧ pcn i < few8 g i) := fun q => by have := of_decide_eq_true (show decide (quo g ≤ sG g i) = true from q.1); omega
                  refine lv_iload_n hx hb dX6_smallestMajority_83 rfl (lv_at hl 1 rfl) ?_
                  refine lv_istore_n (lv' := [(1, .int (nI (few8 g i))), (0, .ref (b 0)), (2, .int (nI i)), (3, .int (nI (pcn i))), (4, .int (nI j))]) hx hb dX6_smallestMajority_84 rfl hl (by decide) rfl (fun ls hl => ?_)
                  have hl : lv_has ls 5 [(1, .int (nI (few8 g (i + 1)))), (0, .ref (b 0)), (2, .int (nI i)), (3, .int (nI (pcn i))), (4, .int (nI j))] := by rw [show few8 g (i + 1) = few8 g i from few8_f hno]; exact hl
                  refine lv_iinc (v := nI (i + 1)) (lv' := [(2, .int (nI (i + 1))), (1, .int (nI (few8 g (i + 1)))), (0, .ref (b 0)), (3, .int (nI (pcn i))), (4, .int (nI j))]) hx hb dX6_smallestMajority_85 hl (k := 2) rfl (nI_add i 1) (by decide) rfl (fun ls hl => ?_)
                  refine lv_goto (tgt := 23) hx hb dX6_smallestMajority_88 (by decide) ?_
                  exact ih23 (i + 1) (by omega) (by omega) _ _ _ hP hD hS (lv_sub hl [2, 1, 0] rfl)
                · skip
                  refine lv_iload_n hx hb dX6_smallestMajority_74 rfl (lv_at hl 3 rfl) ?_
                  refine lv_iload_n hx hb dX6_smallestMajority_75 rfl (lv_at hl 1 rfl) ?_
                  refine nv_icmp_ge (X := ((pcn i : Nat) : Int)) (Y := ((few8 g i : Nat) : Int)) hx hb (nI_toInt (by omega)) (nI_toInt (by omega)) (tgt := 83) dX6_smallestMajority_76 (by decide) (fun c_6 => ?_) (fun c_6 => ?_)
                  · skip
                    have hno : ¬ (wnB g i = true ∧ pcn i < few8 g i) := fun q => by omega
                    refine lv_iload_n hx hb dX6_smallestMajority_83 rfl (lv_at hl 1 rfl) ?_
                    refine lv_istore_n (lv' := [(1, .int (nI (few8 g i))), (0, .ref (b 0)), (2, .int (nI i)), (3, .int (nI (pcn i))), (4, .int (nI j))]) hx hb dX6_smallestMajority_84 rfl hl (by decide) rfl (fun ls hl => ?_)
                    have hl : lv_has ls 5 [(1, .int (nI (few8 g (i + 1)))), (0, .ref (b 0)), (2, .int (nI i)), (3, .int (nI (pcn i))), (4, .int (nI j))] := by rw [show few8 g (i + 1) = few8 g i from few8_f hno]; exact hl
                    refine lv_iinc (v := nI (i + 1)) (lv' := [(2, .int (nI (i + 1))), (1, .int (nI (few8 g (i + 1)))), (0, .ref (b 0)), (3, .int (nI (pcn i))), (4, .int (nI j))]) hx hb dX6_smallestMajority_85 hl (k := 2) rfl (nI_add i 1) (by decide) rfl (fun ls hl => ?_)
                    refine lv_goto (tgt := 23) hx hb dX6_smallestMajority_88 (by decide) ?_
                    exact ih23 (i + 1) (by omega) (by omega) _ _ _ hP hD hS (lv_sub hl [2, 1, 0] rfl)
                  · skip
                    have hwn : wnB g i = true := decide_eq_true (by omega)
                    have hlt : pcn i < few8 g i := by omega
                    refine lv_iload_n hx hb dX6_smallestMajority_79 rfl (lv_at hl 3 rfl) ?_
                    refine lv_goto (tgt := 84) hx hb dX6_smallestMajority_80 (by decide) ?_
                    refine lv_istore_n (lv' := [(1, .int (nI (pcn i))), (0, .ref (b 0)), (2, .int (nI i)), (3, .int (nI (pcn i))), (4, .int (nI j))]) hx hb dX6_smallestMajority_84 rfl hl (by decide) rfl (fun ls hl => ?_)
                    have hl : lv_has ls 5 [(1, .int (nI (few8 g (i + 1)))), (0, .ref (b 0)), (2, .int (nI i)), (3, .int (nI (pcn i))), (4, .int (nI j))] := by rw [show few8 g (i + 1) = pcn i from few8_t hwn hlt]; exact hl
                    refine lv_iinc (v := nI (i + 1)) (lv' := [(2, .int (nI (i + 1))), (1, .int (nI (few8 g (i + 1)))), (0, .ref (b 0)), (3, .int (nI (pcn i))), (4, .int (nI j))]) hx hb dX6_smallestMajority_85 hl (k := 2) rfl (nI_add i 1) (by decide) rfl (fun ls hl => ?_)
                    refine lv_goto (tgt := 23) hx hb dX6_smallestMajority_88 (by decide) ?_
                    exact ih23 (i + 1) (by omega) (by omega) _ _ _ hP hD hS (lv_sub hl [2, 1, 0] rfl)
              · skip
                have hpj := pcl_le (n := i) (k := j)
                refine lv_iload_n hx hb dX6_smallestMajority_47 rfl (lv_at hl 3 rfl) ?_
                refine lv_iload_n hx hb dX6_smallestMajority_48 rfl (lv_at hl 2 rfl) ?_
                refine lv_iload hx hb dX6_smallestMajority_49 (lv_at hl 4 rfl) ?_
                refine nv_ishr hx hb (by omega) (by omega) dX6_smallestMajority_51 ?_
                refine lv_iconst (v := nI 1) hx hb dX6_smallestMajority_52 (by decide) ?_
                refine nv_iand hx hb dX6_smallestMajority_53 ?_
                refine tp_i (congrArg nI bit1) ?_
                refine nv_iadd hx hb dX6_smallestMajority_54 ?_
                refine lv_istore_n (lv' := [(3, .int (nI (sm (fun b => if i.testBit b then 1 else 0) j + (if i.testBit j then 1 else 0)))), (0, .ref (b 0)), (1, .int (nI (few8 g i))), (2, .int (nI i)), (4, .int (nI j))]) hx hb dX6_smallestMajority_55 rfl hl (by decide) rfl (fun ls hl => ?_)
                refine lv_iinc (v := nI (j + 1)) (lv' := [(4, .int (nI (j + 1))), (3, .int (nI (sm (fun b => if i.testBit b then 1 else 0) j + (if i.testBit j then 1 else 0)))), (0, .ref (b 0)), (1, .int (nI (few8 g i))), (2, .int (nI i))]) hx hb dX6_smallestMajority_56 hl (k := 4) rfl (nI_add j 1) (by decide) rfl (fun ls hl => ?_)
                refine lv_goto (tgt := 40) hx hb dX6_smallestMajority_59 (by decide) ?_
                exact ih40 (j + 1) (by omega) (by omega) _ _ _ hP hD hS (lv_sub hl [2, 3, 4, 1, 0] rfl)
          exact loop40 _ 0 (by omega) (Nat.lt_succ_self _) _ _ _ hP hD hS (lv_sub hl [2, 3, 4, 1, 0] rfl)
    exact loop23 _ 0 (Nat.zero_le _) (Nat.lt_succ_self _) _ _ _ hP hD hS (lv_sub hl [2, 1, 0] rfl)
  · skip
    have h0 : g 8 0 = 0 := by omega
    refine lv_iconst (v := nI 1) hx hb dX6_smallestMajority_10 (by decide) ?_
    refine lv_goto (tgt := 15) hx hb dX6_smallestMajority_11 (by decide) ?_
    refine va_put (D := E.1) (ci := 10) (v := .int (nI 1)) (ty := .int) (C := RX6) (T := TX6) (N := 20) hx hb hts inX6 tyX6 tyX6_ok nmX6 hown hK hP hD hS 0 rfl rfl 0 (by decide) (hts _ q1434) (fun _ h9 => h9) rfl (by decide +kernel) rfl rfl (Nat.le_of_ble_eq_true rfl) dX6_smallestMajority_15 (fun H locs hP hD hS => ?_)
    have hP : va_P E.1 vwCl ([moC E b (upn z 0 1) g gs ar] : List va_W).flatten H := hP
    have hD : va_D A ([moC E b (upn z 0 1) g gs ar] : List va_W).flatten := hD
    refine lv_bipush (v := nI 8) hx hb dX6_smallestMajority_18 (by decide) ?_
    refine lv_istore_n (lv' := [(1, .int (nI 8)), (0, .ref (b 0))]) hx hb dX6_smallestMajority_20 rfl hl (by decide) rfl (fun ls hl => ?_)
    refine lv_iconst (v := nI 0) hx hb dX6_smallestMajority_21 (by decide) ?_
    refine lv_istore_n (lv' := [(2, .int (nI 0)), (1, .int (nI 8)), (0, .ref (b 0))]) hx hb dX6_smallestMajority_22 rfl hl (by decide) rfl (fun ls hl => ?_)
    have loop23 : ∀ (n : Nat) (i : Nat), (i ≤ 2 ^ g 8 0) → 2 ^ g 8 0 - i < n → ∀ (H : Heap) (locs : List Loc) (ls : Array Slot), va_P E.1 vwCl ([moC E b (upn z 0 1) g gs ar] : List va_W).flatten H → va_D A ([moC E b (upn z 0 1) g gs ar] : List va_W).flatten → va_S A s.heap H locs → lv_has ls 5 [(0, .ref (b 0)), (1, .int (nI (few8 g i))), (2, .int (nI i))] → W p l e rm_X6_smallestMajority s m ([.ref (b 0)] : List Value).toArray below meth c H locs 0 0 Q (F0 m 23 ls []) := by
      intro n23
      induction n23 with
      | zero => intro i hi hn23; exact absurd hn23 (Nat.not_lt_zero _)
      | succ n23 ih23 =>
        intro i hi hn23 H locs ls hP hD hS hl
        refine lv_iload_n hx hb dX6_smallestMajority_23 rfl (lv_at hl 2 rfl) ?_
        refine lv_iconst (v := nI 1) hx hb dX6_smallestMajority_24 (by decide) ?_
        refine lv_aload_n hx hb dX6_smallestMajority_25 rfl (lv_at hl 0 rfl) ?_
        refine va_get (D := E.1) (ci := 10) (v := .ref (b 1)) (C := RX6) (T := TX6) (N := 20) hx hb hts inX6 hown hK hP 0 rfl rfl 1 (by decide) (hts _ q1435) (fun _ h9 => h9) rfl dX6_smallestMajority_26 ?_
        refine lv_iconst (v := nI 0) hx hb dX6_smallestMajority_29 (by decide) ?_
        refine nv_iald (f := (flat g)) (i := 0) (n := 74) hx hb hK hP 1 0 rfl rfl (by omega) (by decide) dX6_smallestMajority_30 ?_
        refine tp_i (show nI ((flat g) 0) = nI (g 8 0) from rfl) ?_
        refine nv_ishl hx hb (by omega) (by have := Nat.pow_le_pow_right (n := 2) (by decide) hmc; omega) dX6_smallestMajority_31 ?_
        refine tp_i (congrArg nI (Nat.one_mul _)) ?_
        refine nv_icmp_ge (X := ((i : Nat) : Int)) (Y := ((2 ^ g 8 0 : Nat) : Int)) hx hb (nI_toInt (by omega)) (nI_toInt (by omega)) (tgt := 91) dX6_smallestMajority_32 (by decide) (fun c_7 => ?_) (fun c_7 => ?_)
        · skip
          rw [show few8 g i = few8 g (2 ^ g 8 0) from by rw [show i = 2 ^ g 8 0 by omega]] at hl
          refine lv_aload_n hx hb dX6_smallestMajority_91 rfl (lv_at hl 0 rfl) ?_
          refine va_get (D := E.1) (ci := 10) (v := .int (nI 1)) (C := RX6) (T := TX6) (N := 20) hx hb hts inX6 hown hK hP 0 rfl rfl 0 (by decide) (hts _ q1434) (fun _ h9 => h9) rfl dX6_smallestMajority_92 ?_
          refine nv_if_le (X := ((1 : Nat) : Int)) hx hb (nI_toInt (by omega)) (tgt := 102) dX6_smallestMajority_95 (by decide) (fun c_8 => ?_) (fun c_8 => ?_)
          · exact absurd c_8 (by omega)
          · skip
            refine lv_iconst (v := nI 0) hx hb dX6_smallestMajority_98 (by decide) ?_
            refine lv_goto (tgt := 103) hx hb dX6_smallestMajority_99 (by decide) ?_
            have hvE : (if g 8 0 = 0 then 1 else 0) = 1 := by rw [if_pos h0]
            have hP : va_P E.1 vwCl ([moC E b (upn z 0 (if g 8 0 = 0 then 1 else 0)) g gs ar] : List va_W).flatten H := by rw [hvE]; exact hP
            have hD : va_D A ([moC E b (upn z 0 (if g 8 0 = 0 then 1 else 0)) g gs ar] : List va_W).flatten := by rw [hvE]; exact hD
            clear hvE
            exact hret _ _ (nI 0) () _ _ hP hD hS rfl (by rw [if_pos h0]) dX6_smallestMajority_103
        · skip
          have hsg : sG g i ≤ allSh g := sgi_le
          have hf8 := few8_le (g := g) (n := i)
          have hp8 := pcl_le (n := i) (k := 8)
          refine lv_iconst (v := nI 0) hx hb dX6_smallestMajority_35 (by decide) ?_
          refine lv_istore_n (lv' := [(3, .int (nI 0)), (0, .ref (b 0)), (1, .int (nI (few8 g i))), (2, .int (nI i))]) hx hb dX6_smallestMajority_36 rfl hl (by decide) rfl (fun ls hl => ?_)
          refine lv_iconst (v := nI 0) hx hb dX6_smallestMajority_37 (by decide) ?_
          refine lv_istore (lv' := [(4, .int (nI 0)), (3, .int (nI 0)), (0, .ref (b 0)), (1, .int (nI (few8 g i))), (2, .int (nI i))]) hx hb dX6_smallestMajority_38 hl (by decide) rfl (fun ls hl => ?_)
          have loop40 : ∀ (n : Nat) (j : Nat), (j ≤ 8) → 8 - j < n → ∀ (H : Heap) (locs : List Loc) (ls : Array Slot), va_P E.1 vwCl ([moC E b (upn z 0 1) g gs ar] : List va_W).flatten H → va_D A ([moC E b (upn z 0 1) g gs ar] : List va_W).flatten → va_S A s.heap H locs → lv_has ls 5 [(0, .ref (b 0)), (1, .int (nI (few8 g i))), (2, .int (nI i)), (3, .int (nI (sm (fun b => if i.testBit b then 1 else 0) j))), (4, .int (nI j))] → W p l e rm_X6_smallestMajority s m ([.ref (b 0)] : List Value).toArray below meth c H locs 0 0 Q (F0 m 40 ls []) := by
            intro n40
            induction n40 with
            | zero => intro j hj hn40; exact absurd hn40 (Nat.not_lt_zero _)
            | succ n40 ih40 =>
              intro j hj hn40 H locs ls hP hD hS hl
              refine lv_iload hx hb dX6_smallestMajority_40 (lv_at hl 4 rfl) ?_
              refine lv_bipush (v := nI 8) hx hb dX6_smallestMajority_42 (by decide) ?_
              refine nv_icmp_ge (X := ((j : Nat) : Int)) (Y := ((8 : Nat) : Int)) hx hb (nI_toInt (by omega)) (nI_toInt (by omega)) (tgt := 62) dX6_smallestMajority_44 (by decide) (fun c_9 => ?_) (fun c_9 => ?_)
              · skip
                rw [show sm (fun b => if i.testBit b then 1 else 0) j = pcn i from by rw [show j = 8 by omega]; rfl] at hl
                have hp9 : pcn i ≤ 8 := hp8
                refine lv_aload_n hx hb dX6_smallestMajority_62 rfl (lv_at hl 0 rfl) ?_
                refine lv_iload_n hx hb dX6_smallestMajority_63 rfl (lv_at hl 2 rfl) ?_
                refine run_i (S := Unit) (run_V (As := [.int (nI i)]) (rest := []) (bs := [moC E b (upn z 0 1) g gs ar]) (cb := [moC E b (upn z 0 1) g gs ar]) hx hb hml hown hts hK hZ hA (c_X6_sharesOf l E _ b (upn z 0 1) g gs ar _ hI i (by omega)) l_X6_83 rfl ⟨⟨rfl, rfl⟩, Nat.le_of_ble_eq_true rfl, Nat.le_of_ble_eq_true rfl⟩ 10 rfl [0] rfl (by decide) rfl hP hD hS hl.1 rfl (Nat.le_of_ble_eq_true rfl) dX6_smallestMajority_64 ⟨Nat.zero_le _, Nat.zero_le _⟩) hA hP hD hS (isC := [0]) rfl [] [0] (br := []) (bs2 := fun _ => [moC E b (upn z 0 1) g gs ar]) rfl (by decide) (fun _ => rfl) (by decide) (fun r u H locs hw hP hD hS => ?_)
                subst hw
                refine lv_aload_n hx hb dX6_smallestMajority_67 rfl (lv_at hl 0 rfl) ?_
                refine run_i (S := Unit) (run_V (As := []) (rest := [.int (nI (sG g i))]) (bs := [moC E b (upn z 0 1) g gs ar]) (cb := [moC E b (upn z 0 1) g gs ar]) hx hb hml hown hts hK hZ hA (c_X6_most l E _ b (upn z 0 1) g gs ar _ hI  ) l_X6_86 rfl ⟨⟨rfl, rfl⟩, Nat.le_of_ble_eq_true rfl, Nat.le_of_ble_eq_true rfl⟩ 10 rfl [0] rfl (by decide) rfl hP hD hS hl.1 rfl (Nat.le_of_ble_eq_true rfl) dX6_smallestMajority_68 ⟨Nat.zero_le _, Nat.zero_le _⟩) hA hP hD hS (isC := [0]) rfl [] [0] (br := []) (bs2 := fun _ => [moC E b (upn z 0 1) g gs ar]) rfl (by decide) (fun _ => rfl) (by decide) (fun r u H locs hw hP hD hS => ?_)
                subst hw
                refine nv_icmp_lt (X := ((sG g i : Nat) : Int)) (Y := ((quo g : Nat) : Int)) hx hb (nI_toInt (by omega)) (nI_toInt (by omega)) (tgt := 83) dX6_smallestMajority_71 (by decide) (fun c_10 => ?_) (fun c_10 => ?_)
                · skip
                  have hno : ¬ (wnB g i = true ∧ pcn i < few8 g i) := fun q => by have := of_decide_eq_true (show decide (quo g ≤ sG g i) = true from q.1); omega
                  refine lv_iload_n hx hb dX6_smallestMajority_83 rfl (lv_at hl 1 rfl) ?_
                  refine lv_istore_n (lv' := [(1, .int (nI (few8 g i))), (0, .ref (b 0)), (2, .int (nI i)), (3, .int (nI (pcn i))), (4, .int (nI j))]) hx hb dX6_smallestMajority_84 rfl hl (by decide) rfl (fun ls hl => ?_)
                  have hl : lv_has ls 5 [(1, .int (nI (few8 g (i + 1)))), (0, .ref (b 0)), (2, .int (nI i)), (3, .int (nI (pcn i))), (4, .int (nI j))] := by rw [show few8 g (i + 1) = few8 g i from few8_f hno]; exact hl
                  refine lv_iinc (v := nI (i + 1)) (lv' := [(2, .int (nI (i + 1))), (1, .int (nI (few8 g (i + 1)))), (0, .ref (b 0)), (3, .int (nI (pcn i))), (4, .int (nI j))]) hx hb dX6_smallestMajority_85 hl (k := 2) rfl (nI_add i 1) (by decide) rfl (fun ls hl => ?_)
                  refine lv_goto (tgt := 23) hx hb dX6_smallestMajority_88 (by decide) ?_
                  exact ih23 (i + 1) (by omega) (by omega) _ _ _ hP hD hS (lv_sub hl [2, 1, 0] rfl)
                · skip
                  refine lv_iload_n hx hb dX6_smallestMajority_74 rfl (lv_at hl 3 rfl) ?_
                  refine lv_iload_n hx hb dX6_smallestMajority_75 rfl (lv_at hl 1 rfl) ?_
                  refine nv_icmp_ge (X := ((pcn i : Nat) : Int)) (Y := ((few8 g i : Nat) : Int)) hx hb (nI_toInt (by omega)) (nI_toInt (by omega)) (tgt := 83) dX6_smallestMajority_76 (by decide) (fun c_11 => ?_) (fun c_11 => ?_)
                  · skip
                    have hno : ¬ (wnB g i = true ∧ pcn i < few8 g i) := fun q => by omega
                    refine lv_iload_n hx hb dX6_smallestMajority_83 rfl (lv_at hl 1 rfl) ?_
                    refine lv_istore_n (lv' := [(1, .int (nI (few8 g i))), (0, .ref (b 0)), (2, .int (nI i)), (3, .int (nI (pcn i))), (4, .int (nI j))]) hx hb dX6_smallestMajority_84 rfl hl (by decide) rfl (fun ls hl => ?_)
                    have hl : lv_has ls 5 [(1, .int (nI (few8 g (i + 1)))), (0, .ref (b 0)), (2, .int (nI i)), (3, .int (nI (pcn i))), (4, .int (nI j))] := by rw [show few8 g (i + 1) = few8 g i from few8_f hno]; exact hl
                    refine lv_iinc (v := nI (i + 1)) (lv' := [(2, .int (nI (i + 1))), (1, .int (nI (few8 g (i + 1)))), (0, .ref (b 0)), (3, .int (nI (pcn i))), (4, .int (nI j))]) hx hb dX6_smallestMajority_85 hl (k := 2) rfl (nI_add i 1) (by decide) rfl (fun ls hl => ?_)
                    refine lv_goto (tgt := 23) hx hb dX6_smallestMajority_88 (by decide) ?_
                    exact ih23 (i + 1) (by omega) (by omega) _ _ _ hP hD hS (lv_sub hl [2, 1, 0] rfl)
                  · skip
                    have hwn : wnB g i = true := decide_eq_true (by omega)
                    have hlt : pcn i < few8 g i := by omega
                    refine lv_iload_n hx hb dX6_smallestMajority_79 rfl (lv_at hl 3 rfl) ?_
                    refine lv_goto (tgt := 84) hx hb dX6_smallestMajority_80 (by decide) ?_
                    refine lv_istore_n (lv' := [(1, .int (nI (pcn i))), (0, .ref (b 0)), (2, .int (nI i)), (3, .int (nI (pcn i))), (4, .int (nI j))]) hx hb dX6_smallestMajority_84 rfl hl (by decide) rfl (fun ls hl => ?_)
                    have hl : lv_has ls 5 [(1, .int (nI (few8 g (i + 1)))), (0, .ref (b 0)), (2, .int (nI i)), (3, .int (nI (pcn i))), (4, .int (nI j))] := by rw [show few8 g (i + 1) = pcn i from few8_t hwn hlt]; exact hl
                    refine lv_iinc (v := nI (i + 1)) (lv' := [(2, .int (nI (i + 1))), (1, .int (nI (few8 g (i + 1)))), (0, .ref (b 0)), (3, .int (nI (pcn i))), (4, .int (nI j))]) hx hb dX6_smallestMajority_85 hl (k := 2) rfl (nI_add i 1) (by decide) rfl (fun ls hl => ?_)
                    refine lv_goto (tgt := 23) hx hb dX6_smallestMajority_88 (by decide) ?_
                    exact ih23 (i + 1) (by omega) (by omega) _ _ _ hP hD hS (lv_sub hl [2, 1, 0] rfl)
              · skip
                have hpj := pcl_le (n := i) (k := j)
                refine lv_iload_n hx hb dX6_smallestMajority_47 rfl (lv_at hl 3 rfl) ?_
                refine lv_iload_n hx hb dX6_smallestMajority_48 rfl (lv_at hl 2 rfl) ?_
                refine lv_iload hx hb dX6_smallestMajority_49 (lv_at hl 4 rfl) ?_
                refine nv_ishr hx hb (by omega) (by omega) dX6_smallestMajority_51 ?_
                refine lv_iconst (v := nI 1) hx hb dX6_smallestMajority_52 (by decide) ?_
                refine nv_iand hx hb dX6_smallestMajority_53 ?_
                refine tp_i (congrArg nI bit1) ?_
                refine nv_iadd hx hb dX6_smallestMajority_54 ?_
                refine lv_istore_n (lv' := [(3, .int (nI (sm (fun b => if i.testBit b then 1 else 0) j + (if i.testBit j then 1 else 0)))), (0, .ref (b 0)), (1, .int (nI (few8 g i))), (2, .int (nI i)), (4, .int (nI j))]) hx hb dX6_smallestMajority_55 rfl hl (by decide) rfl (fun ls hl => ?_)
                refine lv_iinc (v := nI (j + 1)) (lv' := [(4, .int (nI (j + 1))), (3, .int (nI (sm (fun b => if i.testBit b then 1 else 0) j + (if i.testBit j then 1 else 0)))), (0, .ref (b 0)), (1, .int (nI (few8 g i))), (2, .int (nI i))]) hx hb dX6_smallestMajority_56 hl (k := 4) rfl (nI_add j 1) (by decide) rfl (fun ls hl => ?_)
                refine lv_goto (tgt := 40) hx hb dX6_smallestMajority_59 (by decide) ?_
                exact ih40 (j + 1) (by omega) (by omega) _ _ _ hP hD hS (lv_sub hl [2, 3, 4, 1, 0] rfl)
          exact loop40 _ 0 (by omega) (Nat.lt_succ_self _) _ _ _ hP hD hS (lv_sub hl [2, 3, 4, 1, 0] rfl)
    exact loop23 _ 0 (Nat.zero_le _) (Nat.lt_succ_self _) _ _ _ hP hD hS (lv_sub hl [2, 1, 0] rfl)
abbrev rm_X6_spoiltBeat : Room := { frames := 1, cells := 0, slots := 0, locals := 22 }
set_option maxHeartbeats 4000000 in
set_option maxRecDepth 100000 in
theorem c_X6_spoiltBeat (l : Launch) (E : EE) (sz : Nat) (b : Nat → Nat) (z : Nat → Nat) (g : GG) (gs : Nat → GG) (ar : GG) (B : Nat) (hI : IB B g) (p0 : Int32) : MI l yX6_spoiltBeat cX6_spoiltBeat 2 .int rm_X6_spoiltBeat [.ref (b 0), .int p0] E sz [moC E b z g gs ar] (fun (r : Int32) (_ : Unit) => r = nI (if 0 ≤ p0.toInt ∧ p0.toInt < (g 8 7 : Int) then g 7 (tn p0) else 0)) (fun _ => [moC E b (upn z 0 (if 0 ≤ p0.toInt ∧ p0.toInt < (g 8 7 : Int) then 0 else 1)) g gs ar]) 0 0 := by
  refine mi_go (by decide) (Nat.le_of_ble_eq_true rfl) ?_
  intro p e s m below meth c A Q ls hx hb hml hown hts hK hZ hA hsz hP hD hl hret
  have hS : va_S A s.heap s.heap [] := va_S.rf
  have hl : lv_has ls 2 [(0, .ref (b 0)), (1, .int p0)] := hl
  skip
  have hmc := hI.mc
  have hbu := hI.bud
  have h107 : g 8 7 ≤ 10 := hI.1.2.2
  refine lv_aload_n hx hb dX6_spoiltBeat_0 rfl (lv_at hl 0 rfl) ?_
  refine lv_iload_n hx hb dX6_spoiltBeat_1 rfl (lv_at hl 1 rfl) ?_
  refine lv_iconst (v := nI 0) hx hb dX6_spoiltBeat_2 (by decide) ?_
  refine lv_aload_n hx hb dX6_spoiltBeat_3 rfl (lv_at hl 0 rfl) ?_
  refine va_get (D := E.1) (ci := 10) (v := .ref (b 1)) (C := RX6) (T := TX6) (N := 20) hx hb hts inX6 hown hK hP 0 rfl rfl 1 (by decide) (hts _ q1435) (fun _ h9 => h9) rfl dX6_spoiltBeat_4 ?_
  refine lv_bipush (v := nI 7) hx hb dX6_spoiltBeat_7 (by decide) ?_
  refine nv_iald (f := (flat g)) (i := 7) (n := 74) hx hb hK hP 1 0 rfl rfl (by omega) (by decide) dX6_spoiltBeat_9 ?_
  refine tp_i (show nI ((flat g) 7) = nI (g 8 7) from rfl) ?_
  refine lv_iconst (v := nI 1) hx hb dX6_spoiltBeat_10 (by decide) ?_
  refine lv_isub hx hb dX6_spoiltBeat_11 ?_
  refine run_i (S := Unit) (run_S (As := [.int p0, .int (nI 0), .int (nI (g 8 7) - nI 1)]) (rest := [.ref (b 0)]) (bs := [moC E b z g gs ar]) (cb := []) hx hb hml hown hts hK hZ hA (c_X6_in l E _ p0 (nI 0) (nI (g 8 7) - nI 1) p0.toInt ((0 : Nat) : Int) ((g 8 7 : Int) - 1) rfl (nI_toInt (by omega)) (isub_t (nI_toInt (by omega)) (nI_toInt (by omega)) (by omega) (by omega))) l_X6_57 rfl ⟨⟨rfl, rfl⟩, Nat.le_of_ble_eq_true rfl, Nat.le_of_ble_eq_true rfl⟩ [] rfl (by decide) hP hD hS hl.1 rfl (Nat.le_of_ble_eq_true rfl) dX6_spoiltBeat_12 ⟨Nat.zero_le _, Nat.zero_le _⟩) hA hP hD hS (isC := []) rfl [0] [0] (br := [moC E b z g gs ar]) (bs2 := fun _ => [moC E b z g gs ar]) rfl (by decide) (fun _ => rfl) (by decide) (fun r u H locs hw hP hD hS => ?_)
  subst hw
  refine bv_if_eq hx hb (tgt := 22) dX6_spoiltBeat_15 (by decide) (fun c_1 => ?_) (fun c_1 => ?_)
  · skip
    have hh : ¬ (0 ≤ p0.toInt ∧ p0.toInt < (g 8 7 : Int)) := fun q => by have := of_decide_eq_false c_1; omega
    refine lv_iconst (v := nI 1) hx hb dX6_spoiltBeat_22 (by decide) ?_
    refine va_put (D := E.1) (ci := 10) (v := .int (nI 1)) (ty := .int) (C := RX6) (T := TX6) (N := 20) hx hb hts inX6 tyX6 tyX6_ok nmX6 hown hK hP hD hS 0 rfl rfl 0 (by decide) (hts _ q1434) (fun _ h9 => h9) rfl (by decide +kernel) rfl rfl (Nat.le_of_ble_eq_true rfl) dX6_spoiltBeat_23 (fun H locs hP hD hS => ?_)
    have hP : va_P E.1 vwCl ([moC E b (upn z 0 1) g gs ar] : List va_W).flatten H := hP
    have hD : va_D A ([moC E b (upn z 0 1) g gs ar] : List va_W).flatten := hD
    refine lv_aload_n hx hb dX6_spoiltBeat_26 rfl (lv_at hl 0 rfl) ?_
    refine va_get (D := E.1) (ci := 10) (v := .int (nI 1)) (C := RX6) (T := TX6) (N := 20) hx hb hts inX6 hown hK hP 0 rfl rfl 0 (by decide) (hts _ q1434) (fun _ h9 => h9) rfl dX6_spoiltBeat_27 ?_
    refine nv_if_le (X := ((1 : Nat) : Int)) hx hb (nI_toInt (by omega)) (tgt := 37) dX6_spoiltBeat_30 (by decide) (fun c_2 => ?_) (fun c_2 => ?_)
    · exact absurd c_2 (by omega)
    · skip
      refine lv_iconst (v := nI 0) hx hb dX6_spoiltBeat_33 (by decide) ?_
      refine lv_goto (tgt := 46) hx hb dX6_spoiltBeat_34 (by decide) ?_
      have hvE : (if 0 ≤ p0.toInt ∧ p0.toInt < (g 8 7 : Int) then 0 else 1) = 1 := by rw [if_neg hh]
      have hP : va_P E.1 vwCl ([moC E b (upn z 0 (if 0 ≤ p0.toInt ∧ p0.toInt < (g 8 7 : Int) then 0 else 1)) g gs ar] : List va_W).flatten H := by rw [hvE]; exact hP
      have hD : va_D A ([moC E b (upn z 0 (if 0 ≤ p0.toInt ∧ p0.toInt < (g 8 7 : Int) then 0 else 1)) g gs ar] : List va_W).flatten := by rw [hvE]; exact hD
      clear hvE
      exact hret _ _ (nI 0) () _ _ hP hD hS rfl (by rw [if_neg hh]) dX6_spoiltBeat_46
  · skip
    have hh := of_decide_eq_true c_1
    obtain ⟨m0, hm0, rfl, em0⟩ := raw_n (x := p0) (by omega)
    refine lv_iconst (v := nI 0) hx hb dX6_spoiltBeat_18 (by decide) ?_
    refine lv_goto (tgt := 23) hx hb dX6_spoiltBeat_19 (by decide) ?_
    refine va_put (D := E.1) (ci := 10) (v := .int (nI 0)) (ty := .int) (C := RX6) (T := TX6) (N := 20) hx hb hts inX6 tyX6 tyX6_ok nmX6 hown hK hP hD hS 0 rfl rfl 0 (by decide) (hts _ q1434) (fun _ h9 => h9) rfl (by decide +kernel) rfl rfl (Nat.le_of_ble_eq_true rfl) dX6_spoiltBeat_23 (fun H locs hP hD hS => ?_)
    have hP : va_P E.1 vwCl ([moC E b (upn z 0 0) g gs ar] : List va_W).flatten H := hP
    have hD : va_D A ([moC E b (upn z 0 0) g gs ar] : List va_W).flatten := hD
    refine lv_aload_n hx hb dX6_spoiltBeat_26 rfl (lv_at hl 0 rfl) ?_
    refine va_get (D := E.1) (ci := 10) (v := .int (nI 0)) (C := RX6) (T := TX6) (N := 20) hx hb hts inX6 hown hK hP 0 rfl rfl 0 (by decide) (hts _ q1434) (fun _ h9 => h9) rfl dX6_spoiltBeat_27 ?_
    refine nv_if_le (X := ((0 : Nat) : Int)) hx hb (nI_toInt (by omega)) (tgt := 37) dX6_spoiltBeat_30 (by decide) (fun c_3 => ?_) (fun c_3 => ?_)
    · skip
      refine lv_aload_n hx hb dX6_spoiltBeat_37 rfl (lv_at hl 0 rfl) ?_
      refine va_get (D := E.1) (ci := 10) (v := .ref (b 1)) (C := RX6) (T := TX6) (N := 20) hx hb hts inX6 hown hK hP 0 rfl rfl 1 (by decide) (hts _ q1435) (fun _ h9 => h9) rfl dX6_spoiltBeat_38 ?_
      refine lv_bipush (v := nI 64) hx hb dX6_spoiltBeat_41 (by decide) ?_
      refine lv_iload_n hx hb dX6_spoiltBeat_43 rfl (lv_at hl 1 rfl) ?_
      refine nv_iadd hx hb dX6_spoiltBeat_44 ?_
      refine nv_iald (f := (flat g)) (i := 64 + m0) (n := 74) hx hb hK hP 1 0 rfl rfl (by omega) (by decide) dX6_spoiltBeat_45 ?_
      refine tp_i (show nI ((flat g) (64 + m0)) = nI (g 7 m0) from congrArg nI flat_bad) ?_
      have hvE : (if 0 ≤ (nI m0).toInt ∧ (nI m0).toInt < (g 8 7 : Int) then 0 else 1) = 0 := by rw [if_pos ⟨by omega, by omega⟩]
      have hP : va_P E.1 vwCl ([moC E b (upn z 0 (if 0 ≤ (nI m0).toInt ∧ (nI m0).toInt < (g 8 7 : Int) then 0 else 1)) g gs ar] : List va_W).flatten H := by rw [hvE]; exact hP
      have hD : va_D A ([moC E b (upn z 0 (if 0 ≤ (nI m0).toInt ∧ (nI m0).toInt < (g 8 7 : Int) then 0 else 1)) g gs ar] : List va_W).flatten := by rw [hvE]; exact hD
      clear hvE
      exact hret _ _ (nI (g 7 m0)) () _ _ hP hD hS rfl (by rw [if_pos ⟨by omega, by omega⟩, tn_nI hm0]) dX6_spoiltBeat_46
    · exact absurd c_3 (by omega)
abbrev rm_X6_errorPosition : Room := { frames := 1, cells := 0, slots := 0, locals := 21 }
set_option maxHeartbeats 4000000 in
set_option maxRecDepth 100000 in
theorem c_X6_errorPosition (l : Launch) (E : EE) (sz : Nat) (b : Nat → Nat) (z : Nat → Nat) (g : GG) (gs : Nat → GG) (ar : GG) (h : z 5 ≤ 1000) : MI l yX6_errorPosition cX6_errorPosition 1 .int rm_X6_errorPosition [.ref (b 0)] E sz [moC E b z g gs ar] (fun (r : Int32) (_ : Unit) => r = nI (z 5 - 1)) (fun _ => [moC E b (upn z 0 (if z 5 = 0 then 1 else 0)) g gs ar]) 0 0 := by
  refine mi_go (by decide) (Nat.le_of_ble_eq_true rfl) ?_
  intro p e s m below meth c A Q ls hx hb hml hown hts hK hZ hA hsz hP hD hl hret
  have hS : va_S A s.heap s.heap [] := va_S.rf
  have hl : lv_has ls 1 [(0, .ref (b 0))] := hl
  skip
  refine lv_aload_n hx hb dX6_errorPosition_0 rfl (lv_at hl 0 rfl) ?_
  refine lv_iconst (v := nI 0) hx hb dX6_errorPosition_1 (by decide) ?_
  refine va_put (D := E.1) (ci := 10) (v := .int (nI 0)) (ty := .int) (C := RX6) (T := TX6) (N := 20) hx hb hts inX6 tyX6 tyX6_ok nmX6 hown hK hP hD hS 0 rfl rfl 0 (by decide) (hts _ q1434) (fun _ h9 => h9) rfl (by decide +kernel) rfl rfl (Nat.le_of_ble_eq_true rfl) dX6_errorPosition_2 (fun H locs hP hD hS => ?_)
  have hP : va_P E.1 vwCl ([moC E b (upn z 0 0) g gs ar] : List va_W).flatten H := hP
  have hD : va_D A ([moC E b (upn z 0 0) g gs ar] : List va_W).flatten := hD
  refine lv_aload_n hx hb dX6_errorPosition_5 rfl (lv_at hl 0 rfl) ?_
  refine va_get (D := E.1) (ci := 10) (v := .int (nI (z 5) - 1)) (C := RX6) (T := TX6) (N := 20) hx hb hts inX6 hown hK hP 0 rfl rfl 13 (by decide) (hts _ q1447) (fun _ h9 => h9) rfl dX6_errorPosition_6 ?_
  refine lv_iconst (v := -1) hx hb dX6_errorPosition_9 (by decide) ?_
  refine nv_icmp_ne (X := ((z 5 : Nat) : Int) - 1) (Y := (-1)) hx hb (m1_t (by omega)) (by decide) (tgt := 21) dX6_errorPosition_10 (by decide) (fun c_1 => ?_) (fun c_1 => ?_)
  · skip
    refine lv_aload_n hx hb dX6_errorPosition_21 rfl (lv_at hl 0 rfl) ?_
    refine va_get (D := E.1) (ci := 10) (v := .int (nI (z 5) - 1)) (C := RX6) (T := TX6) (N := 20) hx hb hts inX6 hown hK hP 0 rfl rfl 13 (by decide) (hts _ q1447) (fun _ h9 => h9) rfl dX6_errorPosition_22 ?_
    have hmE : moC E b (upn z 0 0) g gs ar = moC E b (upn z 0 (if z 5 = 0 then 1 else 0)) g gs ar := by rw [if_neg (by omega)]
    rw [hmE] at hP hD; clear hmE
    exact hret _ _ (nI (z 5) - 1) () _ _ hP hD hS rfl (pk_sub (a := z 5) (b := 1) (by omega)) dX6_errorPosition_25
  · skip
    refine lv_aload_n hx hb dX6_errorPosition_13 rfl (lv_at hl 0 rfl) ?_
    refine lv_iconst (v := nI 1) hx hb dX6_errorPosition_14 (by decide) ?_
    refine run_i (S := Unit) (run_V (As := [.int (nI 1)]) (rest := []) (bs := [moC E b (upn z 0 0) g gs ar]) (cb := [moC E b (upn z 0 0) g gs ar]) hx hb hml hown hts hK hZ hA (c_X6_fails l E _ b (upn z 0 0) g gs ar  1 ) l_X6_54 rfl ⟨⟨rfl, rfl⟩, Nat.le_of_ble_eq_true rfl, Nat.le_of_ble_eq_true rfl⟩ 10 rfl [0] rfl (by decide) rfl hP hD hS hl.1 rfl (Nat.le_of_ble_eq_true rfl) dX6_errorPosition_15 ⟨Nat.zero_le _, Nat.zero_le _⟩) hA hP hD hS (isC := [0]) rfl [] [0] (br := []) (bs2 := fun _ => [moC E b (upn (upn z 0 0) 0 1) g gs ar]) rfl (by decide) (fun _ => rfl) (by decide) (fun r u H locs hw hP hD hS => ?_)
    subst hw
    refine lv_goto (tgt := 25) hx hb dX6_errorPosition_18 (by decide) ?_
    have hmE : moC E b (upn (upn z 0 0) 0 1) g gs ar = moC E b (upn z 0 (if z 5 = 0 then 1 else 0)) g gs ar := by rw [if_pos (by omega), upn_upn]
    rw [hmE] at hP hD; clear hmE
    exact hret _ _ (nI 0) () _ _ hP hD hS rfl (by rw [show z 5 - 1 = 0 by omega]) dX6_errorPosition_25
abbrev rm_X6_failedCommand : Room := { frames := 1, cells := 0, slots := 0, locals := 21 }
set_option maxHeartbeats 4000000 in
set_option maxRecDepth 100000 in
theorem c_X6_failedCommand (l : Launch) (E : EE) (sz : Nat) (b : Nat → Nat) (z : Nat → Nat) (g : GG) (gs : Nat → GG) (ar : GG) (h : z 6 ≤ 1000) : MI l yX6_failedCommand cX6_failedCommand 1 .int rm_X6_failedCommand [.ref (b 0)] E sz [moC E b z g gs ar] (fun (r : Int32) (_ : Unit) => r = nI (z 6 - 1)) (fun _ => [moC E b (upn z 0 (if z 6 = 0 then 1 else 0)) g gs ar]) 0 0 := by
  refine mi_go (by decide) (Nat.le_of_ble_eq_true rfl) ?_
  intro p e s m below meth c A Q ls hx hb hml hown hts hK hZ hA hsz hP hD hl hret
  have hS : va_S A s.heap s.heap [] := va_S.rf
  have hl : lv_has ls 1 [(0, .ref (b 0))] := hl
  skip
  refine lv_aload_n hx hb dX6_failedCommand_0 rfl (lv_at hl 0 rfl) ?_
  refine lv_iconst (v := nI 0) hx hb dX6_failedCommand_1 (by decide) ?_
  refine va_put (D := E.1) (ci := 10) (v := .int (nI 0)) (ty := .int) (C := RX6) (T := TX6) (N := 20) hx hb hts inX6 tyX6 tyX6_ok nmX6 hown hK hP hD hS 0 rfl rfl 0 (by decide) (hts _ q1434) (fun _ h9 => h9) rfl (by decide +kernel) rfl rfl (Nat.le_of_ble_eq_true rfl) dX6_failedCommand_2 (fun H locs hP hD hS => ?_)
  have hP : va_P E.1 vwCl ([moC E b (upn z 0 0) g gs ar] : List va_W).flatten H := hP
  have hD : va_D A ([moC E b (upn z 0 0) g gs ar] : List va_W).flatten := hD
  refine lv_aload_n hx hb dX6_failedCommand_5 rfl (lv_at hl 0 rfl) ?_
  refine va_get (D := E.1) (ci := 10) (v := .int (nI (z 6) - 1)) (C := RX6) (T := TX6) (N := 20) hx hb hts inX6 hown hK hP 0 rfl rfl 14 (by decide) (hts _ q1448) (fun _ h9 => h9) rfl dX6_failedCommand_6 ?_
  refine lv_iconst (v := -1) hx hb dX6_failedCommand_9 (by decide) ?_
  refine nv_icmp_ne (X := ((z 6 : Nat) : Int) - 1) (Y := (-1)) hx hb (m1_t (by omega)) (by decide) (tgt := 21) dX6_failedCommand_10 (by decide) (fun c_1 => ?_) (fun c_1 => ?_)
  · skip
    refine lv_aload_n hx hb dX6_failedCommand_21 rfl (lv_at hl 0 rfl) ?_
    refine va_get (D := E.1) (ci := 10) (v := .int (nI (z 6) - 1)) (C := RX6) (T := TX6) (N := 20) hx hb hts inX6 hown hK hP 0 rfl rfl 14 (by decide) (hts _ q1448) (fun _ h9 => h9) rfl dX6_failedCommand_22 ?_
    have hmE : moC E b (upn z 0 0) g gs ar = moC E b (upn z 0 (if z 6 = 0 then 1 else 0)) g gs ar := by rw [if_neg (by omega)]
    rw [hmE] at hP hD; clear hmE
    exact hret _ _ (nI (z 6) - 1) () _ _ hP hD hS rfl (pk_sub (a := z 6) (b := 1) (by omega)) dX6_failedCommand_25
  · skip
    refine lv_aload_n hx hb dX6_failedCommand_13 rfl (lv_at hl 0 rfl) ?_
    refine lv_iconst (v := nI 1) hx hb dX6_failedCommand_14 (by decide) ?_
    refine run_i (S := Unit) (run_V (As := [.int (nI 1)]) (rest := []) (bs := [moC E b (upn z 0 0) g gs ar]) (cb := [moC E b (upn z 0 0) g gs ar]) hx hb hml hown hts hK hZ hA (c_X6_fails l E _ b (upn z 0 0) g gs ar  1 ) l_X6_54 rfl ⟨⟨rfl, rfl⟩, Nat.le_of_ble_eq_true rfl, Nat.le_of_ble_eq_true rfl⟩ 10 rfl [0] rfl (by decide) rfl hP hD hS hl.1 rfl (Nat.le_of_ble_eq_true rfl) dX6_failedCommand_15 ⟨Nat.zero_le _, Nat.zero_le _⟩) hA hP hD hS (isC := [0]) rfl [] [0] (br := []) (bs2 := fun _ => [moC E b (upn (upn z 0 0) 0 1) g gs ar]) rfl (by decide) (fun _ => rfl) (by decide) (fun r u H locs hw hP hD hS => ?_)
    subst hw
    refine lv_goto (tgt := 25) hx hb dX6_failedCommand_18 (by decide) ?_
    have hmE : moC E b (upn (upn z 0 0) 0 1) g gs ar = moC E b (upn z 0 (if z 6 = 0 then 1 else 0)) g gs ar := by rw [if_pos (by omega), upn_upn]
    rw [hmE] at hP hD; clear hmE
    exact hret _ _ (nI 0) () _ _ hP hD hS rfl (by rw [show z 6 - 1 = 0 by omega]) dX6_failedCommand_25
abbrev rm_X6_append : Room := { frames := 0, cells := 0, slots := 0, locals := 0 }
set_option maxHeartbeats 4000000 in
set_option maxRecDepth 100000 in
theorem c_X6_append (l : Launch) (E : EE) (sz : Nat) (b : Nat → Nat) (z : Nat → Nat) (g : GG) (gs : Nat → GG) (ar : GG) (n0 : Nat) (h3 : z 3 ≤ 60) : MI l yX6_append cX6_append 2 .int rm_X6_append [.ref (b 0), .int (nI n0)] E sz [moC E b z g gs ar] (fun (r : Int32) (_ : Unit) => r = nI (if z 3 = 60 then 0 else z 3 + 1)) (fun _ => [moC E b (if z 3 = 60 then upn z 0 1 else upn (upn z 0 0) 3 (z 3 + 1)) g gs (if z 3 = 60 then ar else upr ar 0 (upn (ar 0) (z 3) n0))]) 0 0 := by
  refine mi_go (by decide) (Nat.le_of_ble_eq_true rfl) ?_
  intro p e s m below meth c A Q ls hx hb hml hown hts hK hZ hA hsz hP hD hl hret
  have hS : va_S A s.heap s.heap [] := va_S.rf
  have hl : lv_has ls 2 [(0, .ref (b 0)), (1, .int (nI n0))] := hl
  skip
  refine lv_aload_n hx hb dX6_append_0 rfl (lv_at hl 0 rfl) ?_
  refine lv_aload_n hx hb dX6_append_1 rfl (lv_at hl 0 rfl) ?_
  refine va_get (D := E.1) (ci := 10) (v := .int (nI (z 3))) (C := RX6) (T := TX6) (N := 20) hx hb hts inX6 hown hK hP 0 rfl rfl 11 (by decide) (hts _ q1445) (fun _ h9 => h9) rfl dX6_append_2 ?_
  refine lv_bipush (v := nI 60) hx hb dX6_append_5 (by decide) ?_
  refine nv_icmp_ne (X := ((z 3 : Nat) : Int)) (Y := ((60 : Nat) : Int)) hx hb (nI_toInt (by omega)) (nI_toInt (by omega)) (tgt := 14) dX6_append_7 (by decide) (fun c_1 => ?_) (fun c_1 => ?_)
  · skip
    refine lv_iconst (v := nI 0) hx hb dX6_append_14 (by decide) ?_
    refine va_put (D := E.1) (ci := 10) (v := .int (nI 0)) (ty := .int) (C := RX6) (T := TX6) (N := 20) hx hb hts inX6 tyX6 tyX6_ok nmX6 hown hK hP hD hS 0 rfl rfl 0 (by decide) (hts _ q1434) (fun _ h9 => h9) rfl (by decide +kernel) rfl rfl (Nat.le_of_ble_eq_true rfl) dX6_append_15 (fun H locs hP hD hS => ?_)
    have hP : va_P E.1 vwCl ([moC E b (upn z 0 0) g gs ar] : List va_W).flatten H := hP
    have hD : va_D A ([moC E b (upn z 0 0) g gs ar] : List va_W).flatten := hD
    refine lv_aload_n hx hb dX6_append_18 rfl (lv_at hl 0 rfl) ?_
    refine va_get (D := E.1) (ci := 10) (v := .int (nI 0)) (C := RX6) (T := TX6) (N := 20) hx hb hts inX6 hown hK hP 0 rfl rfl 0 (by decide) (hts _ q1434) (fun _ h9 => h9) rfl dX6_append_19 ?_
    refine nv_if_le (X := ((0 : Nat) : Int)) hx hb (nI_toInt (by omega)) (tgt := 27) dX6_append_22 (by decide) (fun c_2 => ?_) (fun c_2 => ?_)
    · skip
      refine lv_aload_n hx hb dX6_append_27 rfl (lv_at hl 0 rfl) ?_
      refine va_get (D := E.1) (ci := 10) (v := .ref (b 6)) (C := RX6) (T := TX6) (N := 20) hx hb hts inX6 hown hK hP 0 rfl rfl 8 (by decide) (hts _ q1442) (fun _ h9 => h9) rfl dX6_append_28 ?_
      refine lv_aload_n hx hb dX6_append_31 rfl (lv_at hl 0 rfl) ?_
      refine va_get (D := E.1) (ci := 10) (v := .int (nI (z 3))) (C := RX6) (T := TX6) (N := 20) hx hb hts inX6 hown hK hP 0 rfl rfl 11 (by decide) (hts _ q1445) (fun _ h9 => h9) rfl dX6_append_32 ?_
      refine lv_iload_n hx hb dX6_append_35 rfl (lv_at hl 1 rfl) ?_
      refine nv_iast (f := (ar 0)) (i := z 3) (v := n0) (n := 60) hx hb hK hP hD hS 6 0 rfl rfl (by omega) (by decide) dX6_append_36 (fun H locs hP hD hS => ?_)
      have hP : va_P E.1 vwCl ([moC E b (upn z 0 0) g gs (upr ar 0 (upn (ar 0) (z 3) n0))] : List va_W).flatten H := hP
      have hD : va_D A ([moC E b (upn z 0 0) g gs (upr ar 0 (upn (ar 0) (z 3) n0))] : List va_W).flatten := hD
      refine lv_aload_n hx hb dX6_append_37 rfl (lv_at hl 0 rfl) ?_
      refine lv_dup hx hb dX6_append_38 rfl ?_
      refine va_get (D := E.1) (ci := 10) (v := .int (nI (z 3))) (C := RX6) (T := TX6) (N := 20) hx hb hts inX6 hown hK hP 0 rfl rfl 11 (by decide) (hts _ q1445) (fun _ h9 => h9) rfl dX6_append_39 ?_
      refine lv_iconst (v := nI 1) hx hb dX6_append_42 (by decide) ?_
      refine nv_iadd hx hb dX6_append_43 ?_
      refine va_put (D := E.1) (ci := 10) (v := .int (nI (z 3 + 1))) (ty := .int) (C := RX6) (T := TX6) (N := 20) hx hb hts inX6 tyX6 tyX6_ok nmX6 hown hK hP hD hS 0 rfl rfl 11 (by decide) (hts _ q1445) (fun _ h9 => h9) rfl (by decide +kernel) rfl rfl (Nat.le_of_ble_eq_true rfl) dX6_append_44 (fun H locs hP hD hS => ?_)
      have hP : va_P E.1 vwCl ([moC E b (upn (upn z 0 0) 3 (z 3 + 1)) g gs (upr ar 0 (upn (ar 0) (z 3) n0))] : List va_W).flatten H := hP
      have hD : va_D A ([moC E b (upn (upn z 0 0) 3 (z 3 + 1)) g gs (upr ar 0 (upn (ar 0) (z 3) n0))] : List va_W).flatten := hD
      refine lv_aload_n hx hb dX6_append_47 rfl (lv_at hl 0 rfl) ?_
      refine va_get (D := E.1) (ci := 10) (v := .int (nI (z 3 + 1))) (C := RX6) (T := TX6) (N := 20) hx hb hts inX6 hown hK hP 0 rfl rfl 11 (by decide) (hts _ q1445) (fun _ h9 => h9) rfl dX6_append_48 ?_
      have hmE : moC E b (upn (upn z 0 0) 3 (z 3 + 1)) g gs (upr ar 0 (upn (ar 0) (z 3) n0)) = moC E b (if z 3 = 60 then upn z 0 1 else upn (upn z 0 0) 3 (z 3 + 1)) g gs (if z 3 = 60 then ar else upr ar 0 (upn (ar 0) (z 3) n0)) := by rw [if_neg (by omega), if_neg (by omega)]
      rw [hmE] at hP hD; clear hmE
      exact hret _ _ (nI (z 3 + 1)) () _ _ hP hD hS rfl (by rw [if_neg (by omega)]) dX6_append_51
    · exact absurd c_2 (by omega)
  · skip
    refine lv_iconst (v := nI 1) hx hb dX6_append_10 (by decide) ?_
    refine lv_goto (tgt := 15) hx hb dX6_append_11 (by decide) ?_
    refine va_put (D := E.1) (ci := 10) (v := .int (nI 1)) (ty := .int) (C := RX6) (T := TX6) (N := 20) hx hb hts inX6 tyX6 tyX6_ok nmX6 hown hK hP hD hS 0 rfl rfl 0 (by decide) (hts _ q1434) (fun _ h9 => h9) rfl (by decide +kernel) rfl rfl (Nat.le_of_ble_eq_true rfl) dX6_append_15 (fun H locs hP hD hS => ?_)
    have hP : va_P E.1 vwCl ([moC E b (upn z 0 1) g gs ar] : List va_W).flatten H := hP
    have hD : va_D A ([moC E b (upn z 0 1) g gs ar] : List va_W).flatten := hD
    refine lv_aload_n hx hb dX6_append_18 rfl (lv_at hl 0 rfl) ?_
    refine va_get (D := E.1) (ci := 10) (v := .int (nI 1)) (C := RX6) (T := TX6) (N := 20) hx hb hts inX6 hown hK hP 0 rfl rfl 0 (by decide) (hts _ q1434) (fun _ h9 => h9) rfl dX6_append_19 ?_
    refine nv_if_le (X := ((1 : Nat) : Int)) hx hb (nI_toInt (by omega)) (tgt := 27) dX6_append_22 (by decide) (fun c_3 => ?_) (fun c_3 => ?_)
    · exact absurd c_3 (by omega)
    · skip
      refine lv_iconst (v := nI 0) hx hb dX6_append_25 (by decide) ?_
      have hmE : moC E b (upn z 0 1) g gs ar = moC E b (if z 3 = 60 then upn z 0 1 else upn (upn z 0 0) 3 (z 3 + 1)) g gs (if z 3 = 60 then ar else upr ar 0 (upn (ar 0) (z 3) n0)) := by rw [if_pos (by omega), if_pos (by omega)]
      rw [hmE] at hP hD; clear hmE
      exact hret _ _ (nI 0) () _ _ hP hD hS rfl (by rw [if_pos (by omega)]) dX6_append_26
abbrev rm_X6_writes : Room := { frames := 0, cells := 0, slots := 0, locals := 0 }
set_option maxHeartbeats 4000000 in
set_option maxRecDepth 100000 in
theorem c_X6_writes (l : Launch) (E : EE) (sz : Nat) (b : Nat → Nat) (z : Nat → Nat) (g : GG) (gs : Nat → GG) (ar : GG) (n0 : Nat) (h4 : z 4 < 60) : MV l yX6_writes cX6_writes 2 rm_X6_writes [.ref (b 0), .int (nI n0)] E sz [moC E b z g gs ar] (fun (_ : Unit) => True) (fun _ => [moC E b (upn z 4 (z 4 + 1)) g gs (upr ar 2 (upn (ar 2) (z 4) n0))]) 0 0 := by
  refine mv_go (by decide) (Nat.le_of_ble_eq_true rfl) ?_
  intro p e s m below meth c A Q ls hx hb hml hown hts hK hZ hA hsz hP hD hl hret hnm
  have hS : va_S A s.heap s.heap [] := va_S.rf
  have hl : lv_has ls 2 [(0, .ref (b 0)), (1, .int (nI n0))] := hl
  skip
  refine lv_aload_n hx hb dX6_writes_0 rfl (lv_at hl 0 rfl) ?_
  refine va_get (D := E.1) (ci := 10) (v := .ref (b 8)) (C := RX6) (T := TX6) (N := 20) hx hb hts inX6 hown hK hP 0 rfl rfl 10 (by decide) (hts _ q1444) (fun _ h9 => h9) rfl dX6_writes_1 ?_
  refine lv_aload_n hx hb dX6_writes_4 rfl (lv_at hl 0 rfl) ?_
  refine va_get (D := E.1) (ci := 10) (v := .int (nI (z 4))) (C := RX6) (T := TX6) (N := 20) hx hb hts inX6 hown hK hP 0 rfl rfl 12 (by decide) (hts _ q1446) (fun _ h9 => h9) rfl dX6_writes_5 ?_
  refine lv_iload_n hx hb dX6_writes_8 rfl (lv_at hl 1 rfl) ?_
  refine nv_iast (f := (ar 2)) (i := z 4) (v := n0) (n := 60) hx hb hK hP hD hS 8 0 rfl rfl (by omega) (by decide) dX6_writes_9 (fun H locs hP hD hS => ?_)
  have hP : va_P E.1 vwCl ([moC E b z g gs (upr ar 2 (upn (ar 2) (z 4) n0))] : List va_W).flatten H := hP
  have hD : va_D A ([moC E b z g gs (upr ar 2 (upn (ar 2) (z 4) n0))] : List va_W).flatten := hD
  refine lv_aload_n hx hb dX6_writes_10 rfl (lv_at hl 0 rfl) ?_
  refine lv_dup hx hb dX6_writes_11 rfl ?_
  refine va_get (D := E.1) (ci := 10) (v := .int (nI (z 4))) (C := RX6) (T := TX6) (N := 20) hx hb hts inX6 hown hK hP 0 rfl rfl 12 (by decide) (hts _ q1446) (fun _ h9 => h9) rfl dX6_writes_12 ?_
  refine lv_iconst (v := nI 1) hx hb dX6_writes_15 (by decide) ?_
  refine nv_iadd hx hb dX6_writes_16 ?_
  refine va_put (D := E.1) (ci := 10) (v := .int (nI (z 4 + 1))) (ty := .int) (C := RX6) (T := TX6) (N := 20) hx hb hts inX6 tyX6 tyX6_ok nmX6 hown hK hP hD hS 0 rfl rfl 12 (by decide) (hts _ q1446) (fun _ h9 => h9) rfl (by decide +kernel) rfl rfl (Nat.le_of_ble_eq_true rfl) dX6_writes_17 (fun H locs hP hD hS => ?_)
  have hP : va_P E.1 vwCl ([moC E b (upn z 4 (z 4 + 1)) g gs (upr ar 2 (upn (ar 2) (z 4) n0))] : List va_W).flatten H := hP
  have hD : va_D A ([moC E b (upn z 4 (z 4 + 1)) g gs (upr ar 2 (upn (ar 2) (z 4) n0))] : List va_W).flatten := hD
  exact hret _ _ () _ _ hP hD hS trivial dX6_writes_20
