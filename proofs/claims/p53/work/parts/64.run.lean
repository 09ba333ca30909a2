abbrev rm_X5_faultOfCommand : Room := { frames := 2, cells := 0, slots := 0, locals := 44 }
set_option maxHeartbeats 4000000 in
set_option maxRecDepth 100000 in
theorem c_X5_faultOfCommand (l : Launch) (E : EE) (sz : Nat) (x a a2 a3 b d k pa y w : Nat → Nat) (g : GG) (B : Nat) (hI : IB B g) (q : Nat → Nat) (F : GG) (n0 : Nat) (hn : n0 < 8) (hk7 : F 1 n0 < 7) : MI l yX5_faultOfCommand cX5_faultOfCommand 4 .int rm_X5_faultOfCommand [.ref (x 0), .int (nI n0)] E sz [coC E x a a2 a3 b d k pa y w, stC E a g, prC E pa q F] (fun (r : Int32) (_ : Unit) => r = nI (doF g (sgK (F 1 n0)) (F 2 (n0 * 4 + 0)) (F 2 (n0 * 4 + 1)) (F 2 (n0 * 4 + 2)) (F 2 (n0 * 4 + 3)))) (fun _ => [coC E x a a2 a3 b d k pa y w, stC E a g, prC E pa q F]) 0 0 := by
  refine mi_go (by decide) (Nat.le_of_ble_eq_true rfl) ?_
  intro p e s m below meth c A Q ls hx hb hml hown hts hK hZ hA hsz hP hD hl hret
  have hS : va_S A s.heap s.heap [] := va_S.rf
  have hl : lv_has ls 4 [(0, .ref (x 0)), (1, .int (nI n0))] := hl
  skip
  have hmc := hI.mc
  have hbu := hI.bud
  refine lv_aload_n hx hb dX5_faultOfCommand_0 rfl (lv_at hl 0 rfl) ?_
  refine va_get (D := E.1) (ci := 9) (v := .ref (pa 0)) (C := RX5) (T := TX5) (N := 11) hx hb hts inX5 hown hK hP 0 rfl rfl 6 (by decide) (hts _ q252) (fun _ h9 => h9) rfl dX5_faultOfCommand_1 ?_
  refine lv_iload_n hx hb dX5_faultOfCommand_4 rfl (lv_at hl 1 rfl) ?_
  refine lv_iconst (v := nI 0) hx hb dX5_faultOfCommand_5 (by decide) ?_
  refine run_i (S := Unit) (run_V (As := [.int (nI n0), .int (nI 0)]) (rest := []) (bs := [coC E x a a2 a3 b d k pa y w, stC E a g, prC E pa q F]) (cb := [prC E pa q F]) hx hb hml hown hts hK hZ hA (c_X3_argument l E _ pa q F n0 0 (by omega) (by omega)) l_X5_353 rfl ⟨⟨rfl, rfl⟩, Nat.le_of_ble_eq_true rfl, Nat.le_of_ble_eq_true rfl⟩ 7 rfl [2] rfl (by decide) rfl hP hD hS hl.1 rfl (Nat.le_of_ble_eq_true rfl) dX5_faultOfCommand_6 ⟨Nat.zero_le _, Nat.zero_le _⟩) hA hP hD hS (isC := [2]) rfl [0, 1] [0, 1, 2] (br := [coC E x a a2 a3 b d k pa y w, stC E a g]) (bs2 := fun _ => [coC E x a a2 a3 b d k pa y w, stC E a g, prC E pa q F]) rfl (by decide) (fun _ => rfl) (by decide) (fun r u H locs hw hP hD hS => ?_)
  subst hw
  refine lv_istore_n (lv' := [(2, .int (nI ((F 2) (n0 * 4 + 0)))), (0, .ref (x 0)), (1, .int (nI n0))]) hx hb dX5_faultOfCommand_9 rfl hl (by decide) rfl (fun ls hl => ?_)
  refine lv_aload_n hx hb dX5_faultOfCommand_10 rfl (lv_at hl 1 rfl) ?_
  refine va_get (D := E.1) (ci := 9) (v := .ref (pa 0)) (C := RX5) (T := TX5) (N := 11) hx hb hts inX5 hown hK hP 0 rfl rfl 6 (by decide) (hts _ q252) (fun _ h9 => h9) rfl dX5_faultOfCommand_11 ?_
  refine lv_iload_n hx hb dX5_faultOfCommand_14 rfl (lv_at hl 2 rfl) ?_
  refine lv_iconst (v := nI 1) hx hb dX5_faultOfCommand_15 (by decide) ?_
  refine run_i (S := Unit) (run_V (As := [.int (nI n0), .int (nI 1)]) (rest := []) (bs := [coC E x a a2 a3 b d k pa y w, stC E a g, prC E pa q F]) (cb := [prC E pa q F]) hx hb hml hown hts hK hZ hA (c_X3_argument l E _ pa q F n0 1 (by omega) (by omega)) l_X5_353 rfl ⟨⟨rfl, rfl⟩, Nat.le_of_ble_eq_true rfl, Nat.le_of_ble_eq_true rfl⟩ 7 rfl [2] rfl (by decide) rfl hP hD hS hl.1 rfl (Nat.le_of_ble_eq_true rfl) dX5_faultOfCommand_16 ⟨Nat.zero_le _, Nat.zero_le _⟩) hA hP hD hS (isC := [2]) rfl [0, 1] [0, 1, 2] (br := [coC E x a a2 a3 b d k pa y w, stC E a g]) (bs2 := fun _ => [coC E x a a2 a3 b d k pa y w, stC E a g, prC E pa q F]) rfl (by decide) (fun _ => rfl) (by decide) (fun r u H locs hw hP hD hS => ?_)
  subst hw
  refine lv_istore_n (lv' := [(3, .int (nI ((F 2) (n0 * 4 + 1)))), (2, .int (nI ((F 2) (n0 * 4 + 0)))), (0, .ref (x 0)), (1, .int (nI n0))]) hx hb dX5_faultOfCommand_19 rfl hl (by decide) rfl (fun ls hl => ?_)
  refine lv_aload_n hx hb dX5_faultOfCommand_20 rfl (lv_at hl 2 rfl) ?_
  refine va_get (D := E.1) (ci := 9) (v := .ref (pa 0)) (C := RX5) (T := TX5) (N := 11) hx hb hts inX5 hown hK hP 0 rfl rfl 6 (by decide) (hts _ q252) (fun _ h9 => h9) rfl dX5_faultOfCommand_21 ?_
  refine lv_iload_n hx hb dX5_faultOfCommand_24 rfl (lv_at hl 3 rfl) ?_
  refine run_i (S := Unit) (run_V (As := [.int (nI n0)]) (rest := []) (bs := [coC E x a a2 a3 b d k pa y w, stC E a g, prC E pa q F]) (cb := [prC E pa q F]) hx hb hml hown hts hK hZ hA (c_X3_kindOf l E _ pa q F n0 (by omega)) l_X5_356 rfl ⟨⟨rfl, rfl⟩, Nat.le_of_ble_eq_true rfl, Nat.le_of_ble_eq_true rfl⟩ 7 rfl [2] rfl (by decide) rfl hP hD hS hl.1 rfl (Nat.le_of_ble_eq_true rfl) dX5_faultOfCommand_25 ⟨Nat.zero_le _, Nat.zero_le _⟩) hA hP hD hS (isC := [2]) rfl [0, 1] [0, 1, 2] (br := [coC E x a a2 a3 b d k pa y w, stC E a g]) (bs2 := fun _ => [coC E x a a2 a3 b d k pa y w, stC E a g, prC E pa q F]) rfl (by decide) (fun _ => rfl) (by decide) (fun r u H locs hw hP hD hS => ?_)
  subst hw
  rcases (show F 1 n0 = 0 ∨ F 1 n0 = 1 ∨ F 1 n0 = 2 ∨ F 1 n0 = 3 ∨ F 1 n0 = 4 ∨ F 1 n0 = 5 ∨ F 1 n0 = 6 by omega) with hk | hk | hk | hk | hk | hk | hk
  · refine tp_i (congrArg nI hk) ?_
    refine lv_tableIn hx hb dX5_faultOfCommand_28 (by decide) (by decide) (off := 40) (by decide) (tgt := 68) (by decide) ?_
    refine lv_aload_n hx hb dX5_faultOfCommand_68 rfl (lv_at hl 2 rfl) ?_
    refine va_get (D := E.1) (ci := 9) (v := .ref (a 0)) (C := RX5) (T := TX5) (N := 11) hx hb hts inX5 hown hK hP 0 rfl rfl 0 (by decide) (hts _ q246) (fun _ h9 => h9) rfl dX5_faultOfCommand_69 ?_
    refine lv_iload_n hx hb dX5_faultOfCommand_72 rfl (lv_at hl 1 rfl) ?_
    refine lv_iload_n hx hb dX5_faultOfCommand_73 rfl (lv_at hl 0 rfl) ?_
    refine lv_aload_n hx hb dX5_faultOfCommand_74 rfl (lv_at hl 2 rfl) ?_
    refine va_get (D := E.1) (ci := 9) (v := .ref (pa 0)) (C := RX5) (T := TX5) (N := 11) hx hb hts inX5 hown hK hP 0 rfl rfl 6 (by decide) (hts _ q252) (fun _ h9 => h9) rfl dX5_faultOfCommand_75 ?_
    refine lv_iload_n hx hb dX5_faultOfCommand_78 rfl (lv_at hl 3 rfl) ?_
    refine lv_iconst (v := nI 2) hx hb dX5_faultOfCommand_79 (by decide) ?_
    refine run_i (S := Unit) (run_V (As := [.int (nI n0), .int (nI 2)]) (rest := [.int (nI ((F 2) (n0 * 4 + 1))), .int (nI ((F 2) (n0 * 4 + 0))), .ref (a 0)]) (bs := [coC E x a a2 a3 b d k pa y w, stC E a g, prC E pa q F]) (cb := [prC E pa q F]) hx hb hml hown hts hK hZ hA (c_X3_argument l E _ pa q F n0 2 (by omega) (by omega)) l_X5_353 rfl ⟨⟨rfl, rfl⟩, Nat.le_of_ble_eq_true rfl, Nat.le_of_ble_eq_true rfl⟩ 7 rfl [2] rfl (by decide) rfl hP hD hS hl.1 rfl (Nat.le_of_ble_eq_true rfl) dX5_faultOfCommand_80 ⟨Nat.zero_le _, Nat.zero_le _⟩) hA hP hD hS (isC := [2]) rfl [0, 1] [0, 1, 2] (br := [coC E x a a2 a3 b d k pa y w, stC E a g]) (bs2 := fun _ => [coC E x a a2 a3 b d k pa y w, stC E a g, prC E pa q F]) rfl (by decide) (fun _ => rfl) (by decide) (fun r u H locs hw hP hD hS => ?_)
    subst hw
    refine lv_aload_n hx hb dX5_faultOfCommand_83 rfl (lv_at hl 2 rfl) ?_
    refine va_get (D := E.1) (ci := 9) (v := .ref (pa 0)) (C := RX5) (T := TX5) (N := 11) hx hb hts inX5 hown hK hP 0 rfl rfl 6 (by decide) (hts _ q252) (fun _ h9 => h9) rfl dX5_faultOfCommand_84 ?_
    refine lv_iload_n hx hb dX5_faultOfCommand_87 rfl (lv_at hl 3 rfl) ?_
    refine lv_iconst (v := nI 3) hx hb dX5_faultOfCommand_88 (by decide) ?_
    refine run_i (S := Unit) (run_V (As := [.int (nI n0), .int (nI 3)]) (rest := [.int (nI ((F 2) (n0 * 4 + 2))), .int (nI ((F 2) (n0 * 4 + 1))), .int (nI ((F 2) (n0 * 4 + 0))), .ref (a 0)]) (bs := [coC E x a a2 a3 b d k pa y w, stC E a g, prC E pa q F]) (cb := [prC E pa q F]) hx hb hml hown hts hK hZ hA (c_X3_argument l E _ pa q F n0 3 (by omega) (by omega)) l_X5_353 rfl ⟨⟨rfl, rfl⟩, Nat.le_of_ble_eq_true rfl, Nat.le_of_ble_eq_true rfl⟩ 7 rfl [2] rfl (by decide) rfl hP hD hS hl.1 rfl (Nat.le_of_ble_eq_true rfl) dX5_faultOfCommand_89 ⟨Nat.zero_le _, Nat.zero_le _⟩) hA hP hD hS (isC := [2]) rfl [0, 1] [0, 1, 2] (br := [coC E x a a2 a3 b d k pa y w, stC E a g]) (bs2 := fun _ => [coC E x a a2 a3 b d k pa y w, stC E a g, prC E pa q F]) rfl (by decide) (fun _ => rfl) (by decide) (fun r u H locs hw hP hD hS => ?_)
    subst hw
    refine run_i (S := Unit) (run_V (As := [.int (nI ((F 2) (n0 * 4 + 0))), .int (nI ((F 2) (n0 * 4 + 1))), .int (nI ((F 2) (n0 * 4 + 2))), .int (nI ((F 2) (n0 * 4 + 3)))]) (rest := []) (bs := [coC E x a a2 a3 b d k pa y w, stC E a g, prC E pa q F]) (cb := [stC E a g]) hx hb hml hown hts hK hZ hA (c_X4_faultOfJoining l E _ a g (nI ((F 2) (n0 * 4 + 0))) (nI ((F 2) (n0 * 4 + 1))) (nI ((F 2) (n0 * 4 + 2))) (nI ((F 2) (n0 * 4 + 3))) hmc) l_X5_68 rfl ⟨⟨rfl, rfl⟩, Nat.le_of_ble_eq_true rfl, Nat.le_of_ble_eq_true rfl⟩ 8 rfl [1] rfl (by decide) rfl hP hD hS hl.1 rfl (Nat.le_of_ble_eq_true rfl) dX5_faultOfCommand_92 ⟨Nat.zero_le _, Nat.zero_le _⟩) hA hP hD hS (isC := [1]) rfl [0, 2] [0, 2, 1] (br := [coC E x a a2 a3 b d k pa y w, prC E pa q F]) (bs2 := fun _ => [coC E x a a2 a3 b d k pa y w, stC E a g, prC E pa q F]) rfl (by decide) (fun _ => rfl) (by decide) (fun r u H locs hw hP hD hS => ?_)
    subst hw
    exact hret _ _ (nI (fJoin g (nI ((F 2) (n0 * 4 + 0))) (nI ((F 2) (n0 * 4 + 1))) (nI ((F 2) (n0 * 4 + 2))) (nI ((F 2) (n0 * 4 + 3))))) () _ _ hP hD hS rfl (congrArg nI (dk_0 hk).1.symm) dX5_faultOfCommand_95
  · refine tp_i (congrArg nI hk) ?_
    refine lv_tableIn hx hb dX5_faultOfCommand_28 (by decide) (by decide) (off := 68) (by decide) (tgt := 96) (by decide) ?_
    refine lv_aload_n hx hb dX5_faultOfCommand_96 rfl (lv_at hl 2 rfl) ?_
    refine va_get (D := E.1) (ci := 9) (v := .ref (a 0)) (C := RX5) (T := TX5) (N := 11) hx hb hts inX5 hown hK hP 0 rfl rfl 0 (by decide) (hts _ q246) (fun _ h9 => h9) rfl dX5_faultOfCommand_97 ?_
    refine lv_iload_n hx hb dX5_faultOfCommand_100 rfl (lv_at hl 1 rfl) ?_
    refine lv_iload_n hx hb dX5_faultOfCommand_101 rfl (lv_at hl 0 rfl) ?_
    refine run_i (S := Unit) (run_V (As := [.int (nI ((F 2) (n0 * 4 + 0))), .int (nI ((F 2) (n0 * 4 + 1)))]) (rest := []) (bs := [coC E x a a2 a3 b d k pa y w, stC E a g, prC E pa q F]) (cb := [stC E a g]) hx hb hml hown hts hK hZ hA (c_X4_faultOfWinding l E _ a g (nI ((F 2) (n0 * 4 + 0))) (nI ((F 2) (n0 * 4 + 1))) _ hI) l_X5_83 rfl ⟨⟨rfl, rfl⟩, Nat.le_of_ble_eq_true rfl, Nat.le_of_ble_eq_true rfl⟩ 8 rfl [1] rfl (by decide) rfl hP hD hS hl.1 rfl (Nat.le_of_ble_eq_true rfl) dX5_faultOfCommand_102 ⟨Nat.zero_le _, Nat.zero_le _⟩) hA hP hD hS (isC := [1]) rfl [0, 2] [0, 2, 1] (br := [coC E x a a2 a3 b d k pa y w, prC E pa q F]) (bs2 := fun _ => [coC E x a a2 a3 b d k pa y w, stC E a g, prC E pa q F]) rfl (by decide) (fun _ => rfl) (by decide) (fun r u H locs hw hP hD hS => ?_)
    subst hw
    exact hret _ _ (nI (fWind g (nI ((F 2) (n0 * 4 + 0))) (nI ((F 2) (n0 * 4 + 1))))) () _ _ hP hD hS rfl (congrArg nI (dk_1 hk).1.symm) dX5_faultOfCommand_105
  · refine tp_i (congrArg nI hk) ?_
    refine lv_tableIn hx hb dX5_faultOfCommand_28 (by decide) (by decide) (off := 78) (by decide) (tgt := 106) (by decide) ?_
    refine lv_aload_n hx hb dX5_faultOfCommand_106 rfl (lv_at hl 2 rfl) ?_
    refine va_get (D := E.1) (ci := 9) (v := .ref (a 0)) (C := RX5) (T := TX5) (N := 11) hx hb hts inX5 hown hK hP 0 rfl rfl 0 (by decide) (hts _ q246) (fun _ h9 => h9) rfl dX5_faultOfCommand_107 ?_
    refine lv_iload_n hx hb dX5_faultOfCommand_110 rfl (lv_at hl 1 rfl) ?_
    refine lv_iload_n hx hb dX5_faultOfCommand_111 rfl (lv_at hl 0 rfl) ?_
    refine run_i (S := Unit) (run_V (As := [.int (nI ((F 2) (n0 * 4 + 0))), .int (nI ((F 2) (n0 * 4 + 1)))]) (rest := []) (bs := [coC E x a a2 a3 b d k pa y w, stC E a g, prC E pa q F]) (cb := [stC E a g]) hx hb hml hown hts hK hZ hA (c_X4_faultOfTuning l E _ a g (nI ((F 2) (n0 * 4 + 0))) (nI ((F 2) (n0 * 4 + 1))) hmc) l_X5_90 rfl ⟨⟨rfl, rfl⟩, Nat.le_of_ble_eq_true rfl, Nat.le_of_ble_eq_true rfl⟩ 8 rfl [1] rfl (by decide) rfl hP hD hS hl.1 rfl (Nat.le_of_ble_eq_true rfl) dX5_faultOfCommand_112 ⟨Nat.zero_le _, Nat.zero_le _⟩) hA hP hD hS (isC := [1]) rfl [0, 2] [0, 2, 1] (br := [coC E x a a2 a3 b d k pa y w, prC E pa q F]) (bs2 := fun _ => [coC E x a a2 a3 b d k pa y w, stC E a g, prC E pa q F]) rfl (by decide) (fun _ => rfl) (by decide) (fun r u H locs hw hP hD hS => ?_)
    subst hw
    exact hret _ _ (nI (fTune g (nI ((F 2) (n0 * 4 + 0))) (nI ((F 2) (n0 * 4 + 1))))) () _ _ hP hD hS rfl (congrArg nI (dk_2 hk).1.symm) dX5_faultOfCommand_115
  · refine tp_i (congrArg nI hk) ?_
    refine lv_tableIn hx hb dX5_faultOfCommand_28 (by decide) (by decide) (off := 88) (by decide) (tgt := 116) (by decide) ?_
    refine lv_aload_n hx hb dX5_faultOfCommand_116 rfl (lv_at hl 2 rfl) ?_
    refine va_get (D := E.1) (ci := 9) (v := .ref (a 0)) (C := RX5) (T := TX5) (N := 11) hx hb hts inX5 hown hK hP 0 rfl rfl 0 (by decide) (hts _ q246) (fun _ h9 => h9) rfl dX5_faultOfCommand_117 ?_
    refine lv_iload_n hx hb dX5_faultOfCommand_120 rfl (lv_at hl 1 rfl) ?_
    refine lv_iload_n hx hb dX5_faultOfCommand_121 rfl (lv_at hl 0 rfl) ?_
    refine run_i (S := Unit) (run_V (As := [.int (nI ((F 2) (n0 * 4 + 0))), .int (nI ((F 2) (n0 * 4 + 1)))]) (rest := []) (bs := [coC E x a a2 a3 b d k pa y w, stC E a g, prC E pa q F]) (cb := [stC E a g]) hx hb hml hown hts hK hZ hA (c_X4_faultOfBuying l E _ a g (nI ((F 2) (n0 * 4 + 0))) (nI ((F 2) (n0 * 4 + 1))) _ hI) l_X5_96 rfl ⟨⟨rfl, rfl⟩, Nat.le_of_ble_eq_true rfl, Nat.le_of_ble_eq_true rfl⟩ 8 rfl [1] rfl (by decide) rfl hP hD hS hl.1 rfl (Nat.le_of_ble_eq_true rfl) dX5_faultOfCommand_122 ⟨Nat.zero_le _, Nat.zero_le _⟩) hA hP hD hS (isC := [1]) rfl [0, 2] [0, 2, 1] (br := [coC E x a a2 a3 b d k pa y w, prC E pa q F]) (bs2 := fun _ => [coC E x a a2 a3 b d k pa y w, stC E a g, prC E pa q F]) rfl (by decide) (fun _ => rfl) (by decide) (fun r u H locs hw hP hD hS => ?_)
    subst hw
    exact hret _ _ (nI (fBuy g (nI ((F 2) (n0 * 4 + 0))) (nI ((F 2) (n0 * 4 + 1))))) () _ _ hP hD hS rfl (congrArg nI (dk_3 hk).1.symm) dX5_faultOfCommand_125
  · refine tp_i (congrArg nI hk) ?_
    refine lv_tableIn hx hb dX5_faultOfCommand_28 (by decide) (by decide) (off := 98) (by decide) (tgt := 126) (by decide) ?_
    refine lv_aload_n hx hb dX5_faultOfCommand_126 rfl (lv_at hl 2 rfl) ?_
    refine va_get (D := E.1) (ci := 9) (v := .ref (a 0)) (C := RX5) (T := TX5) (N := 11) hx hb hts inX5 hown hK hP 0 rfl rfl 0 (by decide) (hts _ q246) (fun _ h9 => h9) rfl dX5_faultOfCommand_127 ?_
    refine lv_iload_n hx hb dX5_faultOfCommand_130 rfl (lv_at hl 1 rfl) ?_
    refine run_i (S := Unit) (run_V (As := [.int (nI ((F 2) (n0 * 4 + 0)))]) (rest := []) (bs := [coC E x a a2 a3 b d k pa y w, stC E a g, prC E pa q F]) (cb := [stC E a g]) hx hb hml hown hts hK hZ hA (c_X4_faultOfPassing l E _ a g (nI ((F 2) (n0 * 4 + 0))) ) l_X5_102 rfl ⟨⟨rfl, rfl⟩, Nat.le_of_ble_eq_true rfl, Nat.le_of_ble_eq_true rfl⟩ 8 rfl [1] rfl (by decide) rfl hP hD hS hl.1 rfl (Nat.le_of_ble_eq_true rfl) dX5_faultOfCommand_131 ⟨Nat.zero_le _, Nat.zero_le _⟩) hA hP hD hS (isC := [1]) rfl [0, 2] [0, 2, 1] (br := [coC E x a a2 a3 b d k pa y w, prC E pa q F]) (bs2 := fun _ => [coC E x a a2 a3 b d k pa y w, stC E a g, prC E pa q F]) rfl (by decide) (fun _ => rfl) (by decide) (fun r u H locs hw hP hD hS => ?_)
    subst hw
    exact hret _ _ (nI (fPass (nI ((F 2) (n0 * 4 + 0))))) () _ _ hP hD hS rfl (congrArg nI (dk_4 hk).1.symm) dX5_faultOfCommand_134
  · refine tp_i (congrArg nI hk) ?_
    refine lv_tableIn hx hb dX5_faultOfCommand_28 (by decide) (by decide) (off := 107) (by decide) (tgt := 135) (by decide) ?_
    refine lv_aload_n hx hb dX5_faultOfCommand_135 rfl (lv_at hl 2 rfl) ?_
    refine va_get (D := E.1) (ci := 9) (v := .ref (a 0)) (C := RX5) (T := TX5) (N := 11) hx hb hts inX5 hown hK hP 0 rfl rfl 0 (by decide) (hts _ q246) (fun _ h9 => h9) rfl dX5_faultOfCommand_136 ?_
    refine run_i (S := Unit) (run_V (As := []) (rest := []) (bs := [coC E x a a2 a3 b d k pa y w, stC E a g, prC E pa q F]) (cb := [stC E a g]) hx hb hml hown hts hK hZ hA (c_X4_faultOfQuarter l E _ a g  hmc) l_X5_109 rfl ⟨⟨rfl, rfl⟩, Nat.le_of_ble_eq_true rfl, Nat.le_of_ble_eq_true rfl⟩ 8 rfl [1] rfl (by decide) rfl hP hD hS hl.1 rfl (Nat.le_of_ble_eq_true rfl) dX5_faultOfCommand_139 ⟨Nat.zero_le _, Nat.zero_le _⟩) hA hP hD hS (isC := [1]) rfl [0, 2] [0, 2, 1] (br := [coC E x a a2 a3 b d k pa y w, prC E pa q F]) (bs2 := fun _ => [coC E x a a2 a3 b d k pa y w, stC E a g, prC E pa q F]) rfl (by decide) (fun _ => rfl) (by decide) (fun r u H locs hw hP hD hS => ?_)
    subst hw
    exact hret _ _ (nI (if g 8 0 = 0 then 3 else 0)) () _ _ hP hD hS rfl (congrArg nI (dk_5 hk).1.symm) dX5_faultOfCommand_142
  · refine tp_i (congrArg nI hk) ?_
    refine lv_tableOut hx hb dX5_faultOfCommand_28 (by decide) (tgt := 143) (by decide) ?_
    refine lv_aload_n hx hb dX5_faultOfCommand_143 rfl (lv_at hl 2 rfl) ?_
    refine va_get (D := E.1) (ci := 9) (v := .ref (a 0)) (C := RX5) (T := TX5) (N := 11) hx hb hts inX5 hown hK hP 0 rfl rfl 0 (by decide) (hts _ q246) (fun _ h9 => h9) rfl dX5_faultOfCommand_144 ?_
    refine lv_iload_n hx hb dX5_faultOfCommand_147 rfl (lv_at hl 1 rfl) ?_
    refine lv_iload_n hx hb dX5_faultOfCommand_148 rfl (lv_at hl 0 rfl) ?_
    refine run_i (S := Unit) (run_V (As := [.int (nI ((F 2) (n0 * 4 + 0))), .int (nI ((F 2) (n0 * 4 + 1)))]) (rest := []) (bs := [coC E x a a2 a3 b d k pa y w, stC E a g, prC E pa q F]) (cb := [stC E a g]) hx hb hml hown hts hK hZ hA (c_X4_faultOfMotion l E _ a g (nI ((F 2) (n0 * 4 + 0))) (nI ((F 2) (n0 * 4 + 1))) ) l_X5_117 rfl ⟨⟨rfl, rfl⟩, Nat.le_of_ble_eq_true rfl, Nat.le_of_ble_eq_true rfl⟩ 8 rfl [1] rfl (by decide) rfl hP hD hS hl.1 rfl (Nat.le_of_ble_eq_true rfl) dX5_faultOfCommand_149 ⟨Nat.zero_le _, Nat.zero_le _⟩) hA hP hD hS (isC := [1]) rfl [0, 2] [0, 2, 1] (br := [coC E x a a2 a3 b d k pa y w, prC E pa q F]) (bs2 := fun _ => [coC E x a a2 a3 b d k pa y w, stC E a g, prC E pa q F]) rfl (by decide) (fun _ => rfl) (by decide) (fun r u H locs hw hP hD hS => ?_)
    subst hw
    exact hret _ _ (nI (fMot (nI ((F 2) (n0 * 4 + 0))) (nI ((F 2) (n0 * 4 + 1))))) () _ _ hP hD hS rfl (congrArg nI (dk_6 hk).1.symm) dX5_faultOfCommand_152
abbrev rm_X5_carryOut : Room := { frames := 5, cells := 0, slots := 0, locals := 193 }
set_option maxHeartbeats 4000000 in
set_option maxRecDepth 100000 in
theorem c_X5_carryOut (l : Launch) (E : EE) (sz : Nat) (x a a2 a3 b d k pa y w : Nat → Nat) (g : GG) (B : Nat) (hI : IB B g) (q : Nat → Nat) (F : GG) (co re : Nat → Nat) (n0 : Nat) (hn : n0 < 8) (hk7 : F 1 n0 < 7) (h0 : doF g (sgK (F 1 n0)) (F 2 (n0 * 4 + 0)) (F 2 (n0 * 4 + 1)) (F 2 (n0 * 4 + 2)) (F 2 (n0 * 4 + 3)) = 0) (hB : B + 60 ≤ 300000) : MV l yX5_carryOut cX5_carryOut 4 rm_X5_carryOut [.ref (x 0), .int (nI n0)] E sz [coC E x a a2 a3 b d k pa y w, stC E a g, prC E pa q F, diC E d co re] (fun (u : (Nat → Nat) × (Nat → Nat)) => True) (fun u => [coC E x a a2 a3 b d k pa y w, stC E a (doG g (sgK (F 1 n0)) (F 2 (n0 * 4 + 0)) (F 2 (n0 * 4 + 1)) (F 2 (n0 * 4 + 2)) (F 2 (n0 * 4 + 3))), prC E pa q F, diC E d u.1 u.2]) 0 0 := by
  refine mv_go (by decide) (Nat.le_of_ble_eq_true rfl) ?_
  intro p e s m below meth c A Q ls hx hb hml hown hts hK hZ hA hsz hP hD hl hret hnm
  have hS : va_S A s.heap s.heap [] := va_S.rf
  have hl : lv_has ls 4 [(0, .ref (x 0)), (1, .int (nI n0))] := hl
  skip
  have hmc := hI.mc
  have hbu := hI.bud
  refine lv_aload_n hx hb dX5_carryOut_0 rfl (lv_at hl 0 rfl) ?_
  refine va_get (D := E.1) (ci := 9) (v := .ref (pa 0)) (C := RX5) (T := TX5) (N := 11) hx hb hts inX5 hown hK hP 0 rfl rfl 6 (by decide) (hts _ q252) (fun _ h9 => h9) rfl dX5_carryOut_1 ?_
  refine lv_iload_n hx hb dX5_carryOut_4 rfl (lv_at hl 1 rfl) ?_
  refine lv_iconst (v := nI 0) hx hb dX5_carryOut_5 (by decide) ?_
  refine run_i (S := Unit) (run_V (As := [.int (nI n0), .int (nI 0)]) (rest := []) (bs := [coC E x a a2 a3 b d k pa y w, stC E a g, prC E pa q F, diC E d co re]) (cb := [prC E pa q F]) hx hb hml hown hts hK hZ hA (c_X3_argument l E _ pa q F n0 0 (by omega) (by omega)) l_X5_353 rfl ⟨⟨rfl, rfl⟩, Nat.le_of_ble_eq_true rfl, Nat.le_of_ble_eq_true rfl⟩ 7 rfl [2] rfl (by decide) rfl hP hD hS hl.1 rfl (Nat.le_of_ble_eq_true rfl) dX5_carryOut_6 ⟨Nat.zero_le _, Nat.zero_le _⟩) hA hP hD hS (isC := [2]) rfl [0, 1, 3] [0, 1, 3, 2] (br := [coC E x a a2 a3 b d k pa y w, stC E a g, diC E d co re]) (bs2 := fun _ => [coC E x a a2 a3 b d k pa y w, stC E a g, prC E pa q F, diC E d co re]) rfl (by decide) (fun _ => rfl) (by decide) (fun r u H locs hw hP hD hS => ?_)
  subst hw
  refine lv_istore_n (lv' := [(2, .int (nI ((F 2) (n0 * 4 + 0)))), (0, .ref (x 0)), (1, .int (nI n0))]) hx hb dX5_carryOut_9 rfl hl (by decide) rfl (fun ls hl => ?_)
  refine lv_aload_n hx hb dX5_carryOut_10 rfl (lv_at hl 1 rfl) ?_
  refine va_get (D := E.1) (ci := 9) (v := .ref (pa 0)) (C := RX5) (T := TX5) (N := 11) hx hb hts inX5 hown hK hP 0 rfl rfl 6 (by decide) (hts _ q252) (fun _ h9 => h9) rfl dX5_carryOut_11 ?_
  refine lv_iload_n hx hb dX5_carryOut_14 rfl (lv_at hl 2 rfl) ?_
  refine lv_iconst (v := nI 1) hx hb dX5_carryOut_15 (by decide) ?_
  refine run_i (S := Unit) (run_V (As := [.int (nI n0), .int (nI 1)]) (rest := []) (bs := [coC E x a a2 a3 b d k pa y w, stC E a g, prC E pa q F, diC E d co re]) (cb := [prC E pa q F]) hx hb hml hown hts hK hZ hA (c_X3_argument l E _ pa q F n0 1 (by omega) (by omega)) l_X5_353 rfl ⟨⟨rfl, rfl⟩, Nat.le_of_ble_eq_true rfl, Nat.le_of_ble_eq_true rfl⟩ 7 rfl [2] rfl (by decide) rfl hP hD hS hl.1 rfl (Nat.le_of_ble_eq_true rfl) dX5_carryOut_16 ⟨Nat.zero_le _, Nat.zero_le _⟩) hA hP hD hS (isC := [2]) rfl [0, 1, 3] [0, 1, 3, 2] (br := [coC E x a a2 a3 b d k pa y w, stC E a g, diC E d co re]) (bs2 := fun _ => [coC E x a a2 a3 b d k pa y w, stC E a g, prC E pa q F, diC E d co re]) rfl (by decide) (fun _ => rfl) (by decide) (fun r u H locs hw hP hD hS => ?_)
  subst hw
  refine lv_istore_n (lv' := [(3, .int (nI ((F 2) (n0 * 4 + 1)))), (2, .int (nI ((F 2) (n0 * 4 + 0)))), (0, .ref (x 0)), (1, .int (nI n0))]) hx hb dX5_carryOut_19 rfl hl (by decide) rfl (fun ls hl => ?_)
  refine lv_aload_n hx hb dX5_carryOut_20 rfl (lv_at hl 2 rfl) ?_
  refine va_get (D := E.1) (ci := 9) (v := .ref (pa 0)) (C := RX5) (T := TX5) (N := 11) hx hb hts inX5 hown hK hP 0 rfl rfl 6 (by decide) (hts _ q252) (fun _ h9 => h9) rfl dX5_carryOut_21 ?_
  refine lv_iload_n hx hb dX5_carryOut_24 rfl (lv_at hl 3 rfl) ?_
  refine run_i (S := Unit) (run_V (As := [.int (nI n0)]) (rest := []) (bs := [coC E x a a2 a3 b d k pa y w, stC E a g, prC E pa q F, diC E d co re]) (cb := [prC E pa q F]) hx hb hml hown hts hK hZ hA (c_X3_kindOf l E _ pa q F n0 (by omega)) l_X5_356 rfl ⟨⟨rfl, rfl⟩, Nat.le_of_ble_eq_true rfl, Nat.le_of_ble_eq_true rfl⟩ 7 rfl [2] rfl (by decide) rfl hP hD hS hl.1 rfl (Nat.le_of_ble_eq_true rfl) dX5_carryOut_25 ⟨Nat.zero_le _, Nat.zero_le _⟩) hA hP hD hS (isC := [2]) rfl [0, 1, 3] [0, 1, 3, 2] (br := [coC E x a a2 a3 b d k pa y w, stC E a g, diC E d co re]) (bs2 := fun _ => [coC E x a a2 a3 b d k pa y w, stC E a g, prC E pa q F, diC E d co re]) rfl (by decide) (fun _ => rfl) (by decide) (fun r u H locs hw hP hD hS => ?_)
  subst hw
  rcases (show F 1 n0 = 0 ∨ F 1 n0 = 1 ∨ F 1 n0 = 2 ∨ F 1 n0 = 3 ∨ F 1 n0 = 4 ∨ F 1 n0 = 5 ∨ F 1 n0 = 6 by omega) with hk | hk | hk | hk | hk | hk | hk
  · refine tp_i (congrArg nI hk) ?_
    refine lv_tableIn hx hb dX5_carryOut_28 (by decide) (by decide) (off := 40) (by decide) (tgt := 68) (by decide) ?_
    have hf9 := h0; rw [(dk_0 hk).1] at hf9
    obtain ⟨⟨j1, j2⟩, ⟨j3, j4⟩, ⟨j5, j6⟩, ⟨j7, j8⟩, j9⟩ := fJoin_0 hf9
    have ht0 : ((tn (nI (F 2 (n0 * 4 + 0))) : Nat) : Int) = (nI (F 2 (n0 * 4 + 0))).toInt := tn_t (by omega)
    have ht1 : ((tn (nI (F 2 (n0 * 4 + 1))) : Nat) : Int) = (nI (F 2 (n0 * 4 + 1))).toInt := tn_t (by omega)
    have hl : lv_has ls 4 [(3, .int (nI (tn (nI (F 2 (n0 * 4 + 1)))))), (2, .int (nI (tn (nI (F 2 (n0 * 4 + 0)))))), (0, .ref (x 0)), (1, .int (nI n0))] := by rw [tn_n (x := nI (F 2 (n0 * 4 + 0))) (by omega), tn_n (x := nI (F 2 (n0 * 4 + 1))) (by omega)]; exact hl
    refine lv_aload_n hx hb dX5_carryOut_68 rfl (lv_at hl 2 rfl) ?_
    refine va_get (D := E.1) (ci := 9) (v := .ref (a 0)) (C := RX5) (T := TX5) (N := 11) hx hb hts inX5 hown hK hP 0 rfl rfl 0 (by decide) (hts _ q246) (fun _ h9 => h9) rfl dX5_carryOut_69 ?_
    refine lv_iload_n hx hb dX5_carryOut_72 rfl (lv_at hl 1 rfl) ?_
    refine lv_iload_n hx hb dX5_carryOut_73 rfl (lv_at hl 0 rfl) ?_
    refine lv_aload_n hx hb dX5_carryOut_74 rfl (lv_at hl 2 rfl) ?_
    refine va_get (D := E.1) (ci := 9) (v := .ref (pa 0)) (C := RX5) (T := TX5) (N := 11) hx hb hts inX5 hown hK hP 0 rfl rfl 6 (by decide) (hts _ q252) (fun _ h9 => h9) rfl dX5_carryOut_75 ?_
    refine lv_iload_n hx hb dX5_carryOut_78 rfl (lv_at hl 3 rfl) ?_
    refine lv_iconst (v := nI 2) hx hb dX5_carryOut_79 (by decide) ?_
    refine run_i (S := Unit) (run_V (As := [.int (nI n0), .int (nI 2)]) (rest := [.int (nI (tn (nI (F 2 (n0 * 4 + 1))))), .int (nI (tn (nI (F 2 (n0 * 4 + 0))))), .ref (a 0)]) (bs := [coC E x a a2 a3 b d k pa y w, stC E a g, prC E pa q F, diC E d co re]) (cb := [prC E pa q F]) hx hb hml hown hts hK hZ hA (c_X3_argument l E _ pa q F n0 2 (by omega) (by omega)) l_X5_353 rfl ⟨⟨rfl, rfl⟩, Nat.le_of_ble_eq_true rfl, Nat.le_of_ble_eq_true rfl⟩ 7 rfl [2] rfl (by decide) rfl hP hD hS hl.1 rfl (Nat.le_of_ble_eq_true rfl) dX5_carryOut_80 ⟨Nat.zero_le _, Nat.zero_le _⟩) hA hP hD hS (isC := [2]) rfl [0, 1, 3] [0, 1, 3, 2] (br := [coC E x a a2 a3 b d k pa y w, stC E a g, diC E d co re]) (bs2 := fun _ => [coC E x a a2 a3 b d k pa y w, stC E a g, prC E pa q F, diC E d co re]) rfl (by decide) (fun _ => rfl) (by decide) (fun r u H locs hw hP hD hS => ?_)
    subst hw
    have ht2 : ((tn (nI (F 2 (n0 * 4 + 2))) : Nat) : Int) = (nI (F 2 (n0 * 4 + 2))).toInt := tn_t (by omega)
    refine tp_i (tn_n (x := nI (F 2 (n0 * 4 + 2))) (by omega)).symm ?_
    refine lv_aload_n hx hb dX5_carryOut_83 rfl (lv_at hl 2 rfl) ?_
    refine va_get (D := E.1) (ci := 9) (v := .ref (pa 0)) (C := RX5) (T := TX5) (N := 11) hx hb hts inX5 hown hK hP 0 rfl rfl 6 (by decide) (hts _ q252) (fun _ h9 => h9) rfl dX5_carryOut_84 ?_
    refine lv_iload_n hx hb dX5_carryOut_87 rfl (lv_at hl 3 rfl) ?_
    refine lv_iconst (v := nI 3) hx hb dX5_carryOut_88 (by decide) ?_
    refine run_i (S := Unit) (run_V (As := [.int (nI n0), .int (nI 3)]) (rest := [.int (nI (tn (nI (F 2 (n0 * 4 + 2))))), .int (nI (tn (nI (F 2 (n0 * 4 + 1))))), .int (nI (tn (nI (F 2 (n0 * 4 + 0))))), .ref (a 0)]) (bs := [coC E x a a2 a3 b d k pa y w, stC E a g, prC E pa q F, diC E d co re]) (cb := [prC E pa q F]) hx hb hml hown hts hK hZ hA (c_X3_argument l E _ pa q F n0 3 (by omega) (by omega)) l_X5_353 rfl ⟨⟨rfl, rfl⟩, Nat.le_of_ble_eq_true rfl, Nat.le_of_ble_eq_true rfl⟩ 7 rfl [2] rfl (by decide) rfl hP hD hS hl.1 rfl (Nat.le_of_ble_eq_true rfl) dX5_carryOut_89 ⟨Nat.zero_le _, Nat.zero_le _⟩) hA hP hD hS (isC := [2]) rfl [0, 1, 3] [0, 1, 3, 2] (br := [coC E x a a2 a3 b d k pa y w, stC E a g, diC E d co re]) (bs2 := fun _ => [coC E x a a2 a3 b d k pa y w, stC E a g, prC E pa q F, diC E d co re]) rfl (by decide) (fun _ => rfl) (by decide) (fun r u H locs hw hP hD hS => ?_)
    subst hw
    have ht3 : ((tn (nI (F 2 (n0 * 4 + 3))) : Nat) : Int) = (nI (F 2 (n0 * 4 + 3))).toInt := tn_t (by omega)
    refine tp_i (tn_n (x := nI (F 2 (n0 * 4 + 3))) (by omega)).symm ?_
    refine run_i (S := Unit) (run_V (As := [.int (nI (tn (nI (F 2 (n0 * 4 + 0))))), .int (nI (tn (nI (F 2 (n0 * 4 + 1))))), .int (nI (tn (nI (F 2 (n0 * 4 + 2))))), .int (nI (tn (nI (F 2 (n0 * 4 + 3)))))]) (rest := []) (bs := [coC E x a a2 a3 b d k pa y w, stC E a g, prC E pa q F, diC E d co re]) (cb := [stC E a g]) hx hb hml hown hts hK hZ hA (c_X4_join l E _ a g (tn (nI (F 2 (n0 * 4 + 0)))) (tn (nI (F 2 (n0 * 4 + 1)))) (tn (nI (F 2 (n0 * 4 + 2)))) (tn (nI (F 2 (n0 * 4 + 3)))) (by omega)) l_X5_80 rfl ⟨⟨rfl, rfl⟩, Nat.le_of_ble_eq_true rfl, Nat.le_of_ble_eq_true rfl⟩ 8 rfl [1] rfl (by decide) rfl hP hD hS hl.1 rfl (Nat.le_of_ble_eq_true rfl) dX5_carryOut_92 ⟨Nat.zero_le _, Nat.zero_le _⟩) hA hP hD hS (isC := [1]) rfl [0, 2, 3] [0, 3, 1, 2] (br := [coC E x a a2 a3 b d k pa y w, prC E pa q F, diC E d co re]) (bs2 := fun _ => [coC E x a a2 a3 b d k pa y w, stC E a (joinG g (tn (nI (F 2 (n0 * 4 + 0)))) (tn (nI (F 2 (n0 * 4 + 1)))) (tn (nI (F 2 (n0 * 4 + 2)))) (tn (nI (F 2 (n0 * 4 + 3))))), prC E pa q F, diC E d co re]) rfl (by decide) (fun _ => rfl) (by decide) (fun r u H locs hw hP hD hS => ?_)
    subst hw
    refine lv_pop hx hb dX5_carryOut_95 rfl ?_
    refine lv_goto (tgt := 175) hx hb dX5_carryOut_96 (by decide) ?_
    rw [show stC E a (joinG g (tn (nI (F 2 (n0 * 4 + 0)))) (tn (nI (F 2 (n0 * 4 + 1)))) (tn (nI (F 2 (n0 * 4 + 2)))) (tn (nI (F 2 (n0 * 4 + 3))))) = stC E a (doG g (sgK (F 1 n0)) (F 2 (n0 * 4 + 0)) (F 2 (n0 * 4 + 1)) (F 2 (n0 * 4 + 2)) (F 2 (n0 * 4 + 3))) from by rw [(dk_0 hk).2]] at hP hD
    exact hret _ _ (co, re) _ _ hP hD hS trivial dX5_carryOut_175
  · refine tp_i (congrArg nI hk) ?_
    refine lv_tableIn hx hb dX5_carryOut_28 (by decide) (by decide) (off := 71) (by decide) (tgt := 99) (by decide) ?_
    have hf9 := h0; rw [(dk_1 hk).1] at hf9
    obtain ⟨⟨j1, j2⟩, ⟨j3, j4⟩, j5⟩ := fWind_0 hf9
    have ht0 : ((tn (nI (F 2 (n0 * 4 + 0))) : Nat) : Int) = (nI (F 2 (n0 * 4 + 0))).toInt := tn_t (by omega)
    have ht1 : ((tn (nI (F 2 (n0 * 4 + 1))) : Nat) : Int) = (nI (F 2 (n0 * 4 + 1))).toInt := tn_t (by omega)
    have hl : lv_has ls 4 [(3, .int (nI (tn (nI (F 2 (n0 * 4 + 1)))))), (2, .int (nI (tn (nI (F 2 (n0 * 4 + 0)))))), (0, .ref (x 0)), (1, .int (nI n0))] := by rw [tn_n (x := nI (F 2 (n0 * 4 + 0))) (by omega), tn_n (x := nI (F 2 (n0 * 4 + 1))) (by omega)]; exact hl
    refine lv_aload_n hx hb dX5_carryOut_99 rfl (lv_at hl 2 rfl) ?_
    refine va_get (D := E.1) (ci := 9) (v := .ref (a 0)) (C := RX5) (T := TX5) (N := 11) hx hb hts inX5 hown hK hP 0 rfl rfl 0 (by decide) (hts _ q246) (fun _ h9 => h9) rfl dX5_carryOut_100 ?_
    refine lv_iload_n hx hb dX5_carryOut_103 rfl (lv_at hl 1 rfl) ?_
    refine lv_iload_n hx hb dX5_carryOut_104 rfl (lv_at hl 0 rfl) ?_
    refine run_i (S := Unit) (run_V (As := [.int (nI (tn (nI (F 2 (n0 * 4 + 0))))), .int (nI (tn (nI (F 2 (n0 * 4 + 1)))))]) (rest := []) (bs := [coC E x a a2 a3 b d k pa y w, stC E a g, prC E pa q F, diC E d co re]) (cb := [stC E a g]) hx hb hml hown hts hK hZ hA (c_X4_windUp l E _ a g (tn (nI (F 2 (n0 * 4 + 0)))) (tn (nI (F 2 (n0 * 4 + 1)))) (by omega)) l_X5_87 rfl ⟨⟨rfl, rfl⟩, Nat.le_of_ble_eq_true rfl, Nat.le_of_ble_eq_true rfl⟩ 8 rfl [1] rfl (by decide) rfl hP hD hS hl.1 rfl (Nat.le_of_ble_eq_true rfl) dX5_carryOut_105 ⟨Nat.zero_le _, Nat.zero_le _⟩) hA hP hD hS (isC := [1]) rfl [0, 2, 3] [0, 3, 1, 2] (br := [coC E x a a2 a3 b d k pa y w, prC E pa q F, diC E d co re]) (bs2 := fun _ => [coC E x a a2 a3 b d k pa y w, stC E a (windG g (tn (nI (F 2 (n0 * 4 + 0)))) (tn (nI (F 2 (n0 * 4 + 1))))), prC E pa q F, diC E d co re]) rfl (by decide) (fun _ => rfl) (by decide) (fun r u H locs hw hP hD hS => ?_)
    subst hw
    refine lv_pop hx hb dX5_carryOut_108 rfl ?_
    refine lv_goto (tgt := 175) hx hb dX5_carryOut_109 (by decide) ?_
    rw [show stC E a (windG g (tn (nI (F 2 (n0 * 4 + 0)))) (tn (nI (F 2 (n0 * 4 + 1))))) = stC E a (doG g (sgK (F 1 n0)) (F 2 (n0 * 4 + 0)) (F 2 (n0 * 4 + 1)) (F 2 (n0 * 4 + 2)) (F 2 (n0 * 4 + 3))) from by rw [(dk_1 hk).2]] at hP hD
    exact hret _ _ (co, re) _ _ hP hD hS trivial dX5_carryOut_175
  · refine tp_i (congrArg nI hk) ?_
    refine lv_tableIn hx hb dX5_carryOut_28 (by decide) (by decide) (off := 84) (by decide) (tgt := 112) (by decide) ?_
    have hf9 := h0; rw [(dk_2 hk).1] at hf9
    obtain ⟨⟨j1, j2⟩, ⟨j3, j4⟩⟩ := fTune_0 hf9
    have ht0 : ((tn (nI (F 2 (n0 * 4 + 0))) : Nat) : Int) = (nI (F 2 (n0 * 4 + 0))).toInt := tn_t (by omega)
    have ht1 : ((tn (nI (F 2 (n0 * 4 + 1))) : Nat) : Int) = (nI (F 2 (n0 * 4 + 1))).toInt := tn_t (by omega)
    have hl : lv_has ls 4 [(3, .int (nI (tn (nI (F 2 (n0 * 4 + 1)))))), (2, .int (nI (tn (nI (F 2 (n0 * 4 + 0)))))), (0, .ref (x 0)), (1, .int (nI n0))] := by rw [tn_n (x := nI (F 2 (n0 * 4 + 0))) (by omega), tn_n (x := nI (F 2 (n0 * 4 + 1))) (by omega)]; exact hl
    refine lv_aload_n hx hb dX5_carryOut_112 rfl (lv_at hl 2 rfl) ?_
    refine va_get (D := E.1) (ci := 9) (v := .ref (a 0)) (C := RX5) (T := TX5) (N := 11) hx hb hts inX5 hown hK hP 0 rfl rfl 0 (by decide) (hts _ q246) (fun _ h9 => h9) rfl dX5_carryOut_113 ?_
    refine lv_iload_n hx hb dX5_carryOut_116 rfl (lv_at hl 1 rfl) ?_
    refine lv_iload_n hx hb dX5_carryOut_117 rfl (lv_at hl 0 rfl) ?_
    refine run_i (S := Unit) (run_V (As := [.int (nI (tn (nI (F 2 (n0 * 4 + 0))))), .int (nI (tn (nI (F 2 (n0 * 4 + 1)))))]) (rest := []) (bs := [coC E x a a2 a3 b d k pa y w, stC E a g, prC E pa q F, diC E d co re]) (cb := [stC E a g]) hx hb hml hown hts hK hZ hA (c_X4_retune l E _ a g (tn (nI (F 2 (n0 * 4 + 0)))) (tn (nI (F 2 (n0 * 4 + 1)))) (by omega)) l_X5_93 rfl ⟨⟨rfl, rfl⟩, Nat.le_of_ble_eq_true rfl, Nat.le_of_ble_eq_true rfl⟩ 8 rfl [1] rfl (by decide) rfl hP hD hS hl.1 rfl (Nat.le_of_ble_eq_true rfl) dX5_carryOut_118 ⟨Nat.zero_le _, Nat.zero_le _⟩) hA hP hD hS (isC := [1]) rfl [0, 2, 3] [0, 3, 1, 2] (br := [coC E x a a2 a3 b d k pa y w, prC E pa q F, diC E d co re]) (bs2 := fun _ => [coC E x a a2 a3 b d k pa y w, stC E a (up2 g 3 (tn (nI (F 2 (n0 * 4 + 0)))) (tn (nI (F 2 (n0 * 4 + 1))))), prC E pa q F, diC E d co re]) rfl (by decide) (fun _ => rfl) (by decide) (fun r u H locs hw hP hD hS => ?_)
    subst hw
    refine lv_pop hx hb dX5_carryOut_121 rfl ?_
    refine lv_goto (tgt := 175) hx hb dX5_carryOut_122 (by decide) ?_
    rw [show stC E a (up2 g 3 (tn (nI (F 2 (n0 * 4 + 0)))) (tn (nI (F 2 (n0 * 4 + 1))))) = stC E a (doG g (sgK (F 1 n0)) (F 2 (n0 * 4 + 0)) (F 2 (n0 * 4 + 1)) (F 2 (n0 * 4 + 2)) (F 2 (n0 * 4 + 3))) from by rw [(dk_2 hk).2]] at hP hD
    exact hret _ _ (co, re) _ _ hP hD hS trivial dX5_carryOut_175
  · refine tp_i (congrArg nI hk) ?_
    refine lv_tableIn hx hb dX5_carryOut_28 (by decide) (by decide) (off := 97) (by decide) (tgt := 125) (by decide) ?_
    have hf9 := h0; rw [(dk_3 hk).1] at hf9
    obtain ⟨⟨j1, j2⟩, ⟨j3, j4⟩, j5, j6⟩ := fBuy_0 hf9
    have ht0 : ((tn (nI (F 2 (n0 * 4 + 0))) : Nat) : Int) = (nI (F 2 (n0 * 4 + 0))).toInt := tn_t (by omega)
    have ht1 : ((tn (nI (F 2 (n0 * 4 + 1))) : Nat) : Int) = (nI (F 2 (n0 * 4 + 1))).toInt := tn_t (by omega)
    have hl : lv_has ls 4 [(3, .int (nI (tn (nI (F 2 (n0 * 4 + 1)))))), (2, .int (nI (tn (nI (F 2 (n0 * 4 + 0)))))), (0, .ref (x 0)), (1, .int (nI n0))] := by rw [tn_n (x := nI (F 2 (n0 * 4 + 0))) (by omega), tn_n (x := nI (F 2 (n0 * 4 + 1))) (by omega)]; exact hl
    refine lv_aload_n hx hb dX5_carryOut_125 rfl (lv_at hl 2 rfl) ?_
    refine va_get (D := E.1) (ci := 9) (v := .ref (a 0)) (C := RX5) (T := TX5) (N := 11) hx hb hts inX5 hown hK hP 0 rfl rfl 0 (by decide) (hts _ q246) (fun _ h9 => h9) rfl dX5_carryOut_126 ?_
    refine lv_iload_n hx hb dX5_carryOut_129 rfl (lv_at hl 1 rfl) ?_
    refine lv_iload_n hx hb dX5_carryOut_130 rfl (lv_at hl 0 rfl) ?_
    refine run_i (S := Unit) (run_V (As := [.int (nI (tn (nI (F 2 (n0 * 4 + 0))))), .int (nI (tn (nI (F 2 (n0 * 4 + 1)))))]) (rest := []) (bs := [coC E x a a2 a3 b d k pa y w, stC E a g, prC E pa q F, diC E d co re]) (cb := [stC E a g]) hx hb hml hown hts hK hZ hA (c_X4_buy l E _ a g (tn (nI (F 2 (n0 * 4 + 0)))) (tn (nI (F 2 (n0 * 4 + 1)))) (by omega) (by omega)) l_X5_99 rfl ⟨⟨rfl, rfl⟩, Nat.le_of_ble_eq_true rfl, Nat.le_of_ble_eq_true rfl⟩ 8 rfl [1] rfl (by decide) rfl hP hD hS hl.1 rfl (Nat.le_of_ble_eq_true rfl) dX5_carryOut_131 ⟨Nat.zero_le _, Nat.zero_le _⟩) hA hP hD hS (isC := [1]) rfl [0, 2, 3] [0, 3, 1, 2] (br := [coC E x a a2 a3 b d k pa y w, prC E pa q F, diC E d co re]) (bs2 := fun _ => [coC E x a a2 a3 b d k pa y w, stC E a (buyG g (tn (nI (F 2 (n0 * 4 + 0)))) (tn (nI (F 2 (n0 * 4 + 1))))), prC E pa q F, diC E d co re]) rfl (by decide) (fun _ => rfl) (by decide) (fun r u H locs hw hP hD hS => ?_)
    subst hw
    refine lv_pop hx hb dX5_carryOut_134 rfl ?_
    refine lv_goto (tgt := 175) hx hb dX5_carryOut_135 (by decide) ?_
    rw [show stC E a (buyG g (tn (nI (F 2 (n0 * 4 + 0)))) (tn (nI (F 2 (n0 * 4 + 1))))) = stC E a (doG g (sgK (F 1 n0)) (F 2 (n0 * 4 + 0)) (F 2 (n0 * 4 + 1)) (F 2 (n0 * 4 + 2)) (F 2 (n0 * 4 + 3))) from by rw [(dk_3 hk).2]] at hP hD
    exact hret _ _ (co, re) _ _ hP hD hS trivial dX5_carryOut_175
  · refine tp_i (congrArg nI hk) ?_
    refine lv_tableIn hx hb dX5_carryOut_28 (by decide) (by decide) (off := 110) (by decide) (tgt := 138) (by decide) ?_
    have hf9 := h0; rw [(dk_4 hk).1] at hf9
    obtain ⟨j1, j2⟩ := fPass_0 hf9
    have ht0 : ((tn (nI (F 2 (n0 * 4 + 0))) : Nat) : Int) = (nI (F 2 (n0 * 4 + 0))).toInt := tn_t (by omega)
    have hl : lv_has ls 4 [(3, .int (nI ((F 2) (n0 * 4 + 1)))), (2, .int (nI (tn (nI (F 2 (n0 * 4 + 0)))))), (0, .ref (x 0)), (1, .int (nI n0))] := by rw [tn_n (x := nI (F 2 (n0 * 4 + 0))) (by omega)]; exact hl
    refine lv_aload_n hx hb dX5_carryOut_138 rfl (lv_at hl 2 rfl) ?_
    refine va_get (D := E.1) (ci := 9) (v := .ref (a 0)) (C := RX5) (T := TX5) (N := 11) hx hb hts inX5 hown hK hP 0 rfl rfl 0 (by decide) (hts _ q246) (fun _ h9 => h9) rfl dX5_carryOut_139 ?_
    refine lv_iload_n hx hb dX5_carryOut_142 rfl (lv_at hl 1 rfl) ?_
    refine run_i (S := Unit) (run_V (As := [.int (nI (tn (nI (F 2 (n0 * 4 + 0)))))]) (rest := []) (bs := [coC E x a a2 a3 b d k pa y w, stC E a g, prC E pa q F, diC E d co re]) (cb := [stC E a g]) hx hb hml hown hts hK hZ hA (c_X4_letPass l E _ a g _ hI (tn (nI (F 2 (n0 * 4 + 0)))) (by omega) (by omega)) l_X5_106 rfl ⟨⟨rfl, rfl⟩, Nat.le_of_ble_eq_true rfl, Nat.le_of_ble_eq_true rfl⟩ 8 rfl [1] rfl (by decide) rfl hP hD hS hl.1 rfl (Nat.le_of_ble_eq_true rfl) dX5_carryOut_143 ⟨Nat.zero_le _, Nat.zero_le _⟩) hA hP hD hS (isC := [1]) rfl [0, 2, 3] [0, 3, 1, 2] (br := [coC E x a a2 a3 b d k pa y w, prC E pa q F, diC E d co re]) (bs2 := fun _ => [coC E x a a2 a3 b d k pa y w, stC E a (passG g (tn (nI (F 2 (n0 * 4 + 0))))), prC E pa q F, diC E d co re]) rfl (by decide) (fun _ => rfl) (by decide) (fun r u H locs hw hP hD hS => ?_)
    subst hw
    refine lv_pop hx hb dX5_carryOut_146 rfl ?_
    refine lv_goto (tgt := 175) hx hb dX5_carryOut_147 (by decide) ?_
    rw [show stC E a (passG g (tn (nI (F 2 (n0 * 4 + 0))))) = stC E a (doG g (sgK (F 1 n0)) (F 2 (n0 * 4 + 0)) (F 2 (n0 * 4 + 1)) (F 2 (n0 * 4 + 2)) (F 2 (n0 * 4 + 3))) from by rw [(dk_4 hk).2]] at hP hD
    exact hret _ _ (co, re) _ _ hP hD hS trivial dX5_carryOut_175
  · refine tp_i (congrArg nI hk) ?_
    refine lv_tableIn hx hb dX5_carryOut_28 (by decide) (by decide) (off := 122) (by decide) (tgt := 150) (by decide) ?_
    have hf9 := h0; rw [(dk_5 hk).1] at hf9
    have hz := fPay_0 hf9
    refine lv_aload_n hx hb dX5_carryOut_150 rfl (lv_at hl 2 rfl) ?_
    refine va_get (D := E.1) (ci := 9) (v := .ref (d 0)) (C := RX5) (T := TX5) (N := 11) hx hb hts inX5 hown hK hP 0 rfl rfl 4 (by decide) (hts _ q250) (fun _ h9 => h9) rfl dX5_carryOut_151 ?_
    refine lv_aload_n hx hb dX5_carryOut_154 rfl (lv_at hl 2 rfl) ?_
    refine va_get (D := E.1) (ci := 9) (v := .ref (a 0)) (C := RX5) (T := TX5) (N := 11) hx hb hts inX5 hown hK hP 0 rfl rfl 0 (by decide) (hts _ q246) (fun _ h9 => h9) rfl dX5_carryOut_155 ?_
    refine run_i (S := (Nat → Nat) × (Nat → Nat)) (run_V (As := [.ref (a 0)]) (rest := []) (bs := [coC E x a a2 a3 b d k pa y w, stC E a g, prC E pa q F, diC E d co re]) (cb := [diC E d co re, stC E a g]) hx hb hml hown hts hK hZ hA (c_X0_payOut l E _ d co re a g _ hI hz  ) l_X5_113 rfl ⟨⟨rfl, rfl⟩, Nat.le_of_ble_eq_true rfl, Nat.le_of_ble_eq_true rfl⟩ 4 rfl [3, 1] rfl (by decide) rfl hP hD hS hl.1 rfl (Nat.le_of_ble_eq_true rfl) dX5_carryOut_158 ⟨Nat.zero_le _, Nat.zero_le _⟩) hA hP hD hS (isC := [3, 1]) rfl [0, 2] [0, 3, 1, 2] (br := [coC E x a a2 a3 b d k pa y w, prC E pa q F]) (bs2 := fun u => [coC E x a a2 a3 b d k pa y w, stC E a (payG g), prC E pa q F, diC E d u.1 u.2]) rfl (by decide) (fun _ => rfl) (by decide) (fun r u H locs hw hP hD hS => ?_)
    obtain ⟨co_1, re_2⟩ := u
    subst hw
    have hP : va_P E.1 vwCl ([coC E x a a2 a3 b d k pa y w, stC E a (payG g), prC E pa q F, diC E d co_1 re_2] : List va_W).flatten H := hP
    have hD : va_D A ([coC E x a a2 a3 b d k pa y w, stC E a (payG g), prC E pa q F, diC E d co_1 re_2] : List va_W).flatten := hD
    refine lv_pop hx hb dX5_carryOut_161 rfl ?_
    refine lv_goto (tgt := 175) hx hb dX5_carryOut_162 (by decide) ?_
    rw [show stC E a (payG g) = stC E a (doG g (sgK (F 1 n0)) (F 2 (n0 * 4 + 0)) (F 2 (n0 * 4 + 1)) (F 2 (n0 * 4 + 2)) (F 2 (n0 * 4 + 3))) from by rw [(dk_5 hk).2]] at hP hD
    exact hret _ _ (co_1, re_2) _ _ hP hD hS trivial dX5_carryOut_175
  · refine tp_i (congrArg nI hk) ?_
    refine lv_tableOut hx hb dX5_carryOut_28 (by decide) (tgt := 165) (by decide) ?_
    have hf9 := h0; rw [(dk_6 hk).1] at hf9
    obtain ⟨⟨j1, j2⟩, ⟨j3, j4⟩⟩ := fMot_0 hf9
    have ht0 : ((tn (nI (F 2 (n0 * 4 + 0))) : Nat) : Int) = (nI (F 2 (n0 * 4 + 0))).toInt := tn_t (by omega)
    have ht1 : ((tn (nI (F 2 (n0 * 4 + 1))) : Nat) : Int) = (nI (F 2 (n0 * 4 + 1))).toInt := tn_t (by omega)
    have hl : lv_has ls 4 [(3, .int (nI (tn (nI (F 2 (n0 * 4 + 1)))))), (2, .int (nI (tn (nI (F 2 (n0 * 4 + 0)))))), (0, .ref (x 0)), (1, .int (nI n0))] := by rw [tn_n (x := nI (F 2 (n0 * 4 + 0))) (by omega), tn_n (x := nI (F 2 (n0 * 4 + 1))) (by omega)]; exact hl
    refine lv_aload_n hx hb dX5_carryOut_165 rfl (lv_at hl 2 rfl) ?_
    refine va_get (D := E.1) (ci := 9) (v := .ref (a 0)) (C := RX5) (T := TX5) (N := 11) hx hb hts inX5 hown hK hP 0 rfl rfl 0 (by decide) (hts _ q246) (fun _ h9 => h9) rfl dX5_carryOut_166 ?_
    refine lv_iload_n hx hb dX5_carryOut_169 rfl (lv_at hl 1 rfl) ?_
    refine lv_iload_n hx hb dX5_carryOut_170 rfl (lv_at hl 0 rfl) ?_
    refine run_i (S := Unit) (run_V (As := [.int (nI (tn (nI (F 2 (n0 * 4 + 0))))), .int (nI (tn (nI (F 2 (n0 * 4 + 1)))))]) (rest := []) (bs := [coC E x a a2 a3 b d k pa y w, stC E a g, prC E pa q F, diC E d co re]) (cb := [stC E a g]) hx hb hml hown hts hK hZ hA (c_X4_decide l E _ a g _ hI (tn (nI (F 2 (n0 * 4 + 0)))) (tn (nI (F 2 (n0 * 4 + 1)))) (by omega) (by omega)) l_X5_120 rfl ⟨⟨rfl, rfl⟩, Nat.le_of_ble_eq_true rfl, Nat.le_of_ble_eq_true rfl⟩ 8 rfl [1] rfl (by decide) rfl hP hD hS hl.1 rfl (Nat.le_of_ble_eq_true rfl) dX5_carryOut_171 ⟨Nat.zero_le _, Nat.zero_le _⟩) hA hP hD hS (isC := [1]) rfl [0, 2, 3] [0, 3, 1, 2] (br := [coC E x a a2 a3 b d k pa y w, prC E pa q F, diC E d co re]) (bs2 := fun _ => [coC E x a a2 a3 b d k pa y w, stC E a (voteG g (tn (nI (F 2 (n0 * 4 + 0)))) (tn (nI (F 2 (n0 * 4 + 1))))), prC E pa q F, diC E d co re]) rfl (by decide) (fun _ => rfl) (by decide) (fun r u H locs hw hP hD hS => ?_)
    subst hw
    refine lv_pop hx hb dX5_carryOut_174 rfl ?_
    rw [show stC E a (voteG g (tn (nI (F 2 (n0 * 4 + 0)))) (tn (nI (F 2 (n0 * 4 + 1))))) = stC E a (doG g (sgK (F 1 n0)) (F 2 (n0 * 4 + 0)) (F 2 (n0 * 4 + 1)) (F 2 (n0 * 4 + 2)) (F 2 (n0 * 4 + 3))) from by rw [(dk_6 hk).2]] at hP hD
    exact hret _ _ (co, re) _ _ hP hD hS trivial dX5_carryOut_175
