abbrev rm_X6_does : Room := { frames := 4, cells := 0, slots := 0, locals := 93 }
set_option maxHeartbeats 4000000 in
set_option maxRecDepth 100000 in
theorem c_X6_does (l : Launch) (E : EE) (sz : Nat) (b : Nat → Nat) (z : Nat → Nat) (g : GG) (gs : Nat → GG) (ar : GG) (B : Nat) (hI : IB B g) (hB : B + 60 ≤ 300000) (k0 : Nat) (hk0 : k0 ≤ 50) (hK : ar 1 (5 * k0) < 2147483648) : MI l yX6_does cX6_does 4 .int rm_X6_does [.ref (b 0), .int (nI k0)] E sz [moC E b z g gs ar] (fun (r : Int32) (_ : Unit) => r = nI (doC g (ar 1 (5 * k0)) (ar 1 (5 * k0 + 1)) (ar 1 (5 * k0 + 2)) (ar 1 (5 * k0 + 3)) (ar 1 (5 * k0 + 4)))) (fun _ => [moC E b (if doF g (ar 1 (5 * k0)) (ar 1 (5 * k0 + 1)) (ar 1 (5 * k0 + 2)) (ar 1 (5 * k0 + 3)) (ar 1 (5 * k0 + 4)) = 0 then upn z 7 (doA g (ar 1 (5 * k0)) (ar 1 (5 * k0 + 1)) (ar 1 (5 * k0 + 2))) else z) (if doF g (ar 1 (5 * k0)) (ar 1 (5 * k0 + 1)) (ar 1 (5 * k0 + 2)) (ar 1 (5 * k0 + 3)) (ar 1 (5 * k0 + 4)) = 0 then doG g (ar 1 (5 * k0)) (ar 1 (5 * k0 + 1)) (ar 1 (5 * k0 + 2)) (ar 1 (5 * k0 + 3)) (ar 1 (5 * k0 + 4)) else g) gs ar]) 0 0 := by
  refine mi_go (by decide) (Nat.le_of_ble_eq_true rfl) ?_
  intro p e s m below meth c A Q ls hx hb hml hown hts hK hZ hA hsz hP hD hl hret
  have hS : va_S A s.heap s.heap [] := va_S.rf
  have hl : lv_has ls 4 [(0, .ref (b 0)), (1, .int (nI k0))] := hl
  skip
  have hmc := hI.mc
  have hbu := hI.bud
  refine lv_aload_n hx hb dX6_does_0 rfl (lv_at hl 0 rfl) ?_
  refine va_get (D := E.1) (ci := 10) (v := .ref (b 7)) (C := RX6) (T := TX6) (N := 20) hx hb hts inX6 hown hK hP 0 rfl rfl 9 (by decide) (hts _ q1443) (fun _ h9 => h9) rfl dX6_does_1 ?_
  refine lv_iconst (v := nI 5) hx hb dX6_does_4 (by decide) ?_
  refine lv_iload_n hx hb dX6_does_5 rfl (lv_at hl 1 rfl) ?_
  refine nv_imul hx hb dX6_does_6 ?_
  refine lv_iconst (v := nI 1) hx hb dX6_does_7 (by decide) ?_
  refine nv_iadd hx hb dX6_does_8 ?_
  refine nv_iald (f := (ar 1)) (i := 5 * k0 + 1) (n := 300) hx hb hK hP 7 0 rfl rfl (by omega) (by decide) dX6_does_9 ?_
  refine lv_istore_n (lv' := [(2, .int (nI ((ar 1) (5 * k0 + 1)))), (0, .ref (b 0)), (1, .int (nI k0))]) hx hb dX6_does_10 rfl hl (by decide) rfl (fun ls hl => ?_)
  refine lv_aload_n hx hb dX6_does_11 rfl (lv_at hl 1 rfl) ?_
  refine va_get (D := E.1) (ci := 10) (v := .ref (b 7)) (C := RX6) (T := TX6) (N := 20) hx hb hts inX6 hown hK hP 0 rfl rfl 9 (by decide) (hts _ q1443) (fun _ h9 => h9) rfl dX6_does_12 ?_
  refine lv_iconst (v := nI 5) hx hb dX6_does_15 (by decide) ?_
  refine lv_iload_n hx hb dX6_does_16 rfl (lv_at hl 2 rfl) ?_
  refine nv_imul hx hb dX6_does_17 ?_
  refine lv_iconst (v := nI 2) hx hb dX6_does_18 (by decide) ?_
  refine nv_iadd hx hb dX6_does_19 ?_
  refine nv_iald (f := (ar 1)) (i := 5 * k0 + 2) (n := 300) hx hb hK hP 7 0 rfl rfl (by omega) (by decide) dX6_does_20 ?_
  refine lv_istore_n (lv' := [(3, .int (nI ((ar 1) (5 * k0 + 2)))), (2, .int (nI ((ar 1) (5 * k0 + 1)))), (0, .ref (b 0)), (1, .int (nI k0))]) hx hb dX6_does_21 rfl hl (by decide) rfl (fun ls hl => ?_)
  refine lv_aload_n hx hb dX6_does_22 rfl (lv_at hl 2 rfl) ?_
  refine va_get (D := E.1) (ci := 10) (v := .ref (b 7)) (C := RX6) (T := TX6) (N := 20) hx hb hts inX6 hown hK hP 0 rfl rfl 9 (by decide) (hts _ q1443) (fun _ h9 => h9) rfl dX6_does_23 ?_
  refine lv_iconst (v := nI 5) hx hb dX6_does_26 (by decide) ?_
  refine lv_iload_n hx hb dX6_does_27 rfl (lv_at hl 3 rfl) ?_
  refine nv_imul hx hb dX6_does_28 ?_
  refine nv_iald (f := (ar 1)) (i := 5 * k0) (n := 300) hx hb hK hP 7 0 rfl rfl (by omega) (by decide) dX6_does_29 ?_
  by_cases k98 : (((ar 1) (5 * k0) : Nat) : Int) = 98
  · skip
    have hke : ar 1 (5 * k0) = 98 := by omega
    refine nv_lk (X := (((ar 1) (5 * k0) : Nat) : Int)) hx hb (nI_toInt (by omega)) dX6_does_30 (by decide) (by rw [k98]; first | done | decide) (tgt := 129) (by decide) ?_
    refine lv_aload_n hx hb dX6_does_129 rfl (lv_at hl 2 rfl) ?_
    refine lv_iload_n hx hb dX6_does_130 rfl (lv_at hl 1 rfl) ?_
    refine lv_iload_n hx hb dX6_does_131 rfl (lv_at hl 0 rfl) ?_
    refine run_i (S := Unit) (run_V (As := [.int (nI ((ar 1) (5 * k0 + 1))), .int (nI ((ar 1) (5 * k0 + 2)))]) (rest := []) (bs := [moC E b z g gs ar]) (cb := [moC E b z g gs ar]) hx hb hml hown hts hK hZ hA (c_X6_buys l E _ b z g gs ar _ hI (nI ((ar 1) (5 * k0 + 1))) (nI ((ar 1) (5 * k0 + 2))) ) l_X6_121 rfl ⟨⟨rfl, rfl⟩, Nat.le_of_ble_eq_true rfl, Nat.le_of_ble_eq_true rfl⟩ 10 rfl [0] rfl (by decide) rfl hP hD hS hl.1 rfl (Nat.le_of_ble_eq_true rfl) dX6_does_132 ⟨Nat.zero_le _, Nat.zero_le _⟩) hA hP hD hS (isC := [0]) rfl [] [0] (br := []) (bs2 := fun _ => [moC E b (if fBuy g (nI ((ar 1) (5 * k0 + 1))) (nI ((ar 1) (5 * k0 + 2))) = 0 then upn z 7 (g 0 (tn (nI ((ar 1) (5 * k0 + 1)))) + tn (nI ((ar 1) (5 * k0 + 2)))) else z) (if fBuy g (nI ((ar 1) (5 * k0 + 1))) (nI ((ar 1) (5 * k0 + 2))) = 0 then buyG g (tn (nI ((ar 1) (5 * k0 + 1)))) (tn (nI ((ar 1) (5 * k0 + 2)))) else g) gs ar]) rfl (by decide) (fun _ => rfl) (by decide) (fun r u H locs hw hP hD hS => ?_)
    subst hw
    have hF9 := show doF g (ar 1 (5 * k0)) (ar 1 (5 * k0 + 1)) (ar 1 (5 * k0 + 2)) (ar 1 (5 * k0 + 3)) (ar 1 (5 * k0 + 4)) = _ from by unfold doF; rw [if_pos hke]
    have hC9 := show doC g (ar 1 (5 * k0)) (ar 1 (5 * k0 + 1)) (ar 1 (5 * k0 + 2)) (ar 1 (5 * k0 + 3)) (ar 1 (5 * k0 + 4)) = _ from by unfold doC; rw [if_pos hke]
    have hA9 := show doA g (ar 1 (5 * k0)) (ar 1 (5 * k0 + 1)) (ar 1 (5 * k0 + 2)) = _ from by unfold doA; rw [if_pos hke]
    have hG9 := show doG g (ar 1 (5 * k0)) (ar 1 (5 * k0 + 1)) (ar 1 (5 * k0 + 2)) (ar 1 (5 * k0 + 3)) (ar 1 (5 * k0 + 4)) = _ from by unfold doG; rw [if_pos hke]
    have hmE : moC E b (if fBuy g (nI ((ar 1) (5 * k0 + 1))) (nI ((ar 1) (5 * k0 + 2))) = 0 then upn z 7 (g 0 (tn (nI ((ar 1) (5 * k0 + 1)))) + tn (nI ((ar 1) (5 * k0 + 2)))) else z) (if fBuy g (nI ((ar 1) (5 * k0 + 1))) (nI ((ar 1) (5 * k0 + 2))) = 0 then buyG g (tn (nI ((ar 1) (5 * k0 + 1)))) (tn (nI ((ar 1) (5 * k0 + 2)))) else g) gs ar = moC E b (if doF g (ar 1 (5 * k0)) (ar 1 (5 * k0 + 1)) (ar 1 (5 * k0 + 2)) (ar 1 (5 * k0 + 3)) (ar 1 (5 * k0 + 4)) = 0 then upn z 7 (doA g (ar 1 (5 * k0)) (ar 1 (5 * k0 + 1)) (ar 1 (5 * k0 + 2))) else z) (if doF g (ar 1 (5 * k0)) (ar 1 (5 * k0 + 1)) (ar 1 (5 * k0 + 2)) (ar 1 (5 * k0 + 3)) (ar 1 (5 * k0 + 4)) = 0 then doG g (ar 1 (5 * k0)) (ar 1 (5 * k0 + 1)) (ar 1 (5 * k0 + 2)) (ar 1 (5 * k0 + 3)) (ar 1 (5 * k0 + 4)) else g) gs ar := by rw [hF9, hA9, hG9]
    rw [hmE] at hP hD; clear hmE
    exact hret _ _ (nI (fBuy g (nI ((ar 1) (5 * k0 + 1))) (nI ((ar 1) (5 * k0 + 2))))) () _ _ hP hD hS rfl (by rw [hC9]) dX6_does_135
  by_cases k101 : (((ar 1) (5 * k0) : Nat) : Int) = 101
  · skip
    have hke : ar 1 (5 * k0) = 101 := by omega
    refine nv_lk (X := (((ar 1) (5 * k0) : Nat) : Int)) hx hb (nI_toInt (by omega)) dX6_does_30 (by decide) (by rw [k101]; first | done | decide) (tgt := 136) (by decide) ?_
    refine lv_aload_n hx hb dX6_does_136 rfl (lv_at hl 2 rfl) ?_
    refine lv_iload_n hx hb dX6_does_137 rfl (lv_at hl 1 rfl) ?_
    refine run_i (S := Unit) (run_V (As := [.int (nI ((ar 1) (5 * k0 + 1)))]) (rest := []) (bs := [moC E b z g gs ar]) (cb := [moC E b z g gs ar]) hx hb hml hown hts hK hZ hA (c_X6_passes l E _ b z g gs ar _ hI (nI ((ar 1) (5 * k0 + 1))) (by omega)) l_X6_124 rfl ⟨⟨rfl, rfl⟩, Nat.le_of_ble_eq_true rfl, Nat.le_of_ble_eq_true rfl⟩ 10 rfl [0] rfl (by decide) rfl hP hD hS hl.1 rfl (Nat.le_of_ble_eq_true rfl) dX6_does_138 ⟨Nat.zero_le _, Nat.zero_le _⟩) hA hP hD hS (isC := [0]) rfl [] [0] (br := []) (bs2 := fun _ => [moC E b (if fPass (nI ((ar 1) (5 * k0 + 1))) = 0 then upn z 7 (passN g (tn (nI ((ar 1) (5 * k0 + 1))))) else z) (if fPass (nI ((ar 1) (5 * k0 + 1))) = 0 then passG g (tn (nI ((ar 1) (5 * k0 + 1)))) else g) gs ar]) rfl (by decide) (fun _ => rfl) (by decide) (fun r u H locs hw hP hD hS => ?_)
    subst hw
    have hF9 := show doF g (ar 1 (5 * k0)) (ar 1 (5 * k0 + 1)) (ar 1 (5 * k0 + 2)) (ar 1 (5 * k0 + 3)) (ar 1 (5 * k0 + 4)) = _ from by unfold doF; rw [if_neg (show ¬ ar 1 (5 * k0) = 98 by omega), if_pos hke]
    have hC9 := show doC g (ar 1 (5 * k0)) (ar 1 (5 * k0 + 1)) (ar 1 (5 * k0 + 2)) (ar 1 (5 * k0 + 3)) (ar 1 (5 * k0 + 4)) = _ from by unfold doC; rw [if_neg (show ¬ ar 1 (5 * k0) = 98 by omega), if_pos hke]
    have hA9 := show doA g (ar 1 (5 * k0)) (ar 1 (5 * k0 + 1)) (ar 1 (5 * k0 + 2)) = _ from by unfold doA; rw [if_neg (show ¬ ar 1 (5 * k0) = 98 by omega), if_pos hke]
    have hG9 := show doG g (ar 1 (5 * k0)) (ar 1 (5 * k0 + 1)) (ar 1 (5 * k0 + 2)) (ar 1 (5 * k0 + 3)) (ar 1 (5 * k0 + 4)) = _ from by unfold doG; rw [if_neg (show ¬ ar 1 (5 * k0) = 98 by omega), if_pos hke]
    have hmE : moC E b (if fPass (nI ((ar 1) (5 * k0 + 1))) = 0 then upn z 7 (passN g (tn (nI ((ar 1) (5 * k0 + 1))))) else z) (if fPass (nI ((ar 1) (5 * k0 + 1))) = 0 then passG g (tn (nI ((ar 1) (5 * k0 + 1)))) else g) gs ar = moC E b (if doF g (ar 1 (5 * k0)) (ar 1 (5 * k0 + 1)) (ar 1 (5 * k0 + 2)) (ar 1 (5 * k0 + 3)) (ar 1 (5 * k0 + 4)) = 0 then upn z 7 (doA g (ar 1 (5 * k0)) (ar 1 (5 * k0 + 1)) (ar 1 (5 * k0 + 2))) else z) (if doF g (ar 1 (5 * k0)) (ar 1 (5 * k0 + 1)) (ar 1 (5 * k0 + 2)) (ar 1 (5 * k0 + 3)) (ar 1 (5 * k0 + 4)) = 0 then doG g (ar 1 (5 * k0)) (ar 1 (5 * k0 + 1)) (ar 1 (5 * k0 + 2)) (ar 1 (5 * k0 + 3)) (ar 1 (5 * k0 + 4)) else g) gs ar := by rw [hF9, hA9, hG9]
    rw [hmE] at hP hD; clear hmE
    exact hret _ _ (nI (fPass (nI ((ar 1) (5 * k0 + 1))) - 1)) () _ _ hP hD hS rfl (by rw [hC9]) dX6_does_141
  by_cases k106 : (((ar 1) (5 * k0) : Nat) : Int) = 106
  · skip
    have hke : ar 1 (5 * k0) = 106 := by omega
    refine nv_lk (X := (((ar 1) (5 * k0) : Nat) : Int)) hx hb (nI_toInt (by omega)) dX6_does_30 (by decide) (by rw [k106]; first | done | decide) (tgt := 88) (by decide) ?_
    refine lv_aload_n hx hb dX6_does_88 rfl (lv_at hl 2 rfl) ?_
    refine lv_iload_n hx hb dX6_does_89 rfl (lv_at hl 1 rfl) ?_
    refine lv_iload_n hx hb dX6_does_90 rfl (lv_at hl 0 rfl) ?_
    refine lv_aload_n hx hb dX6_does_91 rfl (lv_at hl 2 rfl) ?_
    refine va_get (D := E.1) (ci := 10) (v := .ref (b 7)) (C := RX6) (T := TX6) (N := 20) hx hb hts inX6 hown hK hP 0 rfl rfl 9 (by decide) (hts _ q1443) (fun _ h9 => h9) rfl dX6_does_92 ?_
    refine lv_iconst (v := nI 5) hx hb dX6_does_95 (by decide) ?_
    refine lv_iload_n hx hb dX6_does_96 rfl (lv_at hl 3 rfl) ?_
    refine nv_imul hx hb dX6_does_97 ?_
    refine lv_iconst (v := nI 3) hx hb dX6_does_98 (by decide) ?_
    refine nv_iadd hx hb dX6_does_99 ?_
    refine nv_iald (f := (ar 1)) (i := 5 * k0 + 3) (n := 300) hx hb hK hP 7 0 rfl rfl (by omega) (by decide) dX6_does_100 ?_
    refine lv_aload_n hx hb dX6_does_101 rfl (lv_at hl 2 rfl) ?_
    refine va_get (D := E.1) (ci := 10) (v := .ref (b 7)) (C := RX6) (T := TX6) (N := 20) hx hb hts inX6 hown hK hP 0 rfl rfl 9 (by decide) (hts _ q1443) (fun _ h9 => h9) rfl dX6_does_102 ?_
    refine lv_iconst (v := nI 5) hx hb dX6_does_105 (by decide) ?_
    refine lv_iload_n hx hb dX6_does_106 rfl (lv_at hl 3 rfl) ?_
    refine nv_imul hx hb dX6_does_107 ?_
    refine lv_iconst (v := nI 4) hx hb dX6_does_108 (by decide) ?_
    refine nv_iadd hx hb dX6_does_109 ?_
    refine nv_iald (f := (ar 1)) (i := 5 * k0 + 4) (n := 300) hx hb hK hP 7 0 rfl rfl (by omega) (by decide) dX6_does_110 ?_
    refine run_i (S := Unit) (run_V (As := [.int (nI ((ar 1) (5 * k0 + 1))), .int (nI ((ar 1) (5 * k0 + 2))), .int (nI ((ar 1) (5 * k0 + 3))), .int (nI ((ar 1) (5 * k0 + 4)))]) (rest := []) (bs := [moC E b z g gs ar]) (cb := [moC E b z g gs ar]) hx hb hml hown hts hK hZ hA (c_X6_joins l E _ b z g gs ar _ hI (nI ((ar 1) (5 * k0 + 1))) (nI ((ar 1) (5 * k0 + 2))) (nI ((ar 1) (5 * k0 + 3))) (nI ((ar 1) (5 * k0 + 4))) ) l_X6_108 rfl ⟨⟨rfl, rfl⟩, Nat.le_of_ble_eq_true rfl, Nat.le_of_ble_eq_true rfl⟩ 10 rfl [0] rfl (by decide) rfl hP hD hS hl.1 rfl (Nat.le_of_ble_eq_true rfl) dX6_does_111 ⟨Nat.zero_le _, Nat.zero_le _⟩) hA hP hD hS (isC := [0]) rfl [] [0] (br := []) (bs2 := fun _ => [moC E b (if fJoin g (nI ((ar 1) (5 * k0 + 1))) (nI ((ar 1) (5 * k0 + 2))) (nI ((ar 1) (5 * k0 + 3))) (nI ((ar 1) (5 * k0 + 4))) = 0 then upn z 7 (g 8 0) else z) (if fJoin g (nI ((ar 1) (5 * k0 + 1))) (nI ((ar 1) (5 * k0 + 2))) (nI ((ar 1) (5 * k0 + 3))) (nI ((ar 1) (5 * k0 + 4))) = 0 then joinG g (tn (nI ((ar 1) (5 * k0 + 1)))) (tn (nI ((ar 1) (5 * k0 + 2)))) (tn (nI ((ar 1) (5 * k0 + 3)))) (tn (nI ((ar 1) (5 * k0 + 4)))) else g) gs ar]) rfl (by decide) (fun _ => rfl) (by decide) (fun r u H locs hw hP hD hS => ?_)
    subst hw
    have hF9 := show doF g (ar 1 (5 * k0)) (ar 1 (5 * k0 + 1)) (ar 1 (5 * k0 + 2)) (ar 1 (5 * k0 + 3)) (ar 1 (5 * k0 + 4)) = _ from by unfold doF; rw [if_neg (show ¬ ar 1 (5 * k0) = 98 by omega), if_neg (show ¬ ar 1 (5 * k0) = 101 by omega), if_pos hke]
    have hC9 := show doC g (ar 1 (5 * k0)) (ar 1 (5 * k0 + 1)) (ar 1 (5 * k0 + 2)) (ar 1 (5 * k0 + 3)) (ar 1 (5 * k0 + 4)) = _ from by unfold doC; rw [if_neg (show ¬ ar 1 (5 * k0) = 98 by omega), if_neg (show ¬ ar 1 (5 * k0) = 101 by omega), if_pos hke]
    have hA9 := show doA g (ar 1 (5 * k0)) (ar 1 (5 * k0 + 1)) (ar 1 (5 * k0 + 2)) = _ from by unfold doA; rw [if_neg (show ¬ ar 1 (5 * k0) = 98 by omega), if_neg (show ¬ ar 1 (5 * k0) = 101 by omega), if_pos hke]
    have hG9 := show doG g (ar 1 (5 * k0)) (ar 1 (5 * k0 + 1)) (ar 1 (5 * k0 + 2)) (ar 1 (5 * k0 + 3)) (ar 1 (5 * k0 + 4)) = _ from by unfold doG; rw [if_neg (show ¬ ar 1 (5 * k0) = 98 by omega), if_neg (show ¬ ar 1 (5 * k0) = 101 by omega), if_pos hke]
    have hmE : moC E b (if fJoin g (nI ((ar 1) (5 * k0 + 1))) (nI ((ar 1) (5 * k0 + 2))) (nI ((ar 1) (5 * k0 + 3))) (nI ((ar 1) (5 * k0 + 4))) = 0 then upn z 7 (g 8 0) else z) (if fJoin g (nI ((ar 1) (5 * k0 + 1))) (nI ((ar 1) (5 * k0 + 2))) (nI ((ar 1) (5 * k0 + 3))) (nI ((ar 1) (5 * k0 + 4))) = 0 then joinG g (tn (nI ((ar 1) (5 * k0 + 1)))) (tn (nI ((ar 1) (5 * k0 + 2)))) (tn (nI ((ar 1) (5 * k0 + 3)))) (tn (nI ((ar 1) (5 * k0 + 4)))) else g) gs ar = moC E b (if doF g (ar 1 (5 * k0)) (ar 1 (5 * k0 + 1)) (ar 1 (5 * k0 + 2)) (ar 1 (5 * k0 + 3)) (ar 1 (5 * k0 + 4)) = 0 then upn z 7 (doA g (ar 1 (5 * k0)) (ar 1 (5 * k0 + 1)) (ar 1 (5 * k0 + 2))) else z) (if doF g (ar 1 (5 * k0)) (ar 1 (5 * k0 + 1)) (ar 1 (5 * k0 + 2)) (ar 1 (5 * k0 + 3)) (ar 1 (5 * k0 + 4)) = 0 then doG g (ar 1 (5 * k0)) (ar 1 (5 * k0 + 1)) (ar 1 (5 * k0 + 2)) (ar 1 (5 * k0 + 3)) (ar 1 (5 * k0 + 4)) else g) gs ar := by rw [hF9, hA9, hG9]
    rw [hmE] at hP hD; clear hmE
    exact hret _ _ (nI (fJoin g (nI ((ar 1) (5 * k0 + 1))) (nI ((ar 1) (5 * k0 + 2))) (nI ((ar 1) (5 * k0 + 3))) (nI ((ar 1) (5 * k0 + 4))) - 1)) () _ _ hP hD hS rfl (by rw [hC9]) dX6_does_114
  by_cases k113 : (((ar 1) (5 * k0) : Nat) : Int) = 113
  · skip
    have hke : ar 1 (5 * k0) = 113 := by omega
    refine nv_lk (X := (((ar 1) (5 * k0) : Nat) : Int)) hx hb (nI_toInt (by omega)) dX6_does_30 (by decide) (by rw [k113]; first | done | decide) (tgt := 142) (by decide) ?_
    refine lv_aload_n hx hb dX6_does_142 rfl (lv_at hl 2 rfl) ?_
    refine run_i (S := Unit) (run_V (As := []) (rest := []) (bs := [moC E b z g gs ar]) (cb := [moC E b z g gs ar]) hx hb hml hown hts hK hZ hA (c_X6_pays l E _ b z g gs ar _ hI  ) l_X6_127 rfl ⟨⟨rfl, rfl⟩, Nat.le_of_ble_eq_true rfl, Nat.le_of_ble_eq_true rfl⟩ 10 rfl [0] rfl (by decide) rfl hP hD hS hl.1 rfl (Nat.le_of_ble_eq_true rfl) dX6_does_143 ⟨Nat.zero_le _, Nat.zero_le _⟩) hA hP hD hS (isC := [0]) rfl [] [0] (br := []) (bs2 := fun _ => [moC E b (if fPay g = 0 then upn z 7 (g 8 2) else z) (if fPay g = 0 then payG g else g) gs ar]) rfl (by decide) (fun _ => rfl) (by decide) (fun r u H locs hw hP hD hS => ?_)
    subst hw
    have hF9 := show doF g (ar 1 (5 * k0)) (ar 1 (5 * k0 + 1)) (ar 1 (5 * k0 + 2)) (ar 1 (5 * k0 + 3)) (ar 1 (5 * k0 + 4)) = _ from by unfold doF; rw [if_neg (show ¬ ar 1 (5 * k0) = 98 by omega), if_neg (show ¬ ar 1 (5 * k0) = 101 by omega), if_neg (show ¬ ar 1 (5 * k0) = 106 by omega), if_pos hke]
    have hC9 := show doC g (ar 1 (5 * k0)) (ar 1 (5 * k0 + 1)) (ar 1 (5 * k0 + 2)) (ar 1 (5 * k0 + 3)) (ar 1 (5 * k0 + 4)) = _ from by unfold doC; rw [if_neg (show ¬ ar 1 (5 * k0) = 98 by omega), if_neg (show ¬ ar 1 (5 * k0) = 101 by omega), if_neg (show ¬ ar 1 (5 * k0) = 106 by omega), if_pos hke]
    have hA9 := show doA g (ar 1 (5 * k0)) (ar 1 (5 * k0 + 1)) (ar 1 (5 * k0 + 2)) = _ from by unfold doA; rw [if_neg (show ¬ ar 1 (5 * k0) = 98 by omega), if_neg (show ¬ ar 1 (5 * k0) = 101 by omega), if_neg (show ¬ ar 1 (5 * k0) = 106 by omega), if_pos hke]
    have hG9 := show doG g (ar 1 (5 * k0)) (ar 1 (5 * k0 + 1)) (ar 1 (5 * k0 + 2)) (ar 1 (5 * k0 + 3)) (ar 1 (5 * k0 + 4)) = _ from by unfold doG; rw [if_neg (show ¬ ar 1 (5 * k0) = 98 by omega), if_neg (show ¬ ar 1 (5 * k0) = 101 by omega), if_neg (show ¬ ar 1 (5 * k0) = 106 by omega), if_pos hke]
    have hmE : moC E b (if fPay g = 0 then upn z 7 (g 8 2) else z) (if fPay g = 0 then payG g else g) gs ar = moC E b (if doF g (ar 1 (5 * k0)) (ar 1 (5 * k0 + 1)) (ar 1 (5 * k0 + 2)) (ar 1 (5 * k0 + 3)) (ar 1 (5 * k0 + 4)) = 0 then upn z 7 (doA g (ar 1 (5 * k0)) (ar 1 (5 * k0 + 1)) (ar 1 (5 * k0 + 2))) else z) (if doF g (ar 1 (5 * k0)) (ar 1 (5 * k0 + 1)) (ar 1 (5 * k0 + 2)) (ar 1 (5 * k0 + 3)) (ar 1 (5 * k0 + 4)) = 0 then doG g (ar 1 (5 * k0)) (ar 1 (5 * k0 + 1)) (ar 1 (5 * k0 + 2)) (ar 1 (5 * k0 + 3)) (ar 1 (5 * k0 + 4)) else g) gs ar := by rw [hF9, hA9, hG9]
    rw [hmE] at hP hD; clear hmE
    exact hret _ _ (nI (fPay g - 2)) () _ _ hP hD hS rfl (by rw [hC9]) dX6_does_146
  by_cases k116 : (((ar 1) (5 * k0) : Nat) : Int) = 116
  · skip
    have hke : ar 1 (5 * k0) = 116 := by omega
    refine nv_lk (X := (((ar 1) (5 * k0) : Nat) : Int)) hx hb (nI_toInt (by omega)) dX6_does_30 (by decide) (by rw [k116]; first | done | decide) (tgt := 122) (by decide) ?_
    refine lv_aload_n hx hb dX6_does_122 rfl (lv_at hl 2 rfl) ?_
    refine lv_iload_n hx hb dX6_does_123 rfl (lv_at hl 1 rfl) ?_
    refine lv_iload_n hx hb dX6_does_124 rfl (lv_at hl 0 rfl) ?_
    refine run_i (S := Unit) (run_V (As := [.int (nI ((ar 1) (5 * k0 + 1))), .int (nI ((ar 1) (5 * k0 + 2)))]) (rest := []) (bs := [moC E b z g gs ar]) (cb := [moC E b z g gs ar]) hx hb hml hown hts hK hZ hA (c_X6_tunes l E _ b z g gs ar _ hI (nI ((ar 1) (5 * k0 + 1))) (nI ((ar 1) (5 * k0 + 2))) ) l_X6_118 rfl ⟨⟨rfl, rfl⟩, Nat.le_of_ble_eq_true rfl, Nat.le_of_ble_eq_true rfl⟩ 10 rfl [0] rfl (by decide) rfl hP hD hS hl.1 rfl (Nat.le_of_ble_eq_true rfl) dX6_does_125 ⟨Nat.zero_le _, Nat.zero_le _⟩) hA hP hD hS (isC := [0]) rfl [] [0] (br := []) (bs2 := fun _ => [moC E b (if fTune g (nI ((ar 1) (5 * k0 + 1))) (nI ((ar 1) (5 * k0 + 2))) = 0 then upn z 7 (g 3 (tn (nI ((ar 1) (5 * k0 + 1))))) else z) (if fTune g (nI ((ar 1) (5 * k0 + 1))) (nI ((ar 1) (5 * k0 + 2))) = 0 then up2 g 3 (tn (nI ((ar 1) (5 * k0 + 1)))) (tn (nI ((ar 1) (5 * k0 + 2)))) else g) gs ar]) rfl (by decide) (fun _ => rfl) (by decide) (fun r u H locs hw hP hD hS => ?_)
    subst hw
    have hF9 := show doF g (ar 1 (5 * k0)) (ar 1 (5 * k0 + 1)) (ar 1 (5 * k0 + 2)) (ar 1 (5 * k0 + 3)) (ar 1 (5 * k0 + 4)) = _ from by unfold doF; rw [if_neg (show ¬ ar 1 (5 * k0) = 98 by omega), if_neg (show ¬ ar 1 (5 * k0) = 101 by omega), if_neg (show ¬ ar 1 (5 * k0) = 106 by omega), if_neg (show ¬ ar 1 (5 * k0) = 113 by omega), if_pos hke]
    have hC9 := show doC g (ar 1 (5 * k0)) (ar 1 (5 * k0 + 1)) (ar 1 (5 * k0 + 2)) (ar 1 (5 * k0 + 3)) (ar 1 (5 * k0 + 4)) = _ from by unfold doC; rw [if_neg (show ¬ ar 1 (5 * k0) = 98 by omega), if_neg (show ¬ ar 1 (5 * k0) = 101 by omega), if_neg (show ¬ ar 1 (5 * k0) = 106 by omega), if_neg (show ¬ ar 1 (5 * k0) = 113 by omega), if_pos hke]
    have hA9 := show doA g (ar 1 (5 * k0)) (ar 1 (5 * k0 + 1)) (ar 1 (5 * k0 + 2)) = _ from by unfold doA; rw [if_neg (show ¬ ar 1 (5 * k0) = 98 by omega), if_neg (show ¬ ar 1 (5 * k0) = 101 by omega), if_neg (show ¬ ar 1 (5 * k0) = 106 by omega), if_neg (show ¬ ar 1 (5 * k0) = 113 by omega), if_pos hke]
    have hG9 := show doG g (ar 1 (5 * k0)) (ar 1 (5 * k0 + 1)) (ar 1 (5 * k0 + 2)) (ar 1 (5 * k0 + 3)) (ar 1 (5 * k0 + 4)) = _ from by unfold doG; rw [if_neg (show ¬ ar 1 (5 * k0) = 98 by omega), if_neg (show ¬ ar 1 (5 * k0) = 101 by omega), if_neg (show ¬ ar 1 (5 * k0) = 106 by omega), if_neg (show ¬ ar 1 (5 * k0) = 113 by omega), if_pos hke]
    have hmE : moC E b (if fTune g (nI ((ar 1) (5 * k0 + 1))) (nI ((ar 1) (5 * k0 + 2))) = 0 then upn z 7 (g 3 (tn (nI ((ar 1) (5 * k0 + 1))))) else z) (if fTune g (nI ((ar 1) (5 * k0 + 1))) (nI ((ar 1) (5 * k0 + 2))) = 0 then up2 g 3 (tn (nI ((ar 1) (5 * k0 + 1)))) (tn (nI ((ar 1) (5 * k0 + 2)))) else g) gs ar = moC E b (if doF g (ar 1 (5 * k0)) (ar 1 (5 * k0 + 1)) (ar 1 (5 * k0 + 2)) (ar 1 (5 * k0 + 3)) (ar 1 (5 * k0 + 4)) = 0 then upn z 7 (doA g (ar 1 (5 * k0)) (ar 1 (5 * k0 + 1)) (ar 1 (5 * k0 + 2))) else z) (if doF g (ar 1 (5 * k0)) (ar 1 (5 * k0 + 1)) (ar 1 (5 * k0 + 2)) (ar 1 (5 * k0 + 3)) (ar 1 (5 * k0 + 4)) = 0 then doG g (ar 1 (5 * k0)) (ar 1 (5 * k0 + 1)) (ar 1 (5 * k0 + 2)) (ar 1 (5 * k0 + 3)) (ar 1 (5 * k0 + 4)) else g) gs ar := by rw [hF9, hA9, hG9]
    rw [hmE] at hP hD; clear hmE
    exact hret _ _ (nI (fTune g (nI ((ar 1) (5 * k0 + 1))) (nI ((ar 1) (5 * k0 + 2))))) () _ _ hP hD hS rfl (by rw [hC9]) dX6_does_128
  by_cases k119 : (((ar 1) (5 * k0) : Nat) : Int) = 119
  · skip
    have hke : ar 1 (5 * k0) = 119 := by omega
    refine nv_lk (X := (((ar 1) (5 * k0) : Nat) : Int)) hx hb (nI_toInt (by omega)) dX6_does_30 (by decide) (by rw [k119]; first | done | decide) (tgt := 115) (by decide) ?_
    refine lv_aload_n hx hb dX6_does_115 rfl (lv_at hl 2 rfl) ?_
    refine lv_iload_n hx hb dX6_does_116 rfl (lv_at hl 1 rfl) ?_
    refine lv_iload_n hx hb dX6_does_117 rfl (lv_at hl 0 rfl) ?_
    refine run_i (S := Unit) (run_V (As := [.int (nI ((ar 1) (5 * k0 + 1))), .int (nI ((ar 1) (5 * k0 + 2)))]) (rest := []) (bs := [moC E b z g gs ar]) (cb := [moC E b z g gs ar]) hx hb hml hown hts hK hZ hA (c_X6_winds l E _ b z g gs ar _ hI (nI ((ar 1) (5 * k0 + 1))) (nI ((ar 1) (5 * k0 + 2))) ) l_X6_115 rfl ⟨⟨rfl, rfl⟩, Nat.le_of_ble_eq_true rfl, Nat.le_of_ble_eq_true rfl⟩ 10 rfl [0] rfl (by decide) rfl hP hD hS hl.1 rfl (Nat.le_of_ble_eq_true rfl) dX6_does_118 ⟨Nat.zero_le _, Nat.zero_le _⟩) hA hP hD hS (isC := [0]) rfl [] [0] (br := []) (bs2 := fun _ => [moC E b (if fWind g (nI ((ar 1) (5 * k0 + 1))) (nI ((ar 1) (5 * k0 + 2))) = 0 then upn z 7 (g 4 (tn (nI ((ar 1) (5 * k0 + 1)))) + tn (nI ((ar 1) (5 * k0 + 2)))) else z) (if fWind g (nI ((ar 1) (5 * k0 + 1))) (nI ((ar 1) (5 * k0 + 2))) = 0 then windG g (tn (nI ((ar 1) (5 * k0 + 1)))) (tn (nI ((ar 1) (5 * k0 + 2)))) else g) gs ar]) rfl (by decide) (fun _ => rfl) (by decide) (fun r u H locs hw hP hD hS => ?_)
    subst hw
    have hF9 := show doF g (ar 1 (5 * k0)) (ar 1 (5 * k0 + 1)) (ar 1 (5 * k0 + 2)) (ar 1 (5 * k0 + 3)) (ar 1 (5 * k0 + 4)) = _ from by unfold doF; rw [if_neg (show ¬ ar 1 (5 * k0) = 98 by omega), if_neg (show ¬ ar 1 (5 * k0) = 101 by omega), if_neg (show ¬ ar 1 (5 * k0) = 106 by omega), if_neg (show ¬ ar 1 (5 * k0) = 113 by omega), if_neg (show ¬ ar 1 (5 * k0) = 116 by omega), if_pos hke]
    have hC9 := show doC g (ar 1 (5 * k0)) (ar 1 (5 * k0 + 1)) (ar 1 (5 * k0 + 2)) (ar 1 (5 * k0 + 3)) (ar 1 (5 * k0 + 4)) = _ from by unfold doC; rw [if_neg (show ¬ ar 1 (5 * k0) = 98 by omega), if_neg (show ¬ ar 1 (5 * k0) = 101 by omega), if_neg (show ¬ ar 1 (5 * k0) = 106 by omega), if_neg (show ¬ ar 1 (5 * k0) = 113 by omega), if_neg (show ¬ ar 1 (5 * k0) = 116 by omega), if_pos hke]
    have hA9 := show doA g (ar 1 (5 * k0)) (ar 1 (5 * k0 + 1)) (ar 1 (5 * k0 + 2)) = _ from by unfold doA; rw [if_neg (show ¬ ar 1 (5 * k0) = 98 by omega), if_neg (show ¬ ar 1 (5 * k0) = 101 by omega), if_neg (show ¬ ar 1 (5 * k0) = 106 by omega), if_neg (show ¬ ar 1 (5 * k0) = 113 by omega), if_neg (show ¬ ar 1 (5 * k0) = 116 by omega), if_pos hke]
    have hG9 := show doG g (ar 1 (5 * k0)) (ar 1 (5 * k0 + 1)) (ar 1 (5 * k0 + 2)) (ar 1 (5 * k0 + 3)) (ar 1 (5 * k0 + 4)) = _ from by unfold doG; rw [if_neg (show ¬ ar 1 (5 * k0) = 98 by omega), if_neg (show ¬ ar 1 (5 * k0) = 101 by omega), if_neg (show ¬ ar 1 (5 * k0) = 106 by omega), if_neg (show ¬ ar 1 (5 * k0) = 113 by omega), if_neg (show ¬ ar 1 (5 * k0) = 116 by omega), if_pos hke]
    have hmE : moC E b (if fWind g (nI ((ar 1) (5 * k0 + 1))) (nI ((ar 1) (5 * k0 + 2))) = 0 then upn z 7 (g 4 (tn (nI ((ar 1) (5 * k0 + 1)))) + tn (nI ((ar 1) (5 * k0 + 2)))) else z) (if fWind g (nI ((ar 1) (5 * k0 + 1))) (nI ((ar 1) (5 * k0 + 2))) = 0 then windG g (tn (nI ((ar 1) (5 * k0 + 1)))) (tn (nI ((ar 1) (5 * k0 + 2)))) else g) gs ar = moC E b (if doF g (ar 1 (5 * k0)) (ar 1 (5 * k0 + 1)) (ar 1 (5 * k0 + 2)) (ar 1 (5 * k0 + 3)) (ar 1 (5 * k0 + 4)) = 0 then upn z 7 (doA g (ar 1 (5 * k0)) (ar 1 (5 * k0 + 1)) (ar 1 (5 * k0 + 2))) else z) (if doF g (ar 1 (5 * k0)) (ar 1 (5 * k0 + 1)) (ar 1 (5 * k0 + 2)) (ar 1 (5 * k0 + 3)) (ar 1 (5 * k0 + 4)) = 0 then doG g (ar 1 (5 * k0)) (ar 1 (5 * k0 + 1)) (ar 1 (5 * k0 + 2)) (ar 1 (5 * k0 + 3)) (ar 1 (5 * k0 + 4)) else g) gs ar := by rw [hF9, hA9, hG9]
    rw [hmE] at hP hD; clear hmE
    exact hret _ _ (nI (fWind g (nI ((ar 1) (5 * k0 + 1))) (nI ((ar 1) (5 * k0 + 2))))) () _ _ hP hD hS rfl (by rw [hC9]) dX6_does_121
  refine nv_lk (X := (((ar 1) (5 * k0) : Nat) : Int)) hx hb (nI_toInt (by omega)) dX6_does_30 (by decide) (show Op.lookupswitch.offset [((98 : Int), (99 : Int)), ((101 : Int), (106 : Int)), ((106 : Int), (58 : Int)), ((113 : Int), (112 : Int)), ((116 : Int), (92 : Int)), ((119 : Int), (85 : Int))] 117 _ = 117 from by rw [osw9 k98, osw9 k101, osw9 k106, osw9 k113, osw9 k116, osw9 k119]; rfl) (tgt := 147) (by decide) ?_
  refine lv_aload_n hx hb dX6_does_147 rfl (lv_at hl 2 rfl) ?_
  refine lv_iload_n hx hb dX6_does_148 rfl (lv_at hl 1 rfl) ?_
  refine lv_iload_n hx hb dX6_does_149 rfl (lv_at hl 0 rfl) ?_
  refine run_i (S := Unit) (run_V (As := [.int (nI ((ar 1) (5 * k0 + 1))), .int (nI ((ar 1) (5 * k0 + 2)))]) (rest := []) (bs := [moC E b z g gs ar]) (cb := [moC E b z g gs ar]) hx hb hml hown hts hK hZ hA (c_X6_votes l E _ b z g gs ar _ hI (nI ((ar 1) (5 * k0 + 1))) (nI ((ar 1) (5 * k0 + 2))) ) l_X6_130 rfl ⟨⟨rfl, rfl⟩, Nat.le_of_ble_eq_true rfl, Nat.le_of_ble_eq_true rfl⟩ 10 rfl [0] rfl (by decide) rfl hP hD hS hl.1 rfl (Nat.le_of_ble_eq_true rfl) dX6_does_150 ⟨Nat.zero_le _, Nat.zero_le _⟩) hA hP hD hS (isC := [0]) rfl [] [0] (br := []) (bs2 := fun _ => [moC E b (if fMot (nI ((ar 1) (5 * k0 + 1))) (nI ((ar 1) (5 * k0 + 2))) = 0 then upn z 7 (aVot g (tn (nI ((ar 1) (5 * k0 + 1)))) (tn (nI ((ar 1) (5 * k0 + 2))))) else z) (if fMot (nI ((ar 1) (5 * k0 + 1))) (nI ((ar 1) (5 * k0 + 2))) = 0 then voteG g (tn (nI ((ar 1) (5 * k0 + 1)))) (tn (nI ((ar 1) (5 * k0 + 2)))) else g) gs ar]) rfl (by decide) (fun _ => rfl) (by decide) (fun r u H locs hw hP hD hS => ?_)
  subst hw
  have hF9 := show doF g (ar 1 (5 * k0)) (ar 1 (5 * k0 + 1)) (ar 1 (5 * k0 + 2)) (ar 1 (5 * k0 + 3)) (ar 1 (5 * k0 + 4)) = _ from by unfold doF; rw [if_neg (show ¬ ar 1 (5 * k0) = 98 by omega), if_neg (show ¬ ar 1 (5 * k0) = 101 by omega), if_neg (show ¬ ar 1 (5 * k0) = 106 by omega), if_neg (show ¬ ar 1 (5 * k0) = 113 by omega), if_neg (show ¬ ar 1 (5 * k0) = 116 by omega), if_neg (show ¬ ar 1 (5 * k0) = 119 by omega)]
  have hC9 := show doC g (ar 1 (5 * k0)) (ar 1 (5 * k0 + 1)) (ar 1 (5 * k0 + 2)) (ar 1 (5 * k0 + 3)) (ar 1 (5 * k0 + 4)) = _ from by unfold doC; rw [if_neg (show ¬ ar 1 (5 * k0) = 98 by omega), if_neg (show ¬ ar 1 (5 * k0) = 101 by omega), if_neg (show ¬ ar 1 (5 * k0) = 106 by omega), if_neg (show ¬ ar 1 (5 * k0) = 113 by omega), if_neg (show ¬ ar 1 (5 * k0) = 116 by omega), if_neg (show ¬ ar 1 (5 * k0) = 119 by omega)]
  have hA9 := show doA g (ar 1 (5 * k0)) (ar 1 (5 * k0 + 1)) (ar 1 (5 * k0 + 2)) = _ from by unfold doA; rw [if_neg (show ¬ ar 1 (5 * k0) = 98 by omega), if_neg (show ¬ ar 1 (5 * k0) = 101 by omega), if_neg (show ¬ ar 1 (5 * k0) = 106 by omega), if_neg (show ¬ ar 1 (5 * k0) = 113 by omega), if_neg (show ¬ ar 1 (5 * k0) = 116 by omega), if_neg (show ¬ ar 1 (5 * k0) = 119 by omega)]
  have hG9 := show doG g (ar 1 (5 * k0)) (ar 1 (5 * k0 + 1)) (ar 1 (5 * k0 + 2)) (ar 1 (5 * k0 + 3)) (ar 1 (5 * k0 + 4)) = _ from by unfold doG; rw [if_neg (show ¬ ar 1 (5 * k0) = 98 by omega), if_neg (show ¬ ar 1 (5 * k0) = 101 by omega), if_neg (show ¬ ar 1 (5 * k0) = 106 by omega), if_neg (show ¬ ar 1 (5 * k0) = 113 by omega), if_neg (show ¬ ar 1 (5 * k0) = 116 by omega), if_neg (show ¬ ar 1 (5 * k0) = 119 by omega)]
  have hmE : moC E b (if fMot (nI ((ar 1) (5 * k0 + 1))) (nI ((ar 1) (5 * k0 + 2))) = 0 then upn z 7 (aVot g (tn (nI ((ar 1) (5 * k0 + 1)))) (tn (nI ((ar 1) (5 * k0 + 2))))) else z) (if fMot (nI ((ar 1) (5 * k0 + 1))) (nI ((ar 1) (5 * k0 + 2))) = 0 then voteG g (tn (nI ((ar 1) (5 * k0 + 1)))) (tn (nI ((ar 1) (5 * k0 + 2)))) else g) gs ar = moC E b (if doF g (ar 1 (5 * k0)) (ar 1 (5 * k0 + 1)) (ar 1 (5 * k0 + 2)) (ar 1 (5 * k0 + 3)) (ar 1 (5 * k0 + 4)) = 0 then upn z 7 (doA g (ar 1 (5 * k0)) (ar 1 (5 * k0 + 1)) (ar 1 (5 * k0 + 2))) else z) (if doF g (ar 1 (5 * k0)) (ar 1 (5 * k0 + 1)) (ar 1 (5 * k0 + 2)) (ar 1 (5 * k0 + 3)) (ar 1 (5 * k0 + 4)) = 0 then doG g (ar 1 (5 * k0)) (ar 1 (5 * k0 + 1)) (ar 1 (5 * k0 + 2)) (ar 1 (5 * k0 + 3)) (ar 1 (5 * k0 + 4)) else g) gs ar := by rw [hF9, hA9, hG9]
  rw [hmE] at hP hD; clear hmE
  exact hret _ _ (nI (fMot (nI ((ar 1) (5 * k0 + 1))) (nI ((ar 1) (5 * k0 + 2))) - 1)) () _ _ hP hD hS rfl (by rw [hC9]) dX6_does_153
