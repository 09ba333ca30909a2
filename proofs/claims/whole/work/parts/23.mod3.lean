abbrev rm_X6_joins : Room := { frames := 1, cells := 0, slots := 0, locals := 23 }
set_option maxHeartbeats 4000000 in
set_option maxRecDepth 100000 in
theorem c_X6_joins (l : Launch) (E : EE) (sz : Nat) (b : Nat → Nat) (z : Nat → Nat) (g : GG) (gs : Nat → GG) (ar : GG) (B : Nat) (hI : IB B g) (p0 p1 p2 p3 : Int32)  : MI l yX6_joins cX6_joins 6 .int rm_X6_joins [.ref (b 0), .int p0, .int p1, .int p2, .int p3] E sz [moC E b z g gs ar] (fun (r : Int32) (_ : Unit) => r = nI (fJoin g p0 p1 p2 p3 - 1)) (fun _ => [moC E b (if fJoin g p0 p1 p2 p3 = 0 then upn z 7 (g 8 0) else z) (if fJoin g p0 p1 p2 p3 = 0 then joinG g (tn p0) (tn p1) (tn p2) (tn p3) else g) gs ar]) 0 0 := by
  refine mi_go (by decide) (Nat.le_of_ble_eq_true rfl) ?_
  intro p e s m below meth c A Q ls hx hb hml hown hts hK hZ hA hsz hP hD hl hret
  have hS : va_S A s.heap s.heap [] := va_S.rf
  have hl : lv_has ls 6 [(0, .ref (b 0)), (1, .int p0), (2, .int p1), (3, .int p2), (4, .int p3)] := hl
  skip
  have hmc := hI.mc
  have hbu := hI.bud
  refine lv_iload_n hx hb dX6_joins_0 rfl (lv_at hl 1 rfl) ?_
  refine lv_iconst (v := nI 1) hx hb dX6_joins_1 (by decide) ?_
  refine lv_bipush (v := nI 50) hx hb dX6_joins_2 (by decide) ?_
  refine run_i (S := Unit) (run_S (As := [.int p0, .int (nI 1), .int (nI 50)]) (rest := []) (bs := [moC E b z g gs ar]) (cb := []) hx hb hml hown hts hK hZ hA (c_X6_in l E _ p0 (nI 1) (nI 50) p0.toInt ((1 : Nat) : Int) ((50 : Nat) : Int) rfl (nI_toInt (by omega)) (nI_toInt (by omega))) l_X6_57 rfl ⟨⟨rfl, rfl⟩, Nat.le_of_ble_eq_true rfl, Nat.le_of_ble_eq_true rfl⟩ [] rfl (by decide) hP hD hS hl.1 rfl (Nat.le_of_ble_eq_true rfl) dX6_joins_4 ⟨Nat.zero_le _, Nat.zero_le _⟩) hA hP hD hS (isC := []) rfl [0] [0] (br := [moC E b z g gs ar]) (bs2 := fun _ => [moC E b z g gs ar]) rfl (by decide) (fun _ => rfl) (by decide) (fun r u H locs hw hP hD hS => ?_)
  subst hw
  refine bv_if_eq hx hb (tgt := 42) dX6_joins_7 (by decide) (fun c_1 => ?_) (fun c_1 => ?_)
  · skip
    have c_1 := of_decide_eq_false c_1
    refine lv_iconst (v := nI 1) hx hb dX6_joins_42 (by decide) ?_
    have hf : fJoin g p0 p1 p2 p3 = 2 := (by simp only [fJoin]; (repeat' split) <;> first | rfl | (exfalso; omega))
    have hmE : moC E b z g gs ar = moC E b (if fJoin g p0 p1 p2 p3 = 0 then upn z 7 (g 8 0) else z) (if fJoin g p0 p1 p2 p3 = 0 then joinG g (tn p0) (tn p1) (tn p2) (tn p3) else g) gs ar := by rw [if_neg (by omega), if_neg (by omega)]
    rw [hmE] at hP hD; clear hmE
    exact hret _ _ (nI 1) () _ _ hP hD hS rfl (by rw [hf]) dX6_joins_43
  · skip
    have c_1 := of_decide_eq_true c_1
    refine lv_iload_n hx hb dX6_joins_10 rfl (lv_at hl 2 rfl) ?_
    refine lv_iconst (v := nI 2) hx hb dX6_joins_11 (by decide) ?_
    refine lv_bipush (v := nI 12) hx hb dX6_joins_12 (by decide) ?_
    refine run_i (S := Unit) (run_S (As := [.int p1, .int (nI 2), .int (nI 12)]) (rest := []) (bs := [moC E b z g gs ar]) (cb := []) hx hb hml hown hts hK hZ hA (c_X6_in l E _ p1 (nI 2) (nI 12) p1.toInt ((2 : Nat) : Int) ((12 : Nat) : Int) rfl (nI_toInt (by omega)) (nI_toInt (by omega))) l_X6_57 rfl ⟨⟨rfl, rfl⟩, Nat.le_of_ble_eq_true rfl, Nat.le_of_ble_eq_true rfl⟩ [] rfl (by decide) hP hD hS hl.1 rfl (Nat.le_of_ble_eq_true rfl) dX6_joins_14 ⟨Nat.zero_le _, Nat.zero_le _⟩) hA hP hD hS (isC := []) rfl [0] [0] (br := [moC E b z g gs ar]) (bs2 := fun _ => [moC E b z g gs ar]) rfl (by decide) (fun _ => rfl) (by decide) (fun r u H locs hw hP hD hS => ?_)
    subst hw
    refine bv_if_eq hx hb (tgt := 42) dX6_joins_17 (by decide) (fun c_2 => ?_) (fun c_2 => ?_)
    · skip
      have c_2 := of_decide_eq_false c_2
      refine lv_iconst (v := nI 1) hx hb dX6_joins_42 (by decide) ?_
      have hf : fJoin g p0 p1 p2 p3 = 2 := (by simp only [fJoin]; (repeat' split) <;> first | rfl | (exfalso; omega))
      have hmE : moC E b z g gs ar = moC E b (if fJoin g p0 p1 p2 p3 = 0 then upn z 7 (g 8 0) else z) (if fJoin g p0 p1 p2 p3 = 0 then joinG g (tn p0) (tn p1) (tn p2) (tn p3) else g) gs ar := by rw [if_neg (by omega), if_neg (by omega)]
      rw [hmE] at hP hD; clear hmE
      exact hret _ _ (nI 1) () _ _ hP hD hS rfl (by rw [hf]) dX6_joins_43
    · skip
      have c_2 := of_decide_eq_true c_2
      refine lv_iload_n hx hb dX6_joins_20 rfl (lv_at hl 3 rfl) ?_
      refine lv_iconst (v := nI 0) hx hb dX6_joins_21 (by decide) ?_
      refine lv_iload_n hx hb dX6_joins_22 rfl (lv_at hl 2 rfl) ?_
      refine lv_iconst (v := nI 1) hx hb dX6_joins_23 (by decide) ?_
      refine lv_isub hx hb dX6_joins_24 ?_
      refine run_i (S := Unit) (run_S (As := [.int p2, .int (nI 0), .int (p1 - nI 1)]) (rest := []) (bs := [moC E b z g gs ar]) (cb := []) hx hb hml hown hts hK hZ hA (c_X6_in l E _ p2 (nI 0) (p1 - nI 1) p2.toInt ((0 : Nat) : Int) (p1.toInt - 1) rfl (nI_toInt (by omega)) (isub_t rfl (nI_toInt (by omega)) (by omega) (by omega))) l_X6_57 rfl ⟨⟨rfl, rfl⟩, Nat.le_of_ble_eq_true rfl, Nat.le_of_ble_eq_true rfl⟩ [] rfl (by decide) hP hD hS hl.1 rfl (Nat.le_of_ble_eq_true rfl) dX6_joins_25 ⟨Nat.zero_le _, Nat.zero_le _⟩) hA hP hD hS (isC := []) rfl [0] [0] (br := [moC E b z g gs ar]) (bs2 := fun _ => [moC E b z g gs ar]) rfl (by decide) (fun _ => rfl) (by decide) (fun r u H locs hw hP hD hS => ?_)
      subst hw
      refine bv_if_eq hx hb (tgt := 42) dX6_joins_28 (by decide) (fun c_3 => ?_) (fun c_3 => ?_)
      · skip
        have c_3 := of_decide_eq_false c_3
        refine lv_iconst (v := nI 1) hx hb dX6_joins_42 (by decide) ?_
        have hf : fJoin g p0 p1 p2 p3 = 2 := (by simp only [fJoin]; (repeat' split) <;> first | rfl | (exfalso; omega))
        have hmE : moC E b z g gs ar = moC E b (if fJoin g p0 p1 p2 p3 = 0 then upn z 7 (g 8 0) else z) (if fJoin g p0 p1 p2 p3 = 0 then joinG g (tn p0) (tn p1) (tn p2) (tn p3) else g) gs ar := by rw [if_neg (by omega), if_neg (by omega)]
        rw [hmE] at hP hD; clear hmE
        exact hret _ _ (nI 1) () _ _ hP hD hS rfl (by rw [hf]) dX6_joins_43
      · skip
        have c_3 := of_decide_eq_true c_3
        refine lv_iload hx hb dX6_joins_31 (lv_at hl 4 rfl) ?_
        refine lv_iconst (v := nI 0) hx hb dX6_joins_33 (by decide) ?_
        refine lv_bipush (v := nI 11) hx hb dX6_joins_34 (by decide) ?_
        refine run_i (S := Unit) (run_S (As := [.int p3, .int (nI 0), .int (nI 11)]) (rest := []) (bs := [moC E b z g gs ar]) (cb := []) hx hb hml hown hts hK hZ hA (c_X6_in l E _ p3 (nI 0) (nI 11) p3.toInt ((0 : Nat) : Int) ((11 : Nat) : Int) rfl (nI_toInt (by omega)) (nI_toInt (by omega))) l_X6_57 rfl ⟨⟨rfl, rfl⟩, Nat.le_of_ble_eq_true rfl, Nat.le_of_ble_eq_true rfl⟩ [] rfl (by decide) hP hD hS hl.1 rfl (Nat.le_of_ble_eq_true rfl) dX6_joins_36 ⟨Nat.zero_le _, Nat.zero_le _⟩) hA hP hD hS (isC := []) rfl [0] [0] (br := [moC E b z g gs ar]) (bs2 := fun _ => [moC E b z g gs ar]) rfl (by decide) (fun _ => rfl) (by decide) (fun r u H locs hw hP hD hS => ?_)
        subst hw
        refine bv_if_ne hx hb (tgt := 44) dX6_joins_39 (by decide) (fun c_4 => ?_) (fun c_4 => ?_)
        · skip
          have c_4 := of_decide_eq_true c_4
          obtain ⟨q0, hq0, rfl, eq0⟩ := raw_n (x := p0) (by omega)
          obtain ⟨q1, hq1, rfl, eq1⟩ := raw_n (x := p1) (by omega)
          obtain ⟨q2, hq2, rfl, eq2⟩ := raw_n (x := p2) (by omega)
          obtain ⟨q3, hq3, rfl, eq3⟩ := raw_n (x := p3) (by omega)
          refine lv_aload_n hx hb dX6_joins_44 rfl (lv_at hl 0 rfl) ?_
          refine va_get (D := E.1) (ci := 10) (v := .ref (b 1)) (C := RX6) (T := TX6) (N := 20) hx hb hts inX6 hown hK hP 0 rfl rfl 1 (by decide) (hts _ q1435) (fun _ h9 => h9) rfl dX6_joins_45 ?_
          refine lv_iconst (v := nI 0) hx hb dX6_joins_48 (by decide) ?_
          refine nv_iald (f := (flat g)) (i := 0) (n := 74) hx hb hK hP 1 0 rfl rfl (by omega) (by decide) dX6_joins_49 ?_
          refine tp_i (show nI ((flat g) 0) = nI (g 8 0) from rfl) ?_
          refine lv_istore (lv' := [(5, .int (nI (g 8 0))), (0, .ref (b 0)), (1, .int (nI q0)), (2, .int (nI q1)), (3, .int (nI q2)), (4, .int (nI q3))]) hx hb dX6_joins_50 hl (by decide) rfl (fun ls hl => ?_)
          refine lv_iload hx hb dX6_joins_52 (lv_at hl 0 rfl) ?_
          refine lv_bipush (v := nI 8) hx hb dX6_joins_54 (by decide) ?_
          refine nv_icmp_ne (X := ((g 8 0 : Nat) : Int)) (Y := ((8 : Nat) : Int)) hx hb (nI_toInt (by omega)) (nI_toInt (by omega)) (tgt := 61) dX6_joins_56 (by decide) (fun c_5 => ?_) (fun c_5 => ?_)
          · skip
            refine lv_aload_n hx hb dX6_joins_61 rfl (lv_at hl 1 rfl) ?_
            refine lv_iload hx hb dX6_joins_62 (lv_at hl 0 rfl) ?_
            refine lv_iconst (v := nI 0) hx hb dX6_joins_64 (by decide) ?_
            refine lv_iload_n hx hb dX6_joins_65 rfl (lv_at hl 2 rfl) ?_
            refine run_v (S := Unit) (run_V (As := [.int (nI (g 8 0)), .int (nI 0), .int (nI q0)]) (rest := []) (bs := [moC E b z g gs ar]) (cb := [moC E b z g gs ar]) hx hb hml hown hts hK hZ hA (c_X6_sets l E _ b z g gs ar  (g 8 0) 0 q0 (by omega) (by decide)) l_X6_76 rfl ⟨⟨rfl, rfl⟩, Nat.le_of_ble_eq_true rfl, Nat.le_of_ble_eq_true rfl⟩ 10 rfl [0] rfl (by decide) rfl hP hD hS hl.1 rfl (Nat.le_of_ble_eq_true rfl) dX6_joins_66 ⟨Nat.zero_le _, Nat.zero_le _⟩) hA hP hD hS (isC := [0]) rfl [] [0] (br := []) (bs2 := fun _ => [moC E b z (up2 g 0 (g 8 0) q0) gs ar]) rfl (by decide) (fun _ => rfl) (by decide) (fun u H locs hw hP hD hS => ?_)
            refine lv_aload_n hx hb dX6_joins_69 rfl (lv_at hl 1 rfl) ?_
            refine lv_iload hx hb dX6_joins_70 (lv_at hl 0 rfl) ?_
            refine lv_iconst (v := nI 1) hx hb dX6_joins_72 (by decide) ?_
            refine lv_iload_n hx hb dX6_joins_73 rfl (lv_at hl 3 rfl) ?_
            refine run_v (S := Unit) (run_V (As := [.int (nI (g 8 0)), .int (nI 1), .int (nI q1)]) (rest := []) (bs := [moC E b z (up2 g 0 (g 8 0) q0) gs ar]) (cb := [moC E b z (up2 g 0 (g 8 0) q0) gs ar]) hx hb hml hown hts hK hZ hA (c_X6_sets l E _ b z (up2 g 0 (g 8 0) q0) gs ar  (g 8 0) 1 q1 (by omega) (by decide)) l_X6_76 rfl ⟨⟨rfl, rfl⟩, Nat.le_of_ble_eq_true rfl, Nat.le_of_ble_eq_true rfl⟩ 10 rfl [0] rfl (by decide) rfl hP hD hS hl.1 rfl (Nat.le_of_ble_eq_true rfl) dX6_joins_74 ⟨Nat.zero_le _, Nat.zero_le _⟩) hA hP hD hS (isC := [0]) rfl [] [0] (br := []) (bs2 := fun _ => [moC E b z (up2 (up2 g 0 (g 8 0) q0) 1 (g 8 0) q1) gs ar]) rfl (by decide) (fun _ => rfl) (by decide) (fun u H locs hw hP hD hS => ?_)
            refine lv_aload_n hx hb dX6_joins_77 rfl (lv_at hl 1 rfl) ?_
            refine lv_iload hx hb dX6_joins_78 (lv_at hl 0 rfl) ?_
            refine lv_iconst (v := nI 2) hx hb dX6_joins_80 (by decide) ?_
            refine lv_iload_n hx hb dX6_joins_81 rfl (lv_at hl 4 rfl) ?_
            refine run_v (S := Unit) (run_V (As := [.int (nI (g 8 0)), .int (nI 2), .int (nI q2)]) (rest := []) (bs := [moC E b z (up2 (up2 g 0 (g 8 0) q0) 1 (g 8 0) q1) gs ar]) (cb := [moC E b z (up2 (up2 g 0 (g 8 0) q0) 1 (g 8 0) q1) gs ar]) hx hb hml hown hts hK hZ hA (c_X6_sets l E _ b z (up2 (up2 g 0 (g 8 0) q0) 1 (g 8 0) q1) gs ar  (g 8 0) 2 q2 (by omega) (by decide)) l_X6_76 rfl ⟨⟨rfl, rfl⟩, Nat.le_of_ble_eq_true rfl, Nat.le_of_ble_eq_true rfl⟩ 10 rfl [0] rfl (by decide) rfl hP hD hS hl.1 rfl (Nat.le_of_ble_eq_true rfl) dX6_joins_82 ⟨Nat.zero_le _, Nat.zero_le _⟩) hA hP hD hS (isC := [0]) rfl [] [0] (br := []) (bs2 := fun _ => [moC E b z (up2 (up2 (up2 g 0 (g 8 0) q0) 1 (g 8 0) q1) 2 (g 8 0) q2) gs ar]) rfl (by decide) (fun _ => rfl) (by decide) (fun u H locs hw hP hD hS => ?_)
            refine lv_aload_n hx hb dX6_joins_85 rfl (lv_at hl 1 rfl) ?_
            refine lv_iload hx hb dX6_joins_86 (lv_at hl 0 rfl) ?_
            refine lv_iconst (v := nI 3) hx hb dX6_joins_88 (by decide) ?_
            refine lv_iload hx hb dX6_joins_89 (lv_at hl 5 rfl) ?_
            refine run_v (S := Unit) (run_V (As := [.int (nI (g 8 0)), .int (nI 3), .int (nI q3)]) (rest := []) (bs := [moC E b z (up2 (up2 (up2 g 0 (g 8 0) q0) 1 (g 8 0) q1) 2 (g 8 0) q2) gs ar]) (cb := [moC E b z (up2 (up2 (up2 g 0 (g 8 0) q0) 1 (g 8 0) q1) 2 (g 8 0) q2) gs ar]) hx hb hml hown hts hK hZ hA (c_X6_sets l E _ b z (up2 (up2 (up2 g 0 (g 8 0) q0) 1 (g 8 0) q1) 2 (g 8 0) q2) gs ar  (g 8 0) 3 q3 (by omega) (by decide)) l_X6_76 rfl ⟨⟨rfl, rfl⟩, Nat.le_of_ble_eq_true rfl, Nat.le_of_ble_eq_true rfl⟩ 10 rfl [0] rfl (by decide) rfl hP hD hS hl.1 rfl (Nat.le_of_ble_eq_true rfl) dX6_joins_91 ⟨Nat.zero_le _, Nat.zero_le _⟩) hA hP hD hS (isC := [0]) rfl [] [0] (br := []) (bs2 := fun _ => [moC E b z (up2 (up2 (up2 (up2 g 0 (g 8 0) q0) 1 (g 8 0) q1) 2 (g 8 0) q2) 3 (g 8 0) q3) gs ar]) rfl (by decide) (fun _ => rfl) (by decide) (fun u H locs hw hP hD hS => ?_)
            refine lv_aload_n hx hb dX6_joins_94 rfl (lv_at hl 1 rfl) ?_
            refine va_get (D := E.1) (ci := 10) (v := .ref (b 1)) (C := RX6) (T := TX6) (N := 20) hx hb hts inX6 hown hK hP 0 rfl rfl 1 (by decide) (hts _ q1435) (fun _ h9 => h9) rfl dX6_joins_95 ?_
            refine lv_iconst (v := nI 0) hx hb dX6_joins_98 (by decide) ?_
            refine lv_iload hx hb dX6_joins_99 (lv_at hl 0 rfl) ?_
            refine lv_iconst (v := nI 1) hx hb dX6_joins_101 (by decide) ?_
            refine nv_iadd hx hb dX6_joins_102 ?_
            refine nv_iast (f := (flat (up2 (up2 (up2 (up2 g 0 (g 8 0) q0) 1 (g 8 0) q1) 2 (g 8 0) q2) 3 (g 8 0) q3))) (i := 0) (v := g 8 0 + 1) (n := 74) hx hb hK hP hD hS 1 0 rfl rfl (by omega) (by decide) dX6_joins_103 (fun H locs hP hD hS => ?_)
            rw [flat_set8 (by decide)] at hP hD
            have hP : va_P E.1 vwCl ([moC E b z (up2 (up2 (up2 (up2 (up2 g 0 (g 8 0) q0) 1 (g 8 0) q1) 2 (g 8 0) q2) 3 (g 8 0) q3) 8 0 (g 8 0 + 1)) gs ar] : List va_W).flatten H := hP
            have hD : va_D A ([moC E b z (up2 (up2 (up2 (up2 (up2 g 0 (g 8 0) q0) 1 (g 8 0) q1) 2 (g 8 0) q2) 3 (g 8 0) q3) 8 0 (g 8 0 + 1)) gs ar] : List va_W).flatten := hD
            refine lv_aload_n hx hb dX6_joins_104 rfl (lv_at hl 1 rfl) ?_
            refine lv_iload hx hb dX6_joins_105 (lv_at hl 0 rfl) ?_
            refine run_i (S := Unit) (run_V (As := [.int (nI (g 8 0))]) (rest := []) (bs := [moC E b z (up2 (up2 (up2 (up2 (up2 g 0 (g 8 0) q0) 1 (g 8 0) q1) 2 (g 8 0) q2) 3 (g 8 0) q3) 8 0 (g 8 0 + 1)) gs ar]) (cb := [moC E b z (up2 (up2 (up2 (up2 (up2 g 0 (g 8 0) q0) 1 (g 8 0) q1) 2 (g 8 0) q2) 3 (g 8 0) q3) 8 0 (g 8 0 + 1)) gs ar]) hx hb hml hown hts hK hZ hA (c_X6_done l E _ b z (up2 (up2 (up2 (up2 (up2 g 0 (g 8 0) q0) 1 (g 8 0) q1) 2 (g 8 0) q2) 3 (g 8 0) q3) 8 0 (g 8 0 + 1)) gs ar  (g 8 0) ) l_X6_89 rfl ⟨⟨rfl, rfl⟩, Nat.le_of_ble_eq_true rfl, Nat.le_of_ble_eq_true rfl⟩ 10 rfl [0] rfl (by decide) rfl hP hD hS hl.1 rfl (Nat.le_of_ble_eq_true rfl) dX6_joins_107 ⟨Nat.zero_le _, Nat.zero_le _⟩) hA hP hD hS (isC := [0]) rfl [] [0] (br := []) (bs2 := fun _ => [moC E b (upn z 7 (g 8 0)) (up2 (up2 (up2 (up2 (up2 g 0 (g 8 0) q0) 1 (g 8 0) q1) 2 (g 8 0) q2) 3 (g 8 0) q3) 8 0 (g 8 0 + 1)) gs ar]) rfl (by decide) (fun _ => rfl) (by decide) (fun r u H locs hw hP hD hS => ?_)
            subst hw
            have hf : fJoin g (nI q0) (nI q1) (nI q2) (nI q3) = 0 := (by simp only [fJoin, eq0, eq1, eq2, eq3, Int.toNat_natCast]; (repeat' split) <;> first | rfl | (exfalso; omega))
            have hmE : moC E b (upn z 7 (g 8 0)) (up2 (up2 (up2 (up2 (up2 g 0 (g 8 0) q0) 1 (g 8 0) q1) 2 (g 8 0) q2) 3 (g 8 0) q3) 8 0 (g 8 0 + 1)) gs ar = moC E b (if fJoin g (nI q0) (nI q1) (nI q2) (nI q3) = 0 then upn z 7 (g 8 0) else z) (if fJoin g (nI q0) (nI q1) (nI q2) (nI q3) = 0 then joinG g (tn (nI q0)) (tn (nI q1)) (tn (nI q2)) (tn (nI q3)) else g) gs ar := by rw [if_pos hf, if_pos hf, tn_nI hq0, tn_nI hq1, tn_nI hq2, tn_nI hq3]; rw [joinG_eq hI]
            rw [hmE] at hP hD; clear hmE
            exact hret _ _ (nI 0) () _ _ hP hD hS rfl (by rw [hf]) dX6_joins_110
          · skip
            refine lv_iconst (v := nI 2) hx hb dX6_joins_59 (by decide) ?_
            have hf : fJoin g (nI q0) (nI q1) (nI q2) (nI q3) = 3 := (by simp only [fJoin, eq0, eq1, eq2, eq3, Int.toNat_natCast]; (repeat' split) <;> first | rfl | (exfalso; omega))
            have hmE : moC E b z g gs ar = moC E b (if fJoin g (nI q0) (nI q1) (nI q2) (nI q3) = 0 then upn z 7 (g 8 0) else z) (if fJoin g (nI q0) (nI q1) (nI q2) (nI q3) = 0 then joinG g (tn (nI q0)) (tn (nI q1)) (tn (nI q2)) (tn (nI q3)) else g) gs ar := by rw [if_neg (by omega), if_neg (by omega)]
            rw [hmE] at hP hD; clear hmE
            exact hret _ _ (nI 2) () _ _ hP hD hS rfl (by rw [hf]) dX6_joins_60
        · skip
          have c_4 := of_decide_eq_false c_4
          refine lv_iconst (v := nI 1) hx hb dX6_joins_42 (by decide) ?_
          have hf : fJoin g p0 p1 p2 p3 = 2 := (by simp only [fJoin]; (repeat' split) <;> first | rfl | (exfalso; omega))
          have hmE : moC E b z g gs ar = moC E b (if fJoin g p0 p1 p2 p3 = 0 then upn z 7 (g 8 0) else z) (if fJoin g p0 p1 p2 p3 = 0 then joinG g (tn p0) (tn p1) (tn p2) (tn p3) else g) gs ar := by rw [if_neg (by omega), if_neg (by omega)]
          rw [hmE] at hP hD; clear hmE
          exact hret _ _ (nI 1) () _ _ hP hD hS rfl (by rw [hf]) dX6_joins_43
abbrev rm_X6_winds : Room := { frames := 2, cells := 0, slots := 0, locals := 43 }
set_option maxHeartbeats 4000000 in
set_option maxRecDepth 100000 in
theorem c_X6_winds (l : Launch) (E : EE) (sz : Nat) (b : Nat → Nat) (z : Nat → Nat) (g : GG) (gs : Nat → GG) (ar : GG) (B : Nat) (hI : IB B g) (p0 p1 : Int32)  : MI l yX6_winds cX6_winds 3 .int rm_X6_winds [.ref (b 0), .int p0, .int p1] E sz [moC E b z g gs ar] (fun (r : Int32) (_ : Unit) => r = nI (fWind g p0 p1)) (fun _ => [moC E b (if fWind g p0 p1 = 0 then upn z 7 (g 4 (tn p0) + tn p1) else z) (if fWind g p0 p1 = 0 then windG g (tn p0) (tn p1) else g) gs ar]) 0 0 := by
  refine mi_go (by decide) (Nat.le_of_ble_eq_true rfl) ?_
  intro p e s m below meth c A Q ls hx hb hml hown hts hK hZ hA hsz hP hD hl hret
  have hS : va_S A s.heap s.heap [] := va_S.rf
  have hl : lv_has ls 3 [(0, .ref (b 0)), (1, .int p0), (2, .int p1)] := hl
  skip
  have hmc := hI.mc
  have hbu := hI.bud
  refine lv_aload_n hx hb dX6_winds_0 rfl (lv_at hl 0 rfl) ?_
  refine lv_iload_n hx hb dX6_winds_1 rfl (lv_at hl 1 rfl) ?_
  refine run_i (S := Unit) (run_V (As := [.int p0]) (rest := []) (bs := [moC E b z g gs ar]) (cb := [moC E b z g gs ar]) hx hb hml hown hts hK hZ hA (c_X6_isMember l E _ b z g gs ar  p0 hmc) l_X6_92 rfl ⟨⟨rfl, rfl⟩, Nat.le_of_ble_eq_true rfl, Nat.le_of_ble_eq_true rfl⟩ 10 rfl [0] rfl (by decide) rfl hP hD hS hl.1 rfl (Nat.le_of_ble_eq_true rfl) dX6_winds_2 ⟨Nat.zero_le _, Nat.zero_le _⟩) hA hP hD hS (isC := [0]) rfl [] [0] (br := []) (bs2 := fun _ => [moC E b z g gs ar]) rfl (by decide) (fun _ => rfl) (by decide) (fun r u H locs hw hP hD hS => ?_)
  subst hw
  refine bv_if_ne hx hb (tgt := 10) dX6_winds_5 (by decide) (fun c_1 => ?_) (fun c_1 => ?_)
  · skip
    have c_1 := of_decide_eq_true c_1
    refine lv_iload_n hx hb dX6_winds_10 rfl (lv_at hl 2 rfl) ?_
    refine lv_iconst (v := nI 1) hx hb dX6_winds_11 (by decide) ?_
    refine lv_bipush (v := nI 60) hx hb dX6_winds_12 (by decide) ?_
    refine run_i (S := Unit) (run_S (As := [.int p1, .int (nI 1), .int (nI 60)]) (rest := []) (bs := [moC E b z g gs ar]) (cb := []) hx hb hml hown hts hK hZ hA (c_X6_in l E _ p1 (nI 1) (nI 60) p1.toInt ((1 : Nat) : Int) ((60 : Nat) : Int) rfl (nI_toInt (by omega)) (nI_toInt (by omega))) l_X6_57 rfl ⟨⟨rfl, rfl⟩, Nat.le_of_ble_eq_true rfl, Nat.le_of_ble_eq_true rfl⟩ [] rfl (by decide) hP hD hS hl.1 rfl (Nat.le_of_ble_eq_true rfl) dX6_winds_14 ⟨Nat.zero_le _, Nat.zero_le _⟩) hA hP hD hS (isC := []) rfl [0] [0] (br := [moC E b z g gs ar]) (bs2 := fun _ => [moC E b z g gs ar]) rfl (by decide) (fun _ => rfl) (by decide) (fun r u H locs hw hP hD hS => ?_)
    subst hw
    refine bv_if_ne hx hb (tgt := 22) dX6_winds_17 (by decide) (fun c_2 => ?_) (fun c_2 => ?_)
    · skip
      have c_2 := of_decide_eq_true c_2
      obtain ⟨m0, hm0, rfl, em0⟩ := raw_n (x := p0) (by omega)
      obtain ⟨t0, ht0, rfl, et0⟩ := raw_n (x := p1) (by omega)
      have hmb := hI.mem (m := m0) (by omega)
      refine lv_aload_n hx hb dX6_winds_22 rfl (lv_at hl 0 rfl) ?_
      refine lv_iload_n hx hb dX6_winds_23 rfl (lv_at hl 1 rfl) ?_
      refine lv_iconst (v := nI 4) hx hb dX6_winds_24 (by decide) ?_
      refine run_i (S := Unit) (run_V (As := [.int (nI m0), .int (nI 4)]) (rest := []) (bs := [moC E b z g gs ar]) (cb := [moC E b z g gs ar]) hx hb hml hown hts hK hZ hA (c_X6_of l E _ b z g gs ar  m0 4 (by omega) (by decide)) l_X6_65 rfl ⟨⟨rfl, rfl⟩, Nat.le_of_ble_eq_true rfl, Nat.le_of_ble_eq_true rfl⟩ 10 rfl [0] rfl (by decide) rfl hP hD hS hl.1 rfl (Nat.le_of_ble_eq_true rfl) dX6_winds_25 ⟨Nat.zero_le _, Nat.zero_le _⟩) hA hP hD hS (isC := [0]) rfl [] [0] (br := []) (bs2 := fun _ => [moC E b z g gs ar]) rfl (by decide) (fun _ => rfl) (by decide) (fun r u H locs hw hP hD hS => ?_)
      subst hw
      refine lv_iload_n hx hb dX6_winds_28 rfl (lv_at hl 2 rfl) ?_
      refine nv_iadd hx hb dX6_winds_29 ?_
      refine lv_bipush (v := nI 60) hx hb dX6_winds_30 (by decide) ?_
      refine nv_icmp_le (X := ((g 4 m0 + t0 : Nat) : Int)) (Y := ((60 : Nat) : Int)) hx hb (nI_toInt (by omega)) (nI_toInt (by omega)) (tgt := 37) dX6_winds_32 (by decide) (fun c_3 => ?_) (fun c_3 => ?_)
      · skip
        refine lv_aload_n hx hb dX6_winds_37 rfl (lv_at hl 0 rfl) ?_
        refine lv_iload_n hx hb dX6_winds_38 rfl (lv_at hl 1 rfl) ?_
        refine lv_iconst (v := nI 4) hx hb dX6_winds_39 (by decide) ?_
        refine lv_aload_n hx hb dX6_winds_40 rfl (lv_at hl 0 rfl) ?_
        refine lv_iload_n hx hb dX6_winds_41 rfl (lv_at hl 1 rfl) ?_
        refine lv_iconst (v := nI 4) hx hb dX6_winds_42 (by decide) ?_
        refine run_i (S := Unit) (run_V (As := [.int (nI m0), .int (nI 4)]) (rest := [.int (nI 4), .int (nI m0), .ref (b 0)]) (bs := [moC E b z g gs ar]) (cb := [moC E b z g gs ar]) hx hb hml hown hts hK hZ hA (c_X6_of l E _ b z g gs ar  m0 4 (by omega) (by decide)) l_X6_65 rfl ⟨⟨rfl, rfl⟩, Nat.le_of_ble_eq_true rfl, Nat.le_of_ble_eq_true rfl⟩ 10 rfl [0] rfl (by decide) rfl hP hD hS hl.1 rfl (Nat.le_of_ble_eq_true rfl) dX6_winds_43 ⟨Nat.zero_le _, Nat.zero_le _⟩) hA hP hD hS (isC := [0]) rfl [] [0] (br := []) (bs2 := fun _ => [moC E b z g gs ar]) rfl (by decide) (fun _ => rfl) (by decide) (fun r u H locs hw hP hD hS => ?_)
        subst hw
        refine lv_iload_n hx hb dX6_winds_46 rfl (lv_at hl 2 rfl) ?_
        refine nv_iadd hx hb dX6_winds_47 ?_
        refine run_v (S := Unit) (run_V (As := [.int (nI m0), .int (nI 4), .int (nI (g 4 m0 + t0))]) (rest := []) (bs := [moC E b z g gs ar]) (cb := [moC E b z g gs ar]) hx hb hml hown hts hK hZ hA (c_X6_sets l E _ b z g gs ar  m0 4 (g 4 m0 + t0) (by omega) (by decide)) l_X6_76 rfl ⟨⟨rfl, rfl⟩, Nat.le_of_ble_eq_true rfl, Nat.le_of_ble_eq_true rfl⟩ 10 rfl [0] rfl (by decide) rfl hP hD hS hl.1 rfl (Nat.le_of_ble_eq_true rfl) dX6_winds_48 ⟨Nat.zero_le _, Nat.zero_le _⟩) hA hP hD hS (isC := [0]) rfl [] [0] (br := []) (bs2 := fun _ => [moC E b z (up2 g 4 m0 (g 4 m0 + t0)) gs ar]) rfl (by decide) (fun _ => rfl) (by decide) (fun u H locs hw hP hD hS => ?_)
        refine lv_aload_n hx hb dX6_winds_51 rfl (lv_at hl 0 rfl) ?_
        refine lv_aload_n hx hb dX6_winds_52 rfl (lv_at hl 0 rfl) ?_
        refine lv_iload_n hx hb dX6_winds_53 rfl (lv_at hl 1 rfl) ?_
        refine lv_iconst (v := nI 4) hx hb dX6_winds_54 (by decide) ?_
        refine run_i (S := Unit) (run_V (As := [.int (nI m0), .int (nI 4)]) (rest := [.ref (b 0)]) (bs := [moC E b z (up2 g 4 m0 (g 4 m0 + t0)) gs ar]) (cb := [moC E b z (up2 g 4 m0 (g 4 m0 + t0)) gs ar]) hx hb hml hown hts hK hZ hA (c_X6_of l E _ b z (up2 g 4 m0 (g 4 m0 + t0)) gs ar  m0 4 (by omega) (by decide)) l_X6_65 rfl ⟨⟨rfl, rfl⟩, Nat.le_of_ble_eq_true rfl, Nat.le_of_ble_eq_true rfl⟩ 10 rfl [0] rfl (by decide) rfl hP hD hS hl.1 rfl (Nat.le_of_ble_eq_true rfl) dX6_winds_55 ⟨Nat.zero_le _, Nat.zero_le _⟩) hA hP hD hS (isC := [0]) rfl [] [0] (br := []) (bs2 := fun _ => [moC E b z (up2 g 4 m0 (g 4 m0 + t0)) gs ar]) rfl (by decide) (fun _ => rfl) (by decide) (fun r u H locs hw hP hD hS => ?_)
        rw [show (up2 g 4 m0 (g 4 m0 + t0)) 4 m0 = (g 4 m0 + t0) from up2_s] at hw
        subst hw
        refine run_i (S := Unit) (run_V (As := [.int (nI (g 4 m0 + t0))]) (rest := []) (bs := [moC E b z (up2 g 4 m0 (g 4 m0 + t0)) gs ar]) (cb := [moC E b z (up2 g 4 m0 (g 4 m0 + t0)) gs ar]) hx hb hml hown hts hK hZ hA (c_X6_done l E _ b z (up2 g 4 m0 (g 4 m0 + t0)) gs ar  (g 4 m0 + t0) ) l_X6_89 rfl ⟨⟨rfl, rfl⟩, Nat.le_of_ble_eq_true rfl, Nat.le_of_ble_eq_true rfl⟩ 10 rfl [0] rfl (by decide) rfl hP hD hS hl.1 rfl (Nat.le_of_ble_eq_true rfl) dX6_winds_58 ⟨Nat.zero_le _, Nat.zero_le _⟩) hA hP hD hS (isC := [0]) rfl [] [0] (br := []) (bs2 := fun _ => [moC E b (upn z 7 (g 4 m0 + t0)) (up2 g 4 m0 (g 4 m0 + t0)) gs ar]) rfl (by decide) (fun _ => rfl) (by decide) (fun r u H locs hw hP hD hS => ?_)
        subst hw
        have hf : fWind g (nI m0) (nI t0) = 0 := (by simp only [fWind, em0, et0, Int.toNat_natCast]; (repeat' split) <;> first | rfl | (exfalso; omega))
        have hmE : moC E b (upn z 7 (g 4 m0 + t0)) (up2 g 4 m0 (g 4 m0 + t0)) gs ar = moC E b (if fWind g (nI m0) (nI t0) = 0 then upn z 7 (g 4 (tn (nI m0)) + tn (nI t0)) else z) (if fWind g (nI m0) (nI t0) = 0 then windG g (tn (nI m0)) (tn (nI t0)) else g) gs ar := by rw [if_pos hf, if_pos hf, tn_nI hm0, tn_nI ht0]; rfl
        rw [hmE] at hP hD; clear hmE
        exact hret _ _ (nI 0) () _ _ hP hD hS rfl (by rw [hf]) dX6_winds_61
      · skip
        refine lv_iconst (v := nI 3) hx hb dX6_winds_35 (by decide) ?_
        have hf : fWind g (nI m0) (nI t0) = 3 := (by simp only [fWind, em0, et0, Int.toNat_natCast]; (repeat' split) <;> first | rfl | (exfalso; omega))
        have hmE : moC E b z g gs ar = moC E b (if fWind g (nI m0) (nI t0) = 0 then upn z 7 (g 4 (tn (nI m0)) + tn (nI t0)) else z) (if fWind g (nI m0) (nI t0) = 0 then windG g (tn (nI m0)) (tn (nI t0)) else g) gs ar := by rw [if_neg (by omega), if_neg (by omega)]
        rw [hmE] at hP hD; clear hmE
        exact hret _ _ (nI 3) () _ _ hP hD hS rfl (by rw [hf]) dX6_winds_36
    · skip
      have c_2 := of_decide_eq_false c_2
      refine lv_iconst (v := nI 2) hx hb dX6_winds_20 (by decide) ?_
      have hf : fWind g p0 p1 = 2 := (by simp only [fWind]; (repeat' split) <;> first | rfl | (exfalso; omega))
      have hmE : moC E b z g gs ar = moC E b (if fWind g p0 p1 = 0 then upn z 7 (g 4 (tn p0) + tn p1) else z) (if fWind g p0 p1 = 0 then windG g (tn p0) (tn p1) else g) gs ar := by rw [if_neg (by omega), if_neg (by omega)]
      rw [hmE] at hP hD; clear hmE
      exact hret _ _ (nI 2) () _ _ hP hD hS rfl (by rw [hf]) dX6_winds_21
  · skip
    have c_1 := of_decide_eq_false c_1
    refine lv_iconst (v := nI 1) hx hb dX6_winds_8 (by decide) ?_
    have hf : fWind g p0 p1 = 1 := (by simp only [fWind]; (repeat' split) <;> first | rfl | (exfalso; omega))
    have hmE : moC E b z g gs ar = moC E b (if fWind g p0 p1 = 0 then upn z 7 (g 4 (tn p0) + tn p1) else z) (if fWind g p0 p1 = 0 then windG g (tn p0) (tn p1) else g) gs ar := by rw [if_neg (by omega), if_neg (by omega)]
    rw [hmE] at hP hD; clear hmE
    exact hret _ _ (nI 1) () _ _ hP hD hS rfl (by rw [hf]) dX6_winds_9
abbrev rm_X6_tunes : Room := { frames := 2, cells := 0, slots := 0, locals := 43 }
set_option maxHeartbeats 4000000 in
set_option maxRecDepth 100000 in
theorem c_X6_tunes (l : Launch) (E : EE) (sz : Nat) (b : Nat → Nat) (z : Nat → Nat) (g : GG) (gs : Nat → GG) (ar : GG) (B : Nat) (hI : IB B g) (p0 p1 : Int32)  : MI l yX6_tunes cX6_tunes 4 .int rm_X6_tunes [.ref (b 0), .int p0, .int p1] E sz [moC E b z g gs ar] (fun (r : Int32) (_ : Unit) => r = nI (fTune g p0 p1)) (fun _ => [moC E b (if fTune g p0 p1 = 0 then upn z 7 (g 3 (tn p0)) else z) (if fTune g p0 p1 = 0 then up2 g 3 (tn p0) (tn p1) else g) gs ar]) 0 0 := by
  refine mi_go (by decide) (Nat.le_of_ble_eq_true rfl) ?_
  intro p e s m below meth c A Q ls hx hb hml hown hts hK hZ hA hsz hP hD hl hret
  have hS : va_S A s.heap s.heap [] := va_S.rf
  have hl : lv_has ls 4 [(0, .ref (b 0)), (1, .int p0), (2, .int p1)] := hl
  skip
  have hmc := hI.mc
  have hbu := hI.bud
  refine lv_aload_n hx hb dX6_tunes_0 rfl (lv_at hl 0 rfl) ?_
  refine lv_iload_n hx hb dX6_tunes_1 rfl (lv_at hl 1 rfl) ?_
  refine run_i (S := Unit) (run_V (As := [.int p0]) (rest := []) (bs := [moC E b z g gs ar]) (cb := [moC E b z g gs ar]) hx hb hml hown hts hK hZ hA (c_X6_isMember l E _ b z g gs ar  p0 hmc) l_X6_92 rfl ⟨⟨rfl, rfl⟩, Nat.le_of_ble_eq_true rfl, Nat.le_of_ble_eq_true rfl⟩ 10 rfl [0] rfl (by decide) rfl hP hD hS hl.1 rfl (Nat.le_of_ble_eq_true rfl) dX6_tunes_2 ⟨Nat.zero_le _, Nat.zero_le _⟩) hA hP hD hS (isC := [0]) rfl [] [0] (br := []) (bs2 := fun _ => [moC E b z g gs ar]) rfl (by decide) (fun _ => rfl) (by decide) (fun r u H locs hw hP hD hS => ?_)
  subst hw
  refine bv_if_ne hx hb (tgt := 10) dX6_tunes_5 (by decide) (fun c_1 => ?_) (fun c_1 => ?_)
  · skip
    have c_1 := of_decide_eq_true c_1
    refine lv_iload_n hx hb dX6_tunes_10 rfl (lv_at hl 2 rfl) ?_
    refine lv_iconst (v := nI 0) hx hb dX6_tunes_11 (by decide) ?_
    refine lv_bipush (v := nI 11) hx hb dX6_tunes_12 (by decide) ?_
    refine run_i (S := Unit) (run_S (As := [.int p1, .int (nI 0), .int (nI 11)]) (rest := []) (bs := [moC E b z g gs ar]) (cb := []) hx hb hml hown hts hK hZ hA (c_X6_in l E _ p1 (nI 0) (nI 11) p1.toInt ((0 : Nat) : Int) ((11 : Nat) : Int) rfl (nI_toInt (by omega)) (nI_toInt (by omega))) l_X6_57 rfl ⟨⟨rfl, rfl⟩, Nat.le_of_ble_eq_true rfl, Nat.le_of_ble_eq_true rfl⟩ [] rfl (by decide) hP hD hS hl.1 rfl (Nat.le_of_ble_eq_true rfl) dX6_tunes_14 ⟨Nat.zero_le _, Nat.zero_le _⟩) hA hP hD hS (isC := []) rfl [0] [0] (br := [moC E b z g gs ar]) (bs2 := fun _ => [moC E b z g gs ar]) rfl (by decide) (fun _ => rfl) (by decide) (fun r u H locs hw hP hD hS => ?_)
    subst hw
    refine bv_if_ne hx hb (tgt := 22) dX6_tunes_17 (by decide) (fun c_2 => ?_) (fun c_2 => ?_)
    · skip
      have c_2 := of_decide_eq_true c_2
      obtain ⟨m0, hm0, rfl, em0⟩ := raw_n (x := p0) (by omega)
      obtain ⟨t0, ht0, rfl, et0⟩ := raw_n (x := p1) (by omega)
      have hmb := hI.mem (m := m0) (by omega)
      refine lv_aload_n hx hb dX6_tunes_22 rfl (lv_at hl 0 rfl) ?_
      refine lv_iload_n hx hb dX6_tunes_23 rfl (lv_at hl 1 rfl) ?_
      refine lv_iconst (v := nI 3) hx hb dX6_tunes_24 (by decide) ?_
      refine run_i (S := Unit) (run_V (As := [.int (nI m0), .int (nI 3)]) (rest := []) (bs := [moC E b z g gs ar]) (cb := [moC E b z g gs ar]) hx hb hml hown hts hK hZ hA (c_X6_of l E _ b z g gs ar  m0 3 (by omega) (by decide)) l_X6_65 rfl ⟨⟨rfl, rfl⟩, Nat.le_of_ble_eq_true rfl, Nat.le_of_ble_eq_true rfl⟩ 10 rfl [0] rfl (by decide) rfl hP hD hS hl.1 rfl (Nat.le_of_ble_eq_true rfl) dX6_tunes_25 ⟨Nat.zero_le _, Nat.zero_le _⟩) hA hP hD hS (isC := [0]) rfl [] [0] (br := []) (bs2 := fun _ => [moC E b z g gs ar]) rfl (by decide) (fun _ => rfl) (by decide) (fun r u H locs hw hP hD hS => ?_)
      subst hw
      refine lv_istore_n (lv' := [(3, .int (nI (g 3 m0))), (0, .ref (b 0)), (1, .int (nI m0)), (2, .int (nI t0))]) hx hb dX6_tunes_28 rfl hl (by decide) rfl (fun ls hl => ?_)
      refine lv_aload_n hx hb dX6_tunes_29 rfl (lv_at hl 1 rfl) ?_
      refine lv_iload_n hx hb dX6_tunes_30 rfl (lv_at hl 2 rfl) ?_
      refine lv_iconst (v := nI 3) hx hb dX6_tunes_31 (by decide) ?_
      refine lv_iload_n hx hb dX6_tunes_32 rfl (lv_at hl 3 rfl) ?_
      refine run_v (S := Unit) (run_V (As := [.int (nI m0), .int (nI 3), .int (nI t0)]) (rest := []) (bs := [moC E b z g gs ar]) (cb := [moC E b z g gs ar]) hx hb hml hown hts hK hZ hA (c_X6_sets l E _ b z g gs ar  m0 3 t0 (by omega) (by decide)) l_X6_76 rfl ⟨⟨rfl, rfl⟩, Nat.le_of_ble_eq_true rfl, Nat.le_of_ble_eq_true rfl⟩ 10 rfl [0] rfl (by decide) rfl hP hD hS hl.1 rfl (Nat.le_of_ble_eq_true rfl) dX6_tunes_33 ⟨Nat.zero_le _, Nat.zero_le _⟩) hA hP hD hS (isC := [0]) rfl [] [0] (br := []) (bs2 := fun _ => [moC E b z (up2 g 3 m0 t0) gs ar]) rfl (by decide) (fun _ => rfl) (by decide) (fun u H locs hw hP hD hS => ?_)
      refine lv_aload_n hx hb dX6_tunes_36 rfl (lv_at hl 1 rfl) ?_
      refine lv_iload_n hx hb dX6_tunes_37 rfl (lv_at hl 0 rfl) ?_
      refine run_i (S := Unit) (run_V (As := [.int (nI (g 3 m0))]) (rest := []) (bs := [moC E b z (up2 g 3 m0 t0) gs ar]) (cb := [moC E b z (up2 g 3 m0 t0) gs ar]) hx hb hml hown hts hK hZ hA (c_X6_done l E _ b z (up2 g 3 m0 t0) gs ar  (g 3 m0) ) l_X6_89 rfl ⟨⟨rfl, rfl⟩, Nat.le_of_ble_eq_true rfl, Nat.le_of_ble_eq_true rfl⟩ 10 rfl [0] rfl (by decide) rfl hP hD hS hl.1 rfl (Nat.le_of_ble_eq_true rfl) dX6_tunes_38 ⟨Nat.zero_le _, Nat.zero_le _⟩) hA hP hD hS (isC := [0]) rfl [] [0] (br := []) (bs2 := fun _ => [moC E b (upn z 7 (g 3 m0)) (up2 g 3 m0 t0) gs ar]) rfl (by decide) (fun _ => rfl) (by decide) (fun r u H locs hw hP hD hS => ?_)
      subst hw
      have hf : fTune g (nI m0) (nI t0) = 0 := (by simp only [fTune, em0, et0, Int.toNat_natCast]; (repeat' split) <;> first | rfl | (exfalso; omega))
      have hmE : moC E b (upn z 7 (g 3 m0)) (up2 g 3 m0 t0) gs ar = moC E b (if fTune g (nI m0) (nI t0) = 0 then upn z 7 (g 3 (tn (nI m0))) else z) (if fTune g (nI m0) (nI t0) = 0 then up2 g 3 (tn (nI m0)) (tn (nI t0)) else g) gs ar := by rw [if_pos hf, if_pos hf, tn_nI hm0, tn_nI ht0]
      rw [hmE] at hP hD; clear hmE
      exact hret _ _ (nI 0) () _ _ hP hD hS rfl (by rw [hf]) dX6_tunes_41
    · skip
      have c_2 := of_decide_eq_false c_2
      refine lv_iconst (v := nI 2) hx hb dX6_tunes_20 (by decide) ?_
      have hf : fTune g p0 p1 = 2 := (by simp only [fTune]; (repeat' split) <;> first | rfl | (exfalso; omega))
      have hmE : moC E b z g gs ar = moC E b (if fTune g p0 p1 = 0 then upn z 7 (g 3 (tn p0)) else z) (if fTune g p0 p1 = 0 then up2 g 3 (tn p0) (tn p1) else g) gs ar := by rw [if_neg (by omega), if_neg (by omega)]
      rw [hmE] at hP hD; clear hmE
      exact hret _ _ (nI 2) () _ _ hP hD hS rfl (by rw [hf]) dX6_tunes_21
  · skip
    have c_1 := of_decide_eq_false c_1
    refine lv_iconst (v := nI 1) hx hb dX6_tunes_8 (by decide) ?_
    have hf : fTune g p0 p1 = 1 := (by simp only [fTune]; (repeat' split) <;> first | rfl | (exfalso; omega))
    have hmE : moC E b z g gs ar = moC E b (if fTune g p0 p1 = 0 then upn z 7 (g 3 (tn p0)) else z) (if fTune g p0 p1 = 0 then up2 g 3 (tn p0) (tn p1) else g) gs ar := by rw [if_neg (by omega), if_neg (by omega)]
    rw [hmE] at hP hD; clear hmE
    exact hret _ _ (nI 1) () _ _ hP hD hS rfl (by rw [hf]) dX6_tunes_9
abbrev rm_X6_buys : Room := { frames := 2, cells := 0, slots := 0, locals := 43 }
set_option maxHeartbeats 4000000 in
set_option maxRecDepth 100000 in
theorem c_X6_buys (l : Launch) (E : EE) (sz : Nat) (b : Nat → Nat) (z : Nat → Nat) (g : GG) (gs : Nat → GG) (ar : GG) (B : Nat) (hI : IB B g) (p0 p1 : Int32)  : MI l yX6_buys cX6_buys 3 .int rm_X6_buys [.ref (b 0), .int p0, .int p1] E sz [moC E b z g gs ar] (fun (r : Int32) (_ : Unit) => r = nI (fBuy g p0 p1)) (fun _ => [moC E b (if fBuy g p0 p1 = 0 then upn z 7 (g 0 (tn p0) + tn p1) else z) (if fBuy g p0 p1 = 0 then buyG g (tn p0) (tn p1) else g) gs ar]) 0 0 := by
  refine mi_go (by decide) (Nat.le_of_ble_eq_true rfl) ?_
  intro p e s m below meth c A Q ls hx hb hml hown hts hK hZ hA hsz hP hD hl hret
  have hS : va_S A s.heap s.heap [] := va_S.rf
  have hl : lv_has ls 3 [(0, .ref (b 0)), (1, .int p0), (2, .int p1)] := hl
  skip
  have hmc := hI.mc
  have hbu := hI.bud
  refine lv_aload_n hx hb dX6_buys_0 rfl (lv_at hl 0 rfl) ?_
  refine lv_iload_n hx hb dX6_buys_1 rfl (lv_at hl 1 rfl) ?_
  refine run_i (S := Unit) (run_V (As := [.int p0]) (rest := []) (bs := [moC E b z g gs ar]) (cb := [moC E b z g gs ar]) hx hb hml hown hts hK hZ hA (c_X6_isMember l E _ b z g gs ar  p0 hmc) l_X6_92 rfl ⟨⟨rfl, rfl⟩, Nat.le_of_ble_eq_true rfl, Nat.le_of_ble_eq_true rfl⟩ 10 rfl [0] rfl (by decide) rfl hP hD hS hl.1 rfl (Nat.le_of_ble_eq_true rfl) dX6_buys_2 ⟨Nat.zero_le _, Nat.zero_le _⟩) hA hP hD hS (isC := [0]) rfl [] [0] (br := []) (bs2 := fun _ => [moC E b z g gs ar]) rfl (by decide) (fun _ => rfl) (by decide) (fun r u H locs hw hP hD hS => ?_)
  subst hw
  refine bv_if_ne hx hb (tgt := 10) dX6_buys_5 (by decide) (fun c_1 => ?_) (fun c_1 => ?_)
  · skip
    have c_1 := of_decide_eq_true c_1
    refine lv_iload_n hx hb dX6_buys_10 rfl (lv_at hl 2 rfl) ?_
    refine lv_iconst (v := nI 1) hx hb dX6_buys_11 (by decide) ?_
    refine lv_bipush (v := nI 49) hx hb dX6_buys_12 (by decide) ?_
    refine run_i (S := Unit) (run_S (As := [.int p1, .int (nI 1), .int (nI 49)]) (rest := []) (bs := [moC E b z g gs ar]) (cb := []) hx hb hml hown hts hK hZ hA (c_X6_in l E _ p1 (nI 1) (nI 49) p1.toInt ((1 : Nat) : Int) ((49 : Nat) : Int) rfl (nI_toInt (by omega)) (nI_toInt (by omega))) l_X6_57 rfl ⟨⟨rfl, rfl⟩, Nat.le_of_ble_eq_true rfl, Nat.le_of_ble_eq_true rfl⟩ [] rfl (by decide) hP hD hS hl.1 rfl (Nat.le_of_ble_eq_true rfl) dX6_buys_14 ⟨Nat.zero_le _, Nat.zero_le _⟩) hA hP hD hS (isC := []) rfl [0] [0] (br := [moC E b z g gs ar]) (bs2 := fun _ => [moC E b z g gs ar]) rfl (by decide) (fun _ => rfl) (by decide) (fun r u H locs hw hP hD hS => ?_)
    subst hw
    refine bv_if_ne hx hb (tgt := 22) dX6_buys_17 (by decide) (fun c_2 => ?_) (fun c_2 => ?_)
    · skip
      have c_2 := of_decide_eq_true c_2
      obtain ⟨m0, hm0, rfl, em0⟩ := raw_n (x := p0) (by omega)
      obtain ⟨t0, ht0, rfl, et0⟩ := raw_n (x := p1) (by omega)
      have hmb := hI.mem (m := m0) (by omega)
      have hpu := hI.pu (m := m0) (by omega)
      refine lv_aload_n hx hb dX6_buys_22 rfl (lv_at hl 0 rfl) ?_
      refine lv_iload_n hx hb dX6_buys_23 rfl (lv_at hl 1 rfl) ?_
      refine lv_iconst (v := nI 0) hx hb dX6_buys_24 (by decide) ?_
      refine run_i (S := Unit) (run_V (As := [.int (nI m0), .int (nI 0)]) (rest := []) (bs := [moC E b z g gs ar]) (cb := [moC E b z g gs ar]) hx hb hml hown hts hK hZ hA (c_X6_of l E _ b z g gs ar  m0 0 (by omega) (by decide)) l_X6_65 rfl ⟨⟨rfl, rfl⟩, Nat.le_of_ble_eq_true rfl, Nat.le_of_ble_eq_true rfl⟩ 10 rfl [0] rfl (by decide) rfl hP hD hS hl.1 rfl (Nat.le_of_ble_eq_true rfl) dX6_buys_25 ⟨Nat.zero_le _, Nat.zero_le _⟩) hA hP hD hS (isC := [0]) rfl [] [0] (br := []) (bs2 := fun _ => [moC E b z g gs ar]) rfl (by decide) (fun _ => rfl) (by decide) (fun r u H locs hw hP hD hS => ?_)
      subst hw
      refine lv_iload_n hx hb dX6_buys_28 rfl (lv_at hl 2 rfl) ?_
      refine nv_iadd hx hb dX6_buys_29 ?_
      refine lv_bipush (v := nI 50) hx hb dX6_buys_30 (by decide) ?_
      refine nv_icmp_le (X := ((g 0 m0 + t0 : Nat) : Int)) (Y := ((50 : Nat) : Int)) hx hb (nI_toInt (by omega)) (nI_toInt (by omega)) (tgt := 37) dX6_buys_32 (by decide) (fun c_3 => ?_) (fun c_3 => ?_)
      · skip
        refine lv_aload_n hx hb dX6_buys_37 rfl (lv_at hl 0 rfl) ?_
        refine lv_iload_n hx hb dX6_buys_38 rfl (lv_at hl 1 rfl) ?_
        refine lv_iconst (v := nI 5) hx hb dX6_buys_39 (by decide) ?_
        refine run_i (S := Unit) (run_V (As := [.int (nI m0), .int (nI 5)]) (rest := []) (bs := [moC E b z g gs ar]) (cb := [moC E b z g gs ar]) hx hb hml hown hts hK hZ hA (c_X6_of l E _ b z g gs ar  m0 5 (by omega) (by decide)) l_X6_65 rfl ⟨⟨rfl, rfl⟩, Nat.le_of_ble_eq_true rfl, Nat.le_of_ble_eq_true rfl⟩ 10 rfl [0] rfl (by decide) rfl hP hD hS hl.1 rfl (Nat.le_of_ble_eq_true rfl) dX6_buys_40 ⟨Nat.zero_le _, Nat.zero_le _⟩) hA hP hD hS (isC := [0]) rfl [] [0] (br := []) (bs2 := fun _ => [moC E b z g gs ar]) rfl (by decide) (fun _ => rfl) (by decide) (fun r u H locs hw hP hD hS => ?_)
        subst hw
        refine lv_iconst (v := nI 5) hx hb dX6_buys_43 (by decide) ?_
        refine lv_iload_n hx hb dX6_buys_44 rfl (lv_at hl 2 rfl) ?_
        refine nv_imul hx hb dX6_buys_45 ?_
        refine nv_icmp_ge (X := ((g 5 m0 : Nat) : Int)) (Y := ((5 * t0 : Nat) : Int)) hx hb (nI_toInt (by omega)) (nI_toInt (by omega)) (tgt := 51) dX6_buys_46 (by decide) (fun c_4 => ?_) (fun c_4 => ?_)
        · skip
          refine lv_aload_n hx hb dX6_buys_51 rfl (lv_at hl 0 rfl) ?_
          refine lv_iload_n hx hb dX6_buys_52 rfl (lv_at hl 1 rfl) ?_
          refine lv_iconst (v := nI 5) hx hb dX6_buys_53 (by decide) ?_
          refine lv_aload_n hx hb dX6_buys_54 rfl (lv_at hl 0 rfl) ?_
          refine lv_iload_n hx hb dX6_buys_55 rfl (lv_at hl 1 rfl) ?_
          refine lv_iconst (v := nI 5) hx hb dX6_buys_56 (by decide) ?_
          refine run_i (S := Unit) (run_V (As := [.int (nI m0), .int (nI 5)]) (rest := [.int (nI 5), .int (nI m0), .ref (b 0)]) (bs := [moC E b z g gs ar]) (cb := [moC E b z g gs ar]) hx hb hml hown hts hK hZ hA (c_X6_of l E _ b z g gs ar  m0 5 (by omega) (by decide)) l_X6_65 rfl ⟨⟨rfl, rfl⟩, Nat.le_of_ble_eq_true rfl, Nat.le_of_ble_eq_true rfl⟩ 10 rfl [0] rfl (by decide) rfl hP hD hS hl.1 rfl (Nat.le_of_ble_eq_true rfl) dX6_buys_57 ⟨Nat.zero_le _, Nat.zero_le _⟩) hA hP hD hS (isC := [0]) rfl [] [0] (br := []) (bs2 := fun _ => [moC E b z g gs ar]) rfl (by decide) (fun _ => rfl) (by decide) (fun r u H locs hw hP hD hS => ?_)
          subst hw
          refine lv_iconst (v := nI 5) hx hb dX6_buys_60 (by decide) ?_
          refine lv_iload_n hx hb dX6_buys_61 rfl (lv_at hl 2 rfl) ?_
          refine nv_imul hx hb dX6_buys_62 ?_
          refine nv_isub hx hb (by omega) dX6_buys_63 ?_
          refine run_v (S := Unit) (run_V (As := [.int (nI m0), .int (nI 5), .int (nI ((g 5 m0) - (5 * t0)))]) (rest := []) (bs := [moC E b z g gs ar]) (cb := [moC E b z g gs ar]) hx hb hml hown hts hK hZ hA (c_X6_sets l E _ b z g gs ar  m0 5 ((g 5 m0) - (5 * t0)) (by omega) (by decide)) l_X6_76 rfl ⟨⟨rfl, rfl⟩, Nat.le_of_ble_eq_true rfl, Nat.le_of_ble_eq_true rfl⟩ 10 rfl [0] rfl (by decide) rfl hP hD hS hl.1 rfl (Nat.le_of_ble_eq_true rfl) dX6_buys_64 ⟨Nat.zero_le _, Nat.zero_le _⟩) hA hP hD hS (isC := [0]) rfl [] [0] (br := []) (bs2 := fun _ => [moC E b z (up2 g 5 m0 ((g 5 m0) - (5 * t0))) gs ar]) rfl (by decide) (fun _ => rfl) (by decide) (fun u H locs hw hP hD hS => ?_)
          refine lv_aload_n hx hb dX6_buys_67 rfl (lv_at hl 0 rfl) ?_
          refine va_get (D := E.1) (ci := 10) (v := .ref (b 1)) (C := RX6) (T := TX6) (N := 20) hx hb hts inX6 hown hK hP 0 rfl rfl 1 (by decide) (hts _ q1435) (fun _ h9 => h9) rfl dX6_buys_68 ?_
          refine lv_iconst (v := nI 2) hx hb dX6_buys_71 (by decide) ?_
          refine lv_dup2_11 hx hb dX6_buys_72 rfl rfl ?_
          refine nv_iald (f := (flat (up2 g 5 m0 ((g 5 m0) - (5 * t0))))) (i := 2) (n := 74) hx hb hK hP 1 0 rfl rfl (by omega) (by decide) dX6_buys_73 ?_
          refine tp_i (show nI ((flat (up2 g 5 m0 ((g 5 m0) - (5 * t0)))) 2) = nI (g 8 2) from rfl) ?_
          refine lv_iconst (v := nI 5) hx hb dX6_buys_74 (by decide) ?_
          refine lv_iload_n hx hb dX6_buys_75 rfl (lv_at hl 2 rfl) ?_
          refine nv_imul hx hb dX6_buys_76 ?_
          refine nv_iadd hx hb dX6_buys_77 ?_
          refine nv_iast (f := (flat (up2 g 5 m0 ((g 5 m0) - (5 * t0))))) (i := 2) (v := g 8 2 + (5 * t0)) (n := 74) hx hb hK hP hD hS 1 0 rfl rfl (by omega) (by decide) dX6_buys_78 (fun H locs hP hD hS => ?_)
          rw [flat_set8 (by decide)] at hP hD
          have hP : va_P E.1 vwCl ([moC E b z (up2 (up2 g 5 m0 ((g 5 m0) - (5 * t0))) 8 2 (g 8 2 + (5 * t0))) gs ar] : List va_W).flatten H := hP
          have hD : va_D A ([moC E b z (up2 (up2 g 5 m0 ((g 5 m0) - (5 * t0))) 8 2 (g 8 2 + (5 * t0))) gs ar] : List va_W).flatten := hD
          refine lv_aload_n hx hb dX6_buys_79 rfl (lv_at hl 0 rfl) ?_
          refine lv_iload_n hx hb dX6_buys_80 rfl (lv_at hl 1 rfl) ?_
          refine lv_iconst (v := nI 0) hx hb dX6_buys_81 (by decide) ?_
          refine lv_aload_n hx hb dX6_buys_82 rfl (lv_at hl 0 rfl) ?_
          refine lv_iload_n hx hb dX6_buys_83 rfl (lv_at hl 1 rfl) ?_
          refine lv_iconst (v := nI 0) hx hb dX6_buys_84 (by decide) ?_
          refine run_i (S := Unit) (run_V (As := [.int (nI m0), .int (nI 0)]) (rest := [.int (nI 0), .int (nI m0), .ref (b 0)]) (bs := [moC E b z (up2 (up2 g 5 m0 ((g 5 m0) - (5 * t0))) 8 2 (g 8 2 + (5 * t0))) gs ar]) (cb := [moC E b z (up2 (up2 g 5 m0 ((g 5 m0) - (5 * t0))) 8 2 (g 8 2 + (5 * t0))) gs ar]) hx hb hml hown hts hK hZ hA (c_X6_of l E _ b z (up2 (up2 g 5 m0 ((g 5 m0) - (5 * t0))) 8 2 (g 8 2 + (5 * t0))) gs ar  m0 0 (by omega) (by decide)) l_X6_65 rfl ⟨⟨rfl, rfl⟩, Nat.le_of_ble_eq_true rfl, Nat.le_of_ble_eq_true rfl⟩ 10 rfl [0] rfl (by decide) rfl hP hD hS hl.1 rfl (Nat.le_of_ble_eq_true rfl) dX6_buys_85 ⟨Nat.zero_le _, Nat.zero_le _⟩) hA hP hD hS (isC := [0]) rfl [] [0] (br := []) (bs2 := fun _ => [moC E b z (up2 (up2 g 5 m0 ((g 5 m0) - (5 * t0))) 8 2 (g 8 2 + (5 * t0))) gs ar]) rfl (by decide) (fun _ => rfl) (by decide) (fun r u H locs hw hP hD hS => ?_)
          rw [show (up2 (up2 g 5 m0 ((g 5 m0) - (5 * t0))) 8 2 (g 8 2 + (5 * t0))) 0 m0 = g 0 m0 from rfl] at hw
          subst hw
          refine lv_iload_n hx hb dX6_buys_88 rfl (lv_at hl 2 rfl) ?_
          refine nv_iadd hx hb dX6_buys_89 ?_
          refine run_v (S := Unit) (run_V (As := [.int (nI m0), .int (nI 0), .int (nI (g 0 m0 + t0))]) (rest := []) (bs := [moC E b z (up2 (up2 g 5 m0 ((g 5 m0) - (5 * t0))) 8 2 (g 8 2 + (5 * t0))) gs ar]) (cb := [moC E b z (up2 (up2 g 5 m0 ((g 5 m0) - (5 * t0))) 8 2 (g 8 2 + (5 * t0))) gs ar]) hx hb hml hown hts hK hZ hA (c_X6_sets l E _ b z (up2 (up2 g 5 m0 ((g 5 m0) - (5 * t0))) 8 2 (g 8 2 + (5 * t0))) gs ar  m0 0 (g 0 m0 + t0) (by omega) (by decide)) l_X6_76 rfl ⟨⟨rfl, rfl⟩, Nat.le_of_ble_eq_true rfl, Nat.le_of_ble_eq_true rfl⟩ 10 rfl [0] rfl (by decide) rfl hP hD hS hl.1 rfl (Nat.le_of_ble_eq_true rfl) dX6_buys_90 ⟨Nat.zero_le _, Nat.zero_le _⟩) hA hP hD hS (isC := [0]) rfl [] [0] (br := []) (bs2 := fun _ => [moC E b z (up2 (up2 (up2 g 5 m0 ((g 5 m0) - (5 * t0))) 8 2 (g 8 2 + (5 * t0))) 0 m0 (g 0 m0 + t0)) gs ar]) rfl (by decide) (fun _ => rfl) (by decide) (fun u H locs hw hP hD hS => ?_)
          refine lv_aload_n hx hb dX6_buys_93 rfl (lv_at hl 0 rfl) ?_
          refine lv_aload_n hx hb dX6_buys_94 rfl (lv_at hl 0 rfl) ?_
          refine lv_iload_n hx hb dX6_buys_95 rfl (lv_at hl 1 rfl) ?_
          refine lv_iconst (v := nI 0) hx hb dX6_buys_96 (by decide) ?_
          refine run_i (S := Unit) (run_V (As := [.int (nI m0), .int (nI 0)]) (rest := [.ref (b 0)]) (bs := [moC E b z (up2 (up2 (up2 g 5 m0 ((g 5 m0) - (5 * t0))) 8 2 (g 8 2 + (5 * t0))) 0 m0 (g 0 m0 + t0)) gs ar]) (cb := [moC E b z (up2 (up2 (up2 g 5 m0 ((g 5 m0) - (5 * t0))) 8 2 (g 8 2 + (5 * t0))) 0 m0 (g 0 m0 + t0)) gs ar]) hx hb hml hown hts hK hZ hA (c_X6_of l E _ b z (up2 (up2 (up2 g 5 m0 ((g 5 m0) - (5 * t0))) 8 2 (g 8 2 + (5 * t0))) 0 m0 (g 0 m0 + t0)) gs ar  m0 0 (by omega) (by decide)) l_X6_65 rfl ⟨⟨rfl, rfl⟩, Nat.le_of_ble_eq_true rfl, Nat.le_of_ble_eq_true rfl⟩ 10 rfl [0] rfl (by decide) rfl hP hD hS hl.1 rfl (Nat.le_of_ble_eq_true rfl) dX6_buys_97 ⟨Nat.zero_le _, Nat.zero_le _⟩) hA hP hD hS (isC := [0]) rfl [] [0] (br := []) (bs2 := fun _ => [moC E b z (up2 (up2 (up2 g 5 m0 ((g 5 m0) - (5 * t0))) 8 2 (g 8 2 + (5 * t0))) 0 m0 (g 0 m0 + t0)) gs ar]) rfl (by decide) (fun _ => rfl) (by decide) (fun r u H locs hw hP hD hS => ?_)
          rw [show (up2 (up2 (up2 g 5 m0 ((g 5 m0) - (5 * t0))) 8 2 (g 8 2 + (5 * t0))) 0 m0 (g 0 m0 + t0)) 0 m0 = (g 0 m0 + t0) from up2_s] at hw
          subst hw
          refine run_i (S := Unit) (run_V (As := [.int (nI (g 0 m0 + t0))]) (rest := []) (bs := [moC E b z (up2 (up2 (up2 g 5 m0 ((g 5 m0) - (5 * t0))) 8 2 (g 8 2 + (5 * t0))) 0 m0 (g 0 m0 + t0)) gs ar]) (cb := [moC E b z (up2 (up2 (up2 g 5 m0 ((g 5 m0) - (5 * t0))) 8 2 (g 8 2 + (5 * t0))) 0 m0 (g 0 m0 + t0)) gs ar]) hx hb hml hown hts hK hZ hA (c_X6_done l E _ b z (up2 (up2 (up2 g 5 m0 ((g 5 m0) - (5 * t0))) 8 2 (g 8 2 + (5 * t0))) 0 m0 (g 0 m0 + t0)) gs ar  (g 0 m0 + t0) ) l_X6_89 rfl ⟨⟨rfl, rfl⟩, Nat.le_of_ble_eq_true rfl, Nat.le_of_ble_eq_true rfl⟩ 10 rfl [0] rfl (by decide) rfl hP hD hS hl.1 rfl (Nat.le_of_ble_eq_true rfl) dX6_buys_100 ⟨Nat.zero_le _, Nat.zero_le _⟩) hA hP hD hS (isC := [0]) rfl [] [0] (br := []) (bs2 := fun _ => [moC E b (upn z 7 (g 0 m0 + t0)) (up2 (up2 (up2 g 5 m0 ((g 5 m0) - (5 * t0))) 8 2 (g 8 2 + (5 * t0))) 0 m0 (g 0 m0 + t0)) gs ar]) rfl (by decide) (fun _ => rfl) (by decide) (fun r u H locs hw hP hD hS => ?_)
          subst hw
          have hf : fBuy g (nI m0) (nI t0) = 0 := (by simp only [fBuy, em0, et0, Int.toNat_natCast]; (repeat' split) <;> first | rfl | (exfalso; omega))
          have hmE : moC E b (upn z 7 (g 0 m0 + t0)) (up2 (up2 (up2 g 5 m0 ((g 5 m0) - (5 * t0))) 8 2 (g 8 2 + (5 * t0))) 0 m0 (g 0 m0 + t0)) gs ar = moC E b (if fBuy g (nI m0) (nI t0) = 0 then upn z 7 (g 0 (tn (nI m0)) + tn (nI t0)) else z) (if fBuy g (nI m0) (nI t0) = 0 then buyG g (tn (nI m0)) (tn (nI t0)) else g) gs ar := by rw [if_pos hf, if_pos hf, tn_nI hm0, tn_nI ht0]; unfold buyG; rw [Nat.mul_comm t0 5]
          rw [hmE] at hP hD; clear hmE
          exact hret _ _ (nI 0) () _ _ hP hD hS rfl (by rw [hf]) dX6_buys_103
        · skip
          refine lv_iconst (v := nI 4) hx hb dX6_buys_49 (by decide) ?_
          have hf : fBuy g (nI m0) (nI t0) = 4 := (by simp only [fBuy, em0, et0, Int.toNat_natCast]; (repeat' split) <;> first | rfl | (exfalso; omega))
          have hmE : moC E b z g gs ar = moC E b (if fBuy g (nI m0) (nI t0) = 0 then upn z 7 (g 0 (tn (nI m0)) + tn (nI t0)) else z) (if fBuy g (nI m0) (nI t0) = 0 then buyG g (tn (nI m0)) (tn (nI t0)) else g) gs ar := by rw [if_neg (by omega), if_neg (by omega)]
          rw [hmE] at hP hD; clear hmE
          exact hret _ _ (nI 4) () _ _ hP hD hS rfl (by rw [hf]) dX6_buys_50
      · skip
        refine lv_iconst (v := nI 3) hx hb dX6_buys_35 (by decide) ?_
        have hf : fBuy g (nI m0) (nI t0) = 3 := (by simp only [fBuy, em0, et0, Int.toNat_natCast]; (repeat' split) <;> first | rfl | (exfalso; omega))
        have hmE : moC E b z g gs ar = moC E b (if fBuy g (nI m0) (nI t0) = 0 then upn z 7 (g 0 (tn (nI m0)) + tn (nI t0)) else z) (if fBuy g (nI m0) (nI t0) = 0 then buyG g (tn (nI m0)) (tn (nI t0)) else g) gs ar := by rw [if_neg (by omega), if_neg (by omega)]
        rw [hmE] at hP hD; clear hmE
        exact hret _ _ (nI 3) () _ _ hP hD hS rfl (by rw [hf]) dX6_buys_36
    · skip
      have c_2 := of_decide_eq_false c_2
      refine lv_iconst (v := nI 2) hx hb dX6_buys_20 (by decide) ?_
      have hf : fBuy g p0 p1 = 2 := (by simp only [fBuy]; (repeat' split) <;> first | rfl | (exfalso; omega))
      have hmE : moC E b z g gs ar = moC E b (if fBuy g p0 p1 = 0 then upn z 7 (g 0 (tn p0) + tn p1) else z) (if fBuy g p0 p1 = 0 then buyG g (tn p0) (tn p1) else g) gs ar := by rw [if_neg (by omega), if_neg (by omega)]
      rw [hmE] at hP hD; clear hmE
      exact hret _ _ (nI 2) () _ _ hP hD hS rfl (by rw [hf]) dX6_buys_21
  · skip
    have c_1 := of_decide_eq_false c_1
    refine lv_iconst (v := nI 1) hx hb dX6_buys_8 (by decide) ?_
    have hf : fBuy g p0 p1 = 1 := (by simp only [fBuy]; (repeat' split) <;> first | rfl | (exfalso; omega))
    have hmE : moC E b z g gs ar = moC E b (if fBuy g p0 p1 = 0 then upn z 7 (g 0 (tn p0) + tn p1) else z) (if fBuy g p0 p1 = 0 then buyG g (tn p0) (tn p1) else g) gs ar := by rw [if_neg (by omega), if_neg (by omega)]
    rw [hmE] at hP hD; clear hmE
    exact hret _ _ (nI 1) () _ _ hP hD hS rfl (by rw [hf]) dX6_buys_9
abbrev rm_X6_passes : Room := { frames := 3, cells := 0, slots := 0, locals := 69 }
set_option maxHeartbeats 4000000 in
set_option maxRecDepth 100000 in
theorem c_X6_passes (l : Launch) (E : EE) (sz : Nat) (b : Nat → Nat) (z : Nat → Nat) (g : GG) (gs : Nat → GG) (ar : GG) (B : Nat) (hI : IB B g) (p0 : Int32) (hB : B + 60 ≤ 300000)  : MI l yX6_passes cX6_passes 4 .int rm_X6_passes [.ref (b 0), .int p0] E sz [moC E b z g gs ar] (fun (r : Int32) (_ : Unit) => r = nI (fPass p0 - 1)) (fun _ => [moC E b (if fPass p0 = 0 then upn z 7 (passN g (tn p0)) else z) (if fPass p0 = 0 then passG g (tn p0) else g) gs ar]) 0 0 := by
  refine mi_go (by decide) (Nat.le_of_ble_eq_true rfl) ?_
  intro p e s m below meth c A Q ls hx hb hml hown hts hK hZ hA hsz hP hD hl hret
  have hS : va_S A s.heap s.heap [] := va_S.rf
  have hl : lv_has ls 4 [(0, .ref (b 0)), (1, .int p0)] := hl
  skip
  have hmc := hI.mc
  have hbu := hI.bud
  refine lv_iload_n hx hb dX6_passes_0 rfl (lv_at hl 1 rfl) ?_
  refine lv_iconst (v := nI 1) hx hb dX6_passes_1 (by decide) ?_
  refine lv_bipush (v := nI 60) hx hb dX6_passes_2 (by decide) ?_
  refine run_i (S := Unit) (run_S (As := [.int p0, .int (nI 1), .int (nI 60)]) (rest := []) (bs := [moC E b z g gs ar]) (cb := []) hx hb hml hown hts hK hZ hA (c_X6_in l E _ p0 (nI 1) (nI 60) p0.toInt ((1 : Nat) : Int) ((60 : Nat) : Int) rfl (nI_toInt (by omega)) (nI_toInt (by omega))) l_X6_57 rfl ⟨⟨rfl, rfl⟩, Nat.le_of_ble_eq_true rfl, Nat.le_of_ble_eq_true rfl⟩ [] rfl (by decide) hP hD hS hl.1 rfl (Nat.le_of_ble_eq_true rfl) dX6_passes_4 ⟨Nat.zero_le _, Nat.zero_le _⟩) hA hP hD hS (isC := []) rfl [0] [0] (br := [moC E b z g gs ar]) (bs2 := fun _ => [moC E b z g gs ar]) rfl (by decide) (fun _ => rfl) (by decide) (fun r u H locs hw hP hD hS => ?_)
  subst hw
  refine bv_if_ne hx hb (tgt := 12) dX6_passes_7 (by decide) (fun c_1 => ?_) (fun c_1 => ?_)
  · skip
    have c_1 := of_decide_eq_true c_1
    obtain ⟨m0, hm0, rfl, em0⟩ := raw_n (x := p0) (by omega)
    refine lv_iconst (v := nI 0) hx hb dX6_passes_12 (by decide) ?_
    refine lv_istore_n (lv' := [(2, .int (nI 0)), (0, .ref (b 0)), (1, .int (nI m0))]) hx hb dX6_passes_13 rfl hl (by decide) rfl (fun ls hl => ?_)
    refine lv_iconst (v := nI 0) hx hb dX6_passes_14 (by decide) ?_
    refine lv_istore_n (lv' := [(3, .int (nI 0)), (2, .int (nI 0)), (0, .ref (b 0)), (1, .int (nI m0))]) hx hb dX6_passes_15 rfl hl (by decide) rfl (fun ls hl => ?_)
    have loop16 : ∀ (n : Nat) (i : Nat), (i ≤ m0) → m0 - i < n → ∀ (H : Heap) (locs : List Loc) (ls : Array Slot), va_P E.1 vwCl ([moC E b z (passG g i) gs ar] : List va_W).flatten H → va_D A ([moC E b z (passG g i) gs ar] : List va_W).flatten → va_S A s.heap H locs → lv_has ls 4 [(0, .ref (b 0)), (1, .int (nI m0)), (2, .int (nI (passN g i))), (3, .int (nI i))] → W p l e rm_X6_passes s m ([.ref (b 0), .int (nI m0)] : List Value).toArray below meth c H locs 0 0 Q (F0 m 16 ls []) := by
      intro n16
      induction n16 with
      | zero => intro i hi hn16; exact absurd hn16 (Nat.not_lt_zero _)
      | succ n16 ih16 =>
        intro i hi hn16 H locs ls hP hD hS hl
        refine lv_iload_n hx hb dX6_passes_16 rfl (lv_at hl 3 rfl) ?_
        refine lv_iload_n hx hb dX6_passes_17 rfl (lv_at hl 1 rfl) ?_
        refine nv_icmp_ge (X := ((i : Nat) : Int)) (Y := ((m0 : Nat) : Int)) hx hb (nI_toInt (by omega)) (nI_toInt (by omega)) (tgt := 34) dX6_passes_18 (by decide) (fun c_2 => ?_) (fun c_2 => ?_)
        · skip
          rw [show passN g i = passN g m0 from by rw [show i = m0 by omega]] at hl
          have hgE : (passG g i) = (passG g m0) := by rw [show i = m0 by omega]
          rw [hgE] at hP hD; clear hgE
          refine lv_aload_n hx hb dX6_passes_34 rfl (lv_at hl 0 rfl) ?_
          refine lv_iload_n hx hb dX6_passes_35 rfl (lv_at hl 2 rfl) ?_
          refine run_i (S := Unit) (run_V (As := [.int (nI (passN g m0))]) (rest := []) (bs := [moC E b z (passG g m0) gs ar]) (cb := [moC E b z (passG g m0) gs ar]) hx hb hml hown hts hK hZ hA (c_X6_done l E _ b z (passG g m0) gs ar  (passN g m0) ) l_X6_89 rfl ⟨⟨rfl, rfl⟩, Nat.le_of_ble_eq_true rfl, Nat.le_of_ble_eq_true rfl⟩ 10 rfl [0] rfl (by decide) rfl hP hD hS hl.1 rfl (Nat.le_of_ble_eq_true rfl) dX6_passes_36 ⟨Nat.zero_le _, Nat.zero_le _⟩) hA hP hD hS (isC := [0]) rfl [] [0] (br := []) (bs2 := fun _ => [moC E b (upn z 7 (passN g m0)) (passG g m0) gs ar]) rfl (by decide) (fun _ => rfl) (by decide) (fun r u H locs hw hP hD hS => ?_)
          subst hw
          have hf : fPass (nI m0) = 0 := (by simp only [fPass, em0, Int.toNat_natCast]; (repeat' split) <;> first | rfl | (exfalso; omega))
          have hmE : moC E b (upn z 7 (passN g m0)) (passG g m0) gs ar = moC E b (if fPass (nI m0) = 0 then upn z 7 (passN g (tn (nI m0))) else z) (if fPass (nI m0) = 0 then passG g (tn (nI m0)) else g) gs ar := by rw [if_pos hf, if_pos hf, tn_nI hm0]
          rw [hmE] at hP hD; clear hmE
          exact hret _ _ (nI 0) () _ _ hP hD hS rfl (by rw [hf]) dX6_passes_39
        · skip
          have hI2 := IB_pass hI (k := i) (by omega)
          have hps := passN_s g i
          refine lv_iload_n hx hb dX6_passes_21 rfl (lv_at hl 2 rfl) ?_
          refine lv_aload_n hx hb dX6_passes_22 rfl (lv_at hl 0 rfl) ?_
          refine run_i (S := Unit) (run_V (As := []) (rest := [.int (nI (passN g i))]) (bs := [moC E b z (passG g i) gs ar]) (cb := [moC E b z (passG g i) gs ar]) hx hb hml hown hts hK hZ hA (c_X6_oneBeat l E _ b z (passG g i) gs ar _ hI2  ) l_X6_96 rfl ⟨⟨rfl, rfl⟩, Nat.le_of_ble_eq_true rfl, Nat.le_of_ble_eq_true rfl⟩ 10 rfl [0] rfl (by decide) rfl hP hD hS hl.1 rfl (Nat.le_of_ble_eq_true rfl) dX6_passes_23 ⟨Nat.zero_le _, Nat.zero_le _⟩) hA hP hD hS (isC := [0]) rfl [] [0] (br := []) (bs2 := fun _ => [moC E b z (oneG (passG g i)) gs ar]) rfl (by decide) (fun _ => rfl) (by decide) (fun r u H locs hw hP hD hS => ?_)
          subst hw
          refine nv_iadd hx hb dX6_passes_26 ?_
          refine lv_istore_n (lv' := [(2, .int (nI (passN g i + (oneN (passG g i))))), (0, .ref (b 0)), (1, .int (nI m0)), (3, .int (nI i))]) hx hb dX6_passes_27 rfl hl (by decide) rfl (fun ls hl => ?_)
          rw [show passN g i + (oneN (passG g i)) = passN g (i + 1) from hps] at hl
          have hgE : (oneG (passG g i)) = (passG g (i + 1)) := rfl
          rw [hgE] at hP hD; clear hgE
          refine lv_iinc (v := nI (i + 1)) (lv' := [(3, .int (nI (i + 1))), (2, .int (nI (passN g (i + 1)))), (0, .ref (b 0)), (1, .int (nI m0))]) hx hb dX6_passes_28 hl (k := 3) rfl (nI_add i 1) (by decide) rfl (fun ls hl => ?_)
          refine lv_goto (tgt := 16) hx hb dX6_passes_31 (by decide) ?_
          exact ih16 (i + 1) (by omega) (by omega) _ _ _ hP hD hS (lv_sub hl [2, 3, 1, 0] rfl)
    have hl : lv_has ls 4 [(3, .int (nI 0)), (2, .int (nI (passN g 0))), (0, .ref (b 0)), (1, .int (nI m0))] := by rw [show passN g 0 = 0 from by unfold passN; exact Nat.sub_self _]; exact hl
    exact loop16 _ 0 (by omega) (Nat.lt_succ_self _) _ _ _ hP hD hS (lv_sub hl [2, 3, 1, 0] rfl)
  · skip
    have c_1 := of_decide_eq_false c_1
    refine lv_iconst (v := nI 1) hx hb dX6_passes_10 (by decide) ?_
    have hf : fPass p0 = 2 := (by simp only [fPass]; (repeat' split) <;> first | rfl | (exfalso; omega))
    have hmE : moC E b z g gs ar = moC E b (if fPass p0 = 0 then upn z 7 (passN g (tn p0)) else z) (if fPass p0 = 0 then passG g (tn p0) else g) gs ar := by rw [if_neg (by omega), if_neg (by omega)]
    rw [hmE] at hP hD; clear hmE
    exact hret _ _ (nI 1) () _ _ hP hD hS rfl (by rw [hf]) dX6_passes_11
abbrev rm_X6_pays : Room := { frames := 3, cells := 0, slots := 0, locals := 71 }
set_option maxHeartbeats 4000000 in
set_option maxRecDepth 100000 in
theorem c_X6_pays (l : Launch) (E : EE) (sz : Nat) (b : Nat → Nat) (z : Nat → Nat) (g : GG) (gs : Nat → GG) (ar : GG) (B : Nat) (hI : IB B g)  : MI l yX6_pays cX6_pays 3 .int rm_X6_pays [.ref (b 0)] E sz [moC E b z g gs ar] (fun (r : Int32) (_ : Unit) => r = nI (fPay g - 2)) (fun _ => [moC E b (if fPay g = 0 then upn z 7 (g 8 2) else z) (if fPay g = 0 then payG g else g) gs ar]) 0 0 := by
  refine mi_go (by decide) (Nat.le_of_ble_eq_true rfl) ?_
  intro p e s m below meth c A Q ls hx hb hml hown hts hK hZ hA hsz hP hD hl hret
  have hS : va_S A s.heap s.heap [] := va_S.rf
  have hl : lv_has ls 3 [(0, .ref (b 0))] := hl
  skip
  have hmc := hI.mc
  have hbu := hI.bud
  refine lv_aload_n hx hb dX6_pays_0 rfl (lv_at hl 0 rfl) ?_
  refine va_get (D := E.1) (ci := 10) (v := .ref (b 1)) (C := RX6) (T := TX6) (N := 20) hx hb hts inX6 hown hK hP 0 rfl rfl 1 (by decide) (hts _ q1435) (fun _ h9 => h9) rfl dX6_pays_1 ?_
  refine lv_iconst (v := nI 0) hx hb dX6_pays_4 (by decide) ?_
  refine nv_iald (f := (flat g)) (i := 0) (n := 74) hx hb hK hP 1 0 rfl rfl (by omega) (by decide) dX6_pays_5 ?_
  refine tp_i (show nI ((flat g) 0) = nI (g 8 0) from rfl) ?_
  refine nv_if_ne (X := ((g 8 0 : Nat) : Int)) hx hb (nI_toInt (by omega)) (tgt := 11) dX6_pays_6 (by decide) (fun c_1 => ?_) (fun c_1 => ?_)
  · skip
    refine lv_aload_n hx hb dX6_pays_11 rfl (lv_at hl 0 rfl) ?_
    refine va_get (D := E.1) (ci := 10) (v := .ref (b 1)) (C := RX6) (T := TX6) (N := 20) hx hb hts inX6 hown hK hP 0 rfl rfl 1 (by decide) (hts _ q1435) (fun _ h9 => h9) rfl dX6_pays_12 ?_
    refine lv_iconst (v := nI 2) hx hb dX6_pays_15 (by decide) ?_
    refine nv_iald (f := (flat g)) (i := 2) (n := 74) hx hb hK hP 1 0 rfl rfl (by omega) (by decide) dX6_pays_16 ?_
    refine tp_i (show nI ((flat g) 2) = nI (g 8 2) from rfl) ?_
    refine lv_istore_n (lv' := [(1, .int (nI (g 8 2))), (0, .ref (b 0))]) hx hb dX6_pays_17 rfl hl (by decide) rfl (fun ls hl => ?_)
    refine lv_iconst (v := nI 0) hx hb dX6_pays_18 (by decide) ?_
    refine lv_istore_n (lv' := [(2, .int (nI 0)), (1, .int (nI (g 8 2))), (0, .ref (b 0))]) hx hb dX6_pays_19 rfl hl (by decide) rfl (fun ls hl => ?_)
    have loop20 : ∀ (n : Nat) (i : Nat), (i ≤ g 8 0) → g 8 0 - i < n → ∀ (H : Heap) (locs : List Loc) (ls : Array Slot), va_P E.1 vwCl ([moC E b z (upr g 5 (fl (g 5) (fun m => g 5 m + dv g m) i)) gs ar] : List va_W).flatten H → va_D A ([moC E b z (upr g 5 (fl (g 5) (fun m => g 5 m + dv g m) i)) gs ar] : List va_W).flatten → va_S A s.heap H locs → lv_has ls 3 [(0, .ref (b 0)), (1, .int (nI (g 8 2))), (2, .int (nI i))] → W p l e rm_X6_pays s m ([.ref (b 0)] : List Value).toArray below meth c H locs 0 0 Q (F0 m 20 ls []) := by
      intro n20
      induction n20 with
      | zero => intro i hi hn20; exact absurd hn20 (Nat.not_lt_zero _)
      | succ n20 ih20 =>
        intro i hi hn20 H locs ls hP hD hS hl
        refine lv_iload_n hx hb dX6_pays_20 rfl (lv_at hl 2 rfl) ?_
        refine lv_aload_n hx hb dX6_pays_21 rfl (lv_at hl 0 rfl) ?_
        refine va_get (D := E.1) (ci := 10) (v := .ref (b 1)) (C := RX6) (T := TX6) (N := 20) hx hb hts inX6 hown hK hP 0 rfl rfl 1 (by decide) (hts _ q1435) (fun _ h9 => h9) rfl dX6_pays_22 ?_
        refine lv_iconst (v := nI 0) hx hb dX6_pays_25 (by decide) ?_
        refine nv_iald (f := (flat (upr g 5 (fl (g 5) (fun m => g 5 m + dv g m) i)))) (i := 0) (n := 74) hx hb hK hP 1 0 rfl rfl (by omega) (by decide) dX6_pays_26 ?_
        refine tp_i (show nI ((flat (upr g 5 (fl (g 5) (fun m => g 5 m + dv g m) i))) 0) = nI (g 8 0) from rfl) ?_
        refine nv_icmp_ge (X := ((i : Nat) : Int)) (Y := ((g 8 0 : Nat) : Int)) hx hb (nI_toInt (by omega)) (nI_toInt (by omega)) (tgt := 54) dX6_pays_27 (by decide) (fun c_2 => ?_) (fun c_2 => ?_)
        · skip
          have hgE : (upr g 5 (fl (g 5) (fun m => g 5 m + dv g m) i)) = (upr g 5 (fl (g 5) (fun m => g 5 m + dv g m) (g 8 0))) := by rw [show i = g 8 0 by omega]
          rw [hgE] at hP hD; clear hgE
          refine lv_aload_n hx hb dX6_pays_54 rfl (lv_at hl 0 rfl) ?_
          refine va_get (D := E.1) (ci := 10) (v := .ref (b 1)) (C := RX6) (T := TX6) (N := 20) hx hb hts inX6 hown hK hP 0 rfl rfl 1 (by decide) (hts _ q1435) (fun _ h9 => h9) rfl dX6_pays_55 ?_
          refine lv_iconst (v := nI 2) hx hb dX6_pays_58 (by decide) ?_
          refine lv_iconst (v := nI 0) hx hb dX6_pays_59 (by decide) ?_
          refine nv_iast (f := (flat (upr g 5 (fl (g 5) (fun m => g 5 m + dv g m) (g 8 0))))) (i := 2) (v := 0) (n := 74) hx hb hK hP hD hS 1 0 rfl rfl (by omega) (by decide) dX6_pays_60 (fun H locs hP hD hS => ?_)
          rw [flat_set8 (by decide)] at hP hD
          have hP : va_P E.1 vwCl ([moC E b z (up2 (upr g 5 (fl (g 5) (fun m => g 5 m + dv g m) (g 8 0))) 8 2 0) gs ar] : List va_W).flatten H := hP
          have hD : va_D A ([moC E b z (up2 (upr g 5 (fl (g 5) (fun m => g 5 m + dv g m) (g 8 0))) 8 2 0) gs ar] : List va_W).flatten := hD
          refine lv_aload_n hx hb dX6_pays_61 rfl (lv_at hl 0 rfl) ?_
          refine va_get (D := E.1) (ci := 10) (v := .ref (b 1)) (C := RX6) (T := TX6) (N := 20) hx hb hts inX6 hown hK hP 0 rfl rfl 1 (by decide) (hts _ q1435) (fun _ h9 => h9) rfl dX6_pays_62 ?_
          refine lv_iconst (v := nI 4) hx hb dX6_pays_65 (by decide) ?_
          refine lv_dup2_11 hx hb dX6_pays_66 rfl rfl ?_
          refine nv_iald (f := (flat (up2 (upr g 5 (fl (g 5) (fun m => g 5 m + dv g m) (g 8 0))) 8 2 0))) (i := 4) (n := 74) hx hb hK hP 1 0 rfl rfl (by omega) (by decide) dX6_pays_67 ?_
          refine tp_i (show nI ((flat (up2 (upr g 5 (fl (g 5) (fun m => g 5 m + dv g m) (g 8 0))) 8 2 0)) 4) = nI (g 8 4) from rfl) ?_
          refine lv_iconst (v := nI 1) hx hb dX6_pays_68 (by decide) ?_
          refine nv_iadd hx hb dX6_pays_69 ?_
          refine nv_iast (f := (flat (up2 (upr g 5 (fl (g 5) (fun m => g 5 m + dv g m) (g 8 0))) 8 2 0))) (i := 4) (v := g 8 4 + 1) (n := 74) hx hb hK hP hD hS 1 0 rfl rfl (by omega) (by decide) dX6_pays_70 (fun H locs hP hD hS => ?_)
          rw [flat_set8 (by decide)] at hP hD
          have hP : va_P E.1 vwCl ([moC E b z (up2 (up2 (upr g 5 (fl (g 5) (fun m => g 5 m + dv g m) (g 8 0))) 8 2 0) 8 4 (g 8 4 + 1)) gs ar] : List va_W).flatten H := hP
          have hD : va_D A ([moC E b z (up2 (up2 (upr g 5 (fl (g 5) (fun m => g 5 m + dv g m) (g 8 0))) 8 2 0) 8 4 (g 8 4 + 1)) gs ar] : List va_W).flatten := hD
          refine lv_aload_n hx hb dX6_pays_71 rfl (lv_at hl 0 rfl) ?_
          refine lv_iload_n hx hb dX6_pays_72 rfl (lv_at hl 1 rfl) ?_
          refine run_i (S := Unit) (run_V (As := [.int (nI (g 8 2))]) (rest := []) (bs := [moC E b z (up2 (up2 (upr g 5 (fl (g 5) (fun m => g 5 m + dv g m) (g 8 0))) 8 2 0) 8 4 (g 8 4 + 1)) gs ar]) (cb := [moC E b z (up2 (up2 (upr g 5 (fl (g 5) (fun m => g 5 m + dv g m) (g 8 0))) 8 2 0) 8 4 (g 8 4 + 1)) gs ar]) hx hb hml hown hts hK hZ hA (c_X6_done l E _ b z (up2 (up2 (upr g 5 (fl (g 5) (fun m => g 5 m + dv g m) (g 8 0))) 8 2 0) 8 4 (g 8 4 + 1)) gs ar  (g 8 2) ) l_X6_89 rfl ⟨⟨rfl, rfl⟩, Nat.le_of_ble_eq_true rfl, Nat.le_of_ble_eq_true rfl⟩ 10 rfl [0] rfl (by decide) rfl hP hD hS hl.1 rfl (Nat.le_of_ble_eq_true rfl) dX6_pays_73 ⟨Nat.zero_le _, Nat.zero_le _⟩) hA hP hD hS (isC := [0]) rfl [] [0] (br := []) (bs2 := fun _ => [moC E b (upn z 7 (g 8 2)) (up2 (up2 (upr g 5 (fl (g 5) (fun m => g 5 m + dv g m) (g 8 0))) 8 2 0) 8 4 (g 8 4 + 1)) gs ar]) rfl (by decide) (fun _ => rfl) (by decide) (fun r u H locs hw hP hD hS => ?_)
          subst hw
          have hf : fPay g = 0 := (by simp only [fPay]; (repeat' split) <;> first | rfl | (exfalso; omega))
          have hmE : moC E b (upn z 7 (g 8 2)) (up2 (up2 (upr g 5 (fl (g 5) (fun m => g 5 m + dv g m) (g 8 0))) 8 2 0) 8 4 (g 8 4 + 1)) gs ar = moC E b (if fPay g = 0 then upn z 7 (g 8 2) else z) (if fPay g = 0 then payG g else g) gs ar := by rw [if_pos hf, if_pos hf]; rfl
          rw [hmE] at hP hD; clear hmE
          exact hret _ _ (nI 0) () _ _ hP hD hS rfl (by rw [hf]) dX6_pays_76
        · skip
          have hCi : IC (upr g 5 (fl (g 5) (fun m => g 5 m + dv g m) i)) := hI.ic
          have hfa : (fl (g 5) (fun m => g 5 m + dv g m) i) i = g 5 i := fl_at
          have hst : (fl (g 5) (fun m => g 5 m + dv g m) i) i + dv (upr g 5 (fl (g 5) (fun m => g 5 m + dv g m) i)) i = (fun m => g 5 m + dv g m) i := by rw [hfa]; rfl
          refine lv_aload_n hx hb dX6_pays_30 rfl (lv_at hl 0 rfl) ?_
          refine lv_iload_n hx hb dX6_pays_31 rfl (lv_at hl 2 rfl) ?_
          refine lv_iconst (v := nI 5) hx hb dX6_pays_32 (by decide) ?_
          refine lv_aload_n hx hb dX6_pays_33 rfl (lv_at hl 0 rfl) ?_
          refine lv_iload_n hx hb dX6_pays_34 rfl (lv_at hl 2 rfl) ?_
          refine lv_iconst (v := nI 5) hx hb dX6_pays_35 (by decide) ?_
          refine run_i (S := Unit) (run_V (As := [.int (nI i), .int (nI 5)]) (rest := [.int (nI 5), .int (nI i), .ref (b 0)]) (bs := [moC E b z (upr g 5 (fl (g 5) (fun m => g 5 m + dv g m) i)) gs ar]) (cb := [moC E b z (upr g 5 (fl (g 5) (fun m => g 5 m + dv g m) i)) gs ar]) hx hb hml hown hts hK hZ hA (c_X6_of l E _ b z (upr g 5 (fl (g 5) (fun m => g 5 m + dv g m) i)) gs ar  i 5 (by omega) (by decide)) l_X6_65 rfl ⟨⟨rfl, rfl⟩, Nat.le_of_ble_eq_true rfl, Nat.le_of_ble_eq_true rfl⟩ 10 rfl [0] rfl (by decide) rfl hP hD hS hl.1 rfl (Nat.le_of_ble_eq_true rfl) dX6_pays_36 ⟨Nat.zero_le _, Nat.zero_le _⟩) hA hP hD hS (isC := [0]) rfl [] [0] (br := []) (bs2 := fun _ => [moC E b z (upr g 5 (fl (g 5) (fun m => g 5 m + dv g m) i)) gs ar]) rfl (by decide) (fun _ => rfl) (by decide) (fun r u H locs hw hP hD hS => ?_)
          rw [show (upr g 5 (fl (g 5) (fun m => g 5 m + dv g m) i)) 5 i = (fl (g 5) (fun m => g 5 m + dv g m) i) i from rfl] at hw
          subst hw
          refine lv_aload_n hx hb dX6_pays_39 rfl (lv_at hl 0 rfl) ?_
          refine lv_iload_n hx hb dX6_pays_40 rfl (lv_at hl 2 rfl) ?_
          refine run_i (S := Unit) (run_V (As := [.int (nI i)]) (rest := [.int (nI ((fl (g 5) (fun m => g 5 m + dv g m) i) i)), .int (nI 5), .int (nI i), .ref (b 0)]) (bs := [moC E b z (upr g 5 (fl (g 5) (fun m => g 5 m + dv g m) i)) gs ar]) (cb := [moC E b z (upr g 5 (fl (g 5) (fun m => g 5 m + dv g m) i)) gs ar]) hx hb hml hown hts hK hZ hA (c_X6_due l E _ b z (upr g 5 (fl (g 5) (fun m => g 5 m + dv g m) i)) gs ar hCi i (show i < g 8 0 by omega)) l_X6_99 rfl ⟨⟨rfl, rfl⟩, Nat.le_of_ble_eq_true rfl, Nat.le_of_ble_eq_true rfl⟩ 10 rfl [0] rfl (by decide) rfl hP hD hS hl.1 rfl (Nat.le_of_ble_eq_true rfl) dX6_pays_41 ⟨Nat.zero_le _, Nat.zero_le _⟩) hA hP hD hS (isC := [0]) rfl [] [0] (br := []) (bs2 := fun _ => [moC E b z (upr g 5 (fl (g 5) (fun m => g 5 m + dv g m) i)) gs ar]) rfl (by decide) (fun _ => rfl) (by decide) (fun r u H locs hw hP hD hS => ?_)
          subst hw
          refine nv_iadd hx hb dX6_pays_44 ?_
          refine run_v (S := Unit) (run_V (As := [.int (nI i), .int (nI 5), .int (nI ((fl (g 5) (fun m => g 5 m + dv g m) i) i + (dv (upr g 5 (fl (g 5) (fun m => g 5 m + dv g m) i)) i)))]) (rest := []) (bs := [moC E b z (upr g 5 (fl (g 5) (fun m => g 5 m + dv g m) i)) gs ar]) (cb := [moC E b z (upr g 5 (fl (g 5) (fun m => g 5 m + dv g m) i)) gs ar]) hx hb hml hown hts hK hZ hA (c_X6_sets l E _ b z (upr g 5 (fl (g 5) (fun m => g 5 m + dv g m) i)) gs ar  i 5 ((fl (g 5) (fun m => g 5 m + dv g m) i) i + (dv (upr g 5 (fl (g 5) (fun m => g 5 m + dv g m) i)) i)) (by omega) (by decide)) l_X6_76 rfl ⟨⟨rfl, rfl⟩, Nat.le_of_ble_eq_true rfl, Nat.le_of_ble_eq_true rfl⟩ 10 rfl [0] rfl (by decide) rfl hP hD hS hl.1 rfl (Nat.le_of_ble_eq_true rfl) dX6_pays_45 ⟨Nat.zero_le _, Nat.zero_le _⟩) hA hP hD hS (isC := [0]) rfl [] [0] (br := []) (bs2 := fun _ => [moC E b z (up2 (upr g 5 (fl (g 5) (fun m => g 5 m + dv g m) i)) 5 i ((fl (g 5) (fun m => g 5 m + dv g m) i) i + (dv (upr g 5 (fl (g 5) (fun m => g 5 m + dv g m) i)) i))) gs ar]) rfl (by decide) (fun _ => rfl) (by decide) (fun u H locs hw hP hD hS => ?_)
          have hgE : (up2 (upr g 5 (fl (g 5) (fun m => g 5 m + dv g m) i)) 5 i ((fl (g 5) (fun m => g 5 m + dv g m) i) i + (dv (upr g 5 (fl (g 5) (fun m => g 5 m + dv g m) i)) i))) = (upr g 5 (fl (g 5) (fun m => g 5 m + dv g m) (i + 1))) := upr_up2.trans (by rw [fl_step (h := fun m => g 5 m + dv g m) (k := i) hst])
          rw [hgE] at hP hD; clear hgE
          refine lv_iinc (v := nI (i + 1)) (lv' := [(2, .int (nI (i + 1))), (0, .ref (b 0)), (1, .int (nI (g 8 2)))]) hx hb dX6_pays_48 hl (k := 2) rfl (nI_add i 1) (by decide) rfl (fun ls hl => ?_)
          refine lv_goto (tgt := 20) hx hb dX6_pays_51 (by decide) ?_
          exact ih20 (i + 1) (by omega) (by omega) _ _ _ hP hD hS (lv_sub hl [1, 2, 0] rfl)
    rw [show g = upr g 5 (fl (g 5) (fun m => g 5 m + dv g m) 0) from by rw [fl_0]; exact (upr_id (g := g) (w := 5)).symm] at hP hD
    exact loop20 _ 0 (by omega) (Nat.lt_succ_self _) _ _ _ hP hD hS (lv_sub hl [2, 1, 0] rfl)
  · skip
    refine lv_iconst (v := nI 1) hx hb dX6_pays_9 (by decide) ?_
    have hf : fPay g = 3 := (by simp only [fPay]; (repeat' split) <;> first | rfl | (exfalso; omega))
    have hmE : moC E b z g gs ar = moC E b (if fPay g = 0 then upn z 7 (g 8 2) else z) (if fPay g = 0 then payG g else g) gs ar := by rw [if_neg (by omega), if_neg (by omega)]
    rw [hmE] at hP hD; clear hmE
    exact hret _ _ (nI 1) () _ _ hP hD hS rfl (by rw [hf]) dX6_pays_10
abbrev rm_X6_votes : Room := { frames := 3, cells := 0, slots := 0, locals := 64 }
set_option maxHeartbeats 4000000 in
set_option maxRecDepth 100000 in
theorem c_X6_votes (l : Launch) (E : EE) (sz : Nat) (b : Nat → Nat) (z : Nat → Nat) (g : GG) (gs : Nat → GG) (ar : GG) (B : Nat) (hI : IB B g) (p0 p1 : Int32)  : MI l yX6_votes cX6_votes 4 .int rm_X6_votes [.ref (b 0), .int p0, .int p1] E sz [moC E b z g gs ar] (fun (r : Int32) (_ : Unit) => r = nI (fMot p0 p1 - 1)) (fun _ => [moC E b (if fMot p0 p1 = 0 then upn z 7 (aVot g (tn p0) (tn p1)) else z) (if fMot p0 p1 = 0 then voteG g (tn p0) (tn p1) else g) gs ar]) 0 0 := by
  refine mi_go (by decide) (Nat.le_of_ble_eq_true rfl) ?_
  intro p e s m below meth c A Q ls hx hb hml hown hts hK hZ hA hsz hP hD hl hret
  have hS : va_S A s.heap s.heap [] := va_S.rf
  have hl : lv_has ls 4 [(0, .ref (b 0)), (1, .int p0), (2, .int p1)] := hl
  skip
  have hmc := hI.mc
  have hbu := hI.bud
  refine lv_iload_n hx hb dX6_votes_0 rfl (lv_at hl 1 rfl) ?_
  refine lv_iconst (v := nI 0) hx hb dX6_votes_1 (by decide) ?_
  refine lv_bipush (v := nI 11) hx hb dX6_votes_2 (by decide) ?_
  refine run_i (S := Unit) (run_S (As := [.int p0, .int (nI 0), .int (nI 11)]) (rest := []) (bs := [moC E b z g gs ar]) (cb := []) hx hb hml hown hts hK hZ hA (c_X6_in l E _ p0 (nI 0) (nI 11) p0.toInt ((0 : Nat) : Int) ((11 : Nat) : Int) rfl (nI_toInt (by omega)) (nI_toInt (by omega))) l_X6_57 rfl ⟨⟨rfl, rfl⟩, Nat.le_of_ble_eq_true rfl, Nat.le_of_ble_eq_true rfl⟩ [] rfl (by decide) hP hD hS hl.1 rfl (Nat.le_of_ble_eq_true rfl) dX6_votes_4 ⟨Nat.zero_le _, Nat.zero_le _⟩) hA hP hD hS (isC := []) rfl [0] [0] (br := [moC E b z g gs ar]) (bs2 := fun _ => [moC E b z g gs ar]) rfl (by decide) (fun _ => rfl) (by decide) (fun r u H locs hw hP hD hS => ?_)
  subst hw
  refine bv_if_eq hx hb (tgt := 20) dX6_votes_7 (by decide) (fun c_1 => ?_) (fun c_1 => ?_)
  · skip
    have c_1 := of_decide_eq_false c_1
    refine lv_iconst (v := nI 1) hx hb dX6_votes_20 (by decide) ?_
    have hf : fMot p0 p1 = 2 := (by simp only [fMot]; (repeat' split) <;> first | rfl | (exfalso; omega))
    have hmE : moC E b z g gs ar = moC E b (if fMot p0 p1 = 0 then upn z 7 (aVot g (tn p0) (tn p1)) else z) (if fMot p0 p1 = 0 then voteG g (tn p0) (tn p1) else g) gs ar := by rw [if_neg (by omega), if_neg (by omega)]
    rw [hmE] at hP hD; clear hmE
    exact hret _ _ (nI 1) () _ _ hP hD hS rfl (by rw [hf]) dX6_votes_21
  · skip
    have c_1 := of_decide_eq_true c_1
    refine lv_iload_n hx hb dX6_votes_10 rfl (lv_at hl 2 rfl) ?_
    refine lv_iconst (v := nI 0) hx hb dX6_votes_11 (by decide) ?_
    refine lv_bipush (v := nI 6) hx hb dX6_votes_12 (by decide) ?_
    refine run_i (S := Unit) (run_S (As := [.int p1, .int (nI 0), .int (nI 6)]) (rest := []) (bs := [moC E b z g gs ar]) (cb := []) hx hb hml hown hts hK hZ hA (c_X6_in l E _ p1 (nI 0) (nI 6) p1.toInt ((0 : Nat) : Int) ((6 : Nat) : Int) rfl (nI_toInt (by omega)) (nI_toInt (by omega))) l_X6_57 rfl ⟨⟨rfl, rfl⟩, Nat.le_of_ble_eq_true rfl, Nat.le_of_ble_eq_true rfl⟩ [] rfl (by decide) hP hD hS hl.1 rfl (Nat.le_of_ble_eq_true rfl) dX6_votes_14 ⟨Nat.zero_le _, Nat.zero_le _⟩) hA hP hD hS (isC := []) rfl [0] [0] (br := [moC E b z g gs ar]) (bs2 := fun _ => [moC E b z g gs ar]) rfl (by decide) (fun _ => rfl) (by decide) (fun r u H locs hw hP hD hS => ?_)
    subst hw
    refine bv_if_ne hx hb (tgt := 22) dX6_votes_17 (by decide) (fun c_2 => ?_) (fun c_2 => ?_)
    · skip
      have c_2 := of_decide_eq_true c_2
      obtain ⟨m0, hm0, rfl, em0⟩ := raw_n (x := p0) (by omega)
      obtain ⟨t0, ht0, rfl, et0⟩ := raw_n (x := p1) (by omega)
      have hfv : favN g m0 t0 ≤ 50 * g 8 0 := fav_le hI (Nat.le_refl _)
      have hsh : allSh g ≤ 50 * g 8 0 := hI.shs (Nat.le_refl _)
      have hqu : quo g = allSh g / 2 + 1 := rfl
      refine lv_aload_n hx hb dX6_votes_22 rfl (lv_at hl 0 rfl) ?_
      refine lv_iload_n hx hb dX6_votes_23 rfl (lv_at hl 1 rfl) ?_
      refine lv_iload_n hx hb dX6_votes_24 rfl (lv_at hl 2 rfl) ?_
      refine run_i (S := Unit) (run_V (As := [.int (nI m0), .int (nI t0)]) (rest := []) (bs := [moC E b z g gs ar]) (cb := [moC E b z g gs ar]) hx hb hml hown hts hK hZ hA (c_X6_favour l E _ b z g gs ar _ hI m0 t0 (by omega) (by omega)) l_X6_102 rfl ⟨⟨rfl, rfl⟩, Nat.le_of_ble_eq_true rfl, Nat.le_of_ble_eq_true rfl⟩ 10 rfl [0] rfl (by decide) rfl hP hD hS hl.1 rfl (Nat.le_of_ble_eq_true rfl) dX6_votes_25 ⟨Nat.zero_le _, Nat.zero_le _⟩) hA hP hD hS (isC := [0]) rfl [] [0] (br := []) (bs2 := fun _ => [moC E b z g gs ar]) rfl (by decide) (fun _ => rfl) (by decide) (fun r u H locs hw hP hD hS => ?_)
      subst hw
      refine lv_aload_n hx hb dX6_votes_28 rfl (lv_at hl 0 rfl) ?_
      refine run_i (S := Unit) (run_V (As := []) (rest := [.int (nI (favN g m0 t0))]) (bs := [moC E b z g gs ar]) (cb := [moC E b z g gs ar]) hx hb hml hown hts hK hZ hA (c_X6_most l E _ b z g gs ar _ hI  ) l_X6_86 rfl ⟨⟨rfl, rfl⟩, Nat.le_of_ble_eq_true rfl, Nat.le_of_ble_eq_true rfl⟩ 10 rfl [0] rfl (by decide) rfl hP hD hS hl.1 rfl (Nat.le_of_ble_eq_true rfl) dX6_votes_29 ⟨Nat.zero_le _, Nat.zero_le _⟩) hA hP hD hS (isC := [0]) rfl [] [0] (br := []) (bs2 := fun _ => [moC E b z g gs ar]) rfl (by decide) (fun _ => rfl) (by decide) (fun r u H locs hw hP hD hS => ?_)
      subst hw
      refine nv_icmp_ge (X := ((favN g m0 t0 : Nat) : Int)) (Y := ((quo g : Nat) : Int)) hx hb (nI_toInt (by omega)) (nI_toInt (by omega)) (tgt := 41) dX6_votes_32 (by decide) (fun c_3 => ?_) (fun c_3 => ?_)
      · skip
        have hca := c_3
        refine lv_aload_n hx hb dX6_votes_41 rfl (lv_at hl 0 rfl) ?_
        refine va_get (D := E.1) (ci := 10) (v := .ref (b 1)) (C := RX6) (T := TX6) (N := 20) hx hb hts inX6 hown hK hP 0 rfl rfl 1 (by decide) (hts _ q1435) (fun _ h9 => h9) rfl dX6_votes_42 ?_
        refine lv_iconst (v := nI 3) hx hb dX6_votes_45 (by decide) ?_
        refine lv_iload_n hx hb dX6_votes_46 rfl (lv_at hl 1 rfl) ?_
        refine nv_iast (f := (flat g)) (i := 3) (v := m0) (n := 74) hx hb hK hP hD hS 1 0 rfl rfl (by omega) (by decide) dX6_votes_47 (fun H locs hP hD hS => ?_)
        rw [flat_set8 (by decide)] at hP hD
        have hP : va_P E.1 vwCl ([moC E b z (up2 g 8 3 m0) gs ar] : List va_W).flatten H := hP
        have hD : va_D A ([moC E b z (up2 g 8 3 m0) gs ar] : List va_W).flatten := hD
        refine lv_iconst (v := nI 0) hx hb dX6_votes_48 (by decide) ?_
        refine lv_istore_n (lv' := [(3, .int (nI 0)), (0, .ref (b 0)), (1, .int (nI m0)), (2, .int (nI t0))]) hx hb dX6_votes_49 rfl hl (by decide) rfl (fun ls hl => ?_)
        have loop50 : ∀ (n : Nat) (i : Nat), (i ≤ g 8 0) → g 8 0 - i < n → ∀ (H : Heap) (locs : List Loc) (ls : Array Slot), va_P E.1 vwCl ([moC E b z (upr (up2 g 8 3 m0) 6 (fl (g 6) (disN g m0 t0) i)) gs ar] : List va_W).flatten H → va_D A ([moC E b z (upr (up2 g 8 3 m0) 6 (fl (g 6) (disN g m0 t0) i)) gs ar] : List va_W).flatten → va_S A s.heap H locs → lv_has ls 4 [(0, .ref (b 0)), (1, .int (nI m0)), (2, .int (nI t0)), (3, .int (nI i))] → W p l e rm_X6_votes s m ([.ref (b 0), .int (nI m0), .int (nI t0)] : List Value).toArray below meth c H locs 0 0 Q (F0 m 50 ls []) := by
          intro n50
          induction n50 with
          | zero => intro i hi hn50; exact absurd hn50 (Nat.not_lt_zero _)
          | succ n50 ih50 =>
            intro i hi hn50 H locs ls hP hD hS hl
            refine lv_iload_n hx hb dX6_votes_50 rfl (lv_at hl 3 rfl) ?_
            refine lv_aload_n hx hb dX6_votes_51 rfl (lv_at hl 0 rfl) ?_
            refine va_get (D := E.1) (ci := 10) (v := .ref (b 1)) (C := RX6) (T := TX6) (N := 20) hx hb hts inX6 hown hK hP 0 rfl rfl 1 (by decide) (hts _ q1435) (fun _ h9 => h9) rfl dX6_votes_52 ?_
            refine lv_iconst (v := nI 0) hx hb dX6_votes_55 (by decide) ?_
            refine nv_iald (f := (flat (upr (up2 g 8 3 m0) 6 (fl (g 6) (disN g m0 t0) i)))) (i := 0) (n := 74) hx hb hK hP 1 0 rfl rfl (by omega) (by decide) dX6_votes_56 ?_
            refine tp_i (show nI ((flat (upr (up2 g 8 3 m0) 6 (fl (g 6) (disN g m0 t0) i))) 0) = nI (g 8 0) from rfl) ?_
            refine nv_icmp_ge (X := ((i : Nat) : Int)) (Y := ((g 8 0 : Nat) : Int)) hx hb (nI_toInt (by omega)) (nI_toInt (by omega)) (tgt := 100) dX6_votes_57 (by decide) (fun c_4 => ?_) (fun c_4 => ?_)
            · skip
              have hgE : (upr (up2 g 8 3 m0) 6 (fl (g 6) (disN g m0 t0) i)) = (upr (up2 g 8 3 m0) 6 (fl (g 6) (disN g m0 t0) (g 8 0))) := by rw [show i = g 8 0 by omega]
              rw [hgE] at hP hD; clear hgE
              refine lv_aload_n hx hb dX6_votes_100 rfl (lv_at hl 0 rfl) ?_
              refine lv_iconst (v := nI 1) hx hb dX6_votes_101 (by decide) ?_
              refine run_i (S := Unit) (run_V (As := [.int (nI 1)]) (rest := []) (bs := [moC E b z (upr (up2 g 8 3 m0) 6 (fl (g 6) (disN g m0 t0) (g 8 0))) gs ar]) (cb := [moC E b z (upr (up2 g 8 3 m0) 6 (fl (g 6) (disN g m0 t0) (g 8 0))) gs ar]) hx hb hml hown hts hK hZ hA (c_X6_done l E _ b z (upr (up2 g 8 3 m0) 6 (fl (g 6) (disN g m0 t0) (g 8 0))) gs ar  1 ) l_X6_89 rfl ⟨⟨rfl, rfl⟩, Nat.le_of_ble_eq_true rfl, Nat.le_of_ble_eq_true rfl⟩ 10 rfl [0] rfl (by decide) rfl hP hD hS hl.1 rfl (Nat.le_of_ble_eq_true rfl) dX6_votes_102 ⟨Nat.zero_le _, Nat.zero_le _⟩) hA hP hD hS (isC := [0]) rfl [] [0] (br := []) (bs2 := fun _ => [moC E b (upn z 7 1) (upr (up2 g 8 3 m0) 6 (fl (g 6) (disN g m0 t0) (g 8 0))) gs ar]) rfl (by decide) (fun _ => rfl) (by decide) (fun r u H locs hw hP hD hS => ?_)
              subst hw
              have hf : fMot (nI m0) (nI t0) = 0 := (by simp only [fMot, em0, et0, Int.toNat_natCast]; (repeat' split) <;> first | rfl | (exfalso; omega))
              have hmE : moC E b (upn z 7 1) (upr (up2 g 8 3 m0) 6 (fl (g 6) (disN g m0 t0) (g 8 0))) gs ar = moC E b (if fMot (nI m0) (nI t0) = 0 then upn z 7 (aVot g (tn (nI m0)) (tn (nI t0))) else z) (if fMot (nI m0) (nI t0) = 0 then voteG g (tn (nI m0)) (tn (nI t0)) else g) gs ar := by rw [if_pos hf, if_pos hf, tn_nI hm0, tn_nI ht0]; unfold voteG aVot; (first | rw [if_pos (by omega), if_pos (by omega)] | rw [if_neg (by omega), if_neg (by omega)])
              rw [hmE] at hP hD; clear hmE
              exact hret _ _ (nI 0) () _ _ hP hD hS rfl (by rw [hf]) dX6_votes_105
            · skip
              have hmb := hI.mem (m := i) (by omega)
              have hq3 : g 3 i ≤ 11 := hmb.2.2.1
              have hap := ap_le (y := m0) hq3 (by omega)
              have hfa : fl (g 6) (disN g m0 t0) i i = g 6 i := fl_at
              refine lv_aload_n hx hb dX6_votes_60 rfl (lv_at hl 0 rfl) ?_
              refine lv_iload_n hx hb dX6_votes_61 rfl (lv_at hl 3 rfl) ?_
              refine lv_bipush (v := nI 6) hx hb dX6_votes_62 (by decide) ?_
              refine lv_aload_n hx hb dX6_votes_64 rfl (lv_at hl 0 rfl) ?_
              refine lv_iload_n hx hb dX6_votes_65 rfl (lv_at hl 3 rfl) ?_
              refine lv_bipush (v := nI 6) hx hb dX6_votes_66 (by decide) ?_
              refine run_i (S := Unit) (run_V (As := [.int (nI i), .int (nI 6)]) (rest := [.int (nI 6), .int (nI i), .ref (b 0)]) (bs := [moC E b z (upr (up2 g 8 3 m0) 6 (fl (g 6) (disN g m0 t0) i)) gs ar]) (cb := [moC E b z (upr (up2 g 8 3 m0) 6 (fl (g 6) (disN g m0 t0) i)) gs ar]) hx hb hml hown hts hK hZ hA (c_X6_of l E _ b z (upr (up2 g 8 3 m0) 6 (fl (g 6) (disN g m0 t0) i)) gs ar  i 6 (by omega) (by decide)) l_X6_65 rfl ⟨⟨rfl, rfl⟩, Nat.le_of_ble_eq_true rfl, Nat.le_of_ble_eq_true rfl⟩ 10 rfl [0] rfl (by decide) rfl hP hD hS hl.1 rfl (Nat.le_of_ble_eq_true rfl) dX6_votes_68 ⟨Nat.zero_le _, Nat.zero_le _⟩) hA hP hD hS (isC := [0]) rfl [] [0] (br := []) (bs2 := fun _ => [moC E b z (upr (up2 g 8 3 m0) 6 (fl (g 6) (disN g m0 t0) i)) gs ar]) rfl (by decide) (fun _ => rfl) (by decide) (fun r u H locs hw hP hD hS => ?_)
              rw [show (upr (up2 g 8 3 m0) 6 (fl (g 6) (disN g m0 t0) i)) 6 i = (fl (g 6) (disN g m0 t0) i) i from rfl] at hw
              subst hw
              refine lv_aload_n hx hb dX6_votes_71 rfl (lv_at hl 0 rfl) ?_
              refine lv_iload_n hx hb dX6_votes_72 rfl (lv_at hl 3 rfl) ?_
              refine lv_iconst (v := nI 3) hx hb dX6_votes_73 (by decide) ?_
              refine run_i (S := Unit) (run_V (As := [.int (nI i), .int (nI 3)]) (rest := [.int (nI ((fl (g 6) (disN g m0 t0) i) i)), .int (nI 6), .int (nI i), .ref (b 0)]) (bs := [moC E b z (upr (up2 g 8 3 m0) 6 (fl (g 6) (disN g m0 t0) i)) gs ar]) (cb := [moC E b z (upr (up2 g 8 3 m0) 6 (fl (g 6) (disN g m0 t0) i)) gs ar]) hx hb hml hown hts hK hZ hA (c_X6_of l E _ b z (upr (up2 g 8 3 m0) 6 (fl (g 6) (disN g m0 t0) i)) gs ar  i 3 (by omega) (by decide)) l_X6_65 rfl ⟨⟨rfl, rfl⟩, Nat.le_of_ble_eq_true rfl, Nat.le_of_ble_eq_true rfl⟩ 10 rfl [0] rfl (by decide) rfl hP hD hS hl.1 rfl (Nat.le_of_ble_eq_true rfl) dX6_votes_74 ⟨Nat.zero_le _, Nat.zero_le _⟩) hA hP hD hS (isC := [0]) rfl [] [0] (br := []) (bs2 := fun _ => [moC E b z (upr (up2 g 8 3 m0) 6 (fl (g 6) (disN g m0 t0) i)) gs ar]) rfl (by decide) (fun _ => rfl) (by decide) (fun r u H locs hw hP hD hS => ?_)
              rw [show (upr (up2 g 8 3 m0) 6 (fl (g 6) (disN g m0 t0) i)) 3 i = g 3 i from rfl] at hw
              subst hw
              refine lv_iload_n hx hb dX6_votes_77 rfl (lv_at hl 1 rfl) ?_
              refine run_i (S := Unit) (run_S (As := [.int (nI (g 3 i)), .int (nI m0)]) (rest := [.int (nI ((fl (g 6) (disN g m0 t0) i) i)), .int (nI 6), .int (nI i), .ref (b 0)]) (bs := [moC E b z (upr (up2 g 8 3 m0) 6 (fl (g 6) (disN g m0 t0) i)) gs ar]) (cb := []) hx hb hml hown hts hK hZ hA (c_X6_apart l E _ (g 3 i) m0 (by omega) (by omega)) l_X6_61 rfl ⟨⟨rfl, rfl⟩, Nat.le_of_ble_eq_true rfl, Nat.le_of_ble_eq_true rfl⟩ [] rfl (by decide) hP hD hS hl.1 rfl (Nat.le_of_ble_eq_true rfl) dX6_votes_78 ⟨Nat.zero_le _, Nat.zero_le _⟩) hA hP hD hS (isC := []) rfl [0] [0] (br := [moC E b z (upr (up2 g 8 3 m0) 6 (fl (g 6) (disN g m0 t0) i)) gs ar]) (bs2 := fun _ => [moC E b z (upr (up2 g 8 3 m0) 6 (fl (g 6) (disN g m0 t0) i)) gs ar]) rfl (by decide) (fun _ => rfl) (by decide) (fun r u H locs hw hP hD hS => ?_)
              subst hw
              refine lv_iload_n hx hb dX6_votes_81 rfl (lv_at hl 2 rfl) ?_
              refine nv_icmp_gt (X := ((ap (g 3 i) m0 : Nat) : Int)) (Y := ((t0 : Nat) : Int)) hx hb (nI_toInt (by omega)) (nI_toInt (by omega)) (tgt := 89) dX6_votes_82 (by decide) (fun c_5 => ?_) (fun c_5 => ?_)
              · skip
                have hdn : g 6 i + 1 = disN g m0 t0 i := (if_neg (by rw [show inF g i m0 t0 = false from decide_eq_false (by omega)]; decide)).symm
                refine lv_iconst (v := nI 1) hx hb dX6_votes_89 (by decide) ?_
                refine nv_iadd hx hb dX6_votes_90 ?_
                refine run_v (S := Unit) (run_V (As := [.int (nI i), .int (nI 6), .int (nI ((fl (g 6) (disN g m0 t0) i) i + 1))]) (rest := []) (bs := [moC E b z (upr (up2 g 8 3 m0) 6 (fl (g 6) (disN g m0 t0) i)) gs ar]) (cb := [moC E b z (upr (up2 g 8 3 m0) 6 (fl (g 6) (disN g m0 t0) i)) gs ar]) hx hb hml hown hts hK hZ hA (c_X6_sets l E _ b z (upr (up2 g 8 3 m0) 6 (fl (g 6) (disN g m0 t0) i)) gs ar  i 6 ((fl (g 6) (disN g m0 t0) i) i + 1) (by omega) (by decide)) l_X6_76 rfl ⟨⟨rfl, rfl⟩, Nat.le_of_ble_eq_true rfl, Nat.le_of_ble_eq_true rfl⟩ 10 rfl [0] rfl (by decide) rfl hP hD hS hl.1 rfl (Nat.le_of_ble_eq_true rfl) dX6_votes_91 ⟨Nat.zero_le _, Nat.zero_le _⟩) hA hP hD hS (isC := [0]) rfl [] [0] (br := []) (bs2 := fun _ => [moC E b z (up2 (upr (up2 g 8 3 m0) 6 (fl (g 6) (disN g m0 t0) i)) 6 i ((fl (g 6) (disN g m0 t0) i) i + 1)) gs ar]) rfl (by decide) (fun _ => rfl) (by decide) (fun u H locs hw hP hD hS => ?_)
                have hgE : (up2 (upr (up2 g 8 3 m0) 6 (fl (g 6) (disN g m0 t0) i)) 6 i ((fl (g 6) (disN g m0 t0) i) i + 1)) = (upr (up2 g 8 3 m0) 6 (fl (g 6) (disN g m0 t0) (i + 1))) := upr_up2.trans (by rw [hfa, fl_step hdn])
                rw [hgE] at hP hD; clear hgE
                refine lv_iinc (v := nI (i + 1)) (lv' := [(3, .int (nI (i + 1))), (0, .ref (b 0)), (1, .int (nI m0)), (2, .int (nI t0))]) hx hb dX6_votes_94 hl (k := 3) rfl (nI_add i 1) (by decide) rfl (fun ls hl => ?_)
                refine lv_goto (tgt := 50) hx hb dX6_votes_97 (by decide) ?_
                exact ih50 (i + 1) (by omega) (by omega) _ _ _ hP hD hS (lv_sub hl [1, 2, 3, 0] rfl)
              · skip
                have hdn : g 6 i + 0 = disN g m0 t0 i := (if_pos (show inF g i m0 t0 = true from decide_eq_true (by omega))).symm
                refine lv_iconst (v := nI 0) hx hb dX6_votes_85 (by decide) ?_
                refine lv_goto (tgt := 90) hx hb dX6_votes_86 (by decide) ?_
                refine nv_iadd hx hb dX6_votes_90 ?_
                refine run_v (S := Unit) (run_V (As := [.int (nI i), .int (nI 6), .int (nI ((fl (g 6) (disN g m0 t0) i) i + 0))]) (rest := []) (bs := [moC E b z (upr (up2 g 8 3 m0) 6 (fl (g 6) (disN g m0 t0) i)) gs ar]) (cb := [moC E b z (upr (up2 g 8 3 m0) 6 (fl (g 6) (disN g m0 t0) i)) gs ar]) hx hb hml hown hts hK hZ hA (c_X6_sets l E _ b z (upr (up2 g 8 3 m0) 6 (fl (g 6) (disN g m0 t0) i)) gs ar  i 6 ((fl (g 6) (disN g m0 t0) i) i + 0) (by omega) (by decide)) l_X6_76 rfl ⟨⟨rfl, rfl⟩, Nat.le_of_ble_eq_true rfl, Nat.le_of_ble_eq_true rfl⟩ 10 rfl [0] rfl (by decide) rfl hP hD hS hl.1 rfl (Nat.le_of_ble_eq_true rfl) dX6_votes_91 ⟨Nat.zero_le _, Nat.zero_le _⟩) hA hP hD hS (isC := [0]) rfl [] [0] (br := []) (bs2 := fun _ => [moC E b z (up2 (upr (up2 g 8 3 m0) 6 (fl (g 6) (disN g m0 t0) i)) 6 i ((fl (g 6) (disN g m0 t0) i) i + 0)) gs ar]) rfl (by decide) (fun _ => rfl) (by decide) (fun u H locs hw hP hD hS => ?_)
                have hgE : (up2 (upr (up2 g 8 3 m0) 6 (fl (g 6) (disN g m0 t0) i)) 6 i ((fl (g 6) (disN g m0 t0) i) i + 0)) = (upr (up2 g 8 3 m0) 6 (fl (g 6) (disN g m0 t0) (i + 1))) := upr_up2.trans (by rw [hfa, fl_step hdn])
                rw [hgE] at hP hD; clear hgE
                refine lv_iinc (v := nI (i + 1)) (lv' := [(3, .int (nI (i + 1))), (0, .ref (b 0)), (1, .int (nI m0)), (2, .int (nI t0))]) hx hb dX6_votes_94 hl (k := 3) rfl (nI_add i 1) (by decide) rfl (fun ls hl => ?_)
                refine lv_goto (tgt := 50) hx hb dX6_votes_97 (by decide) ?_
                exact ih50 (i + 1) (by omega) (by omega) _ _ _ hP hD hS (lv_sub hl [1, 2, 3, 0] rfl)
        rw [show (up2 g 8 3 m0) = upr (up2 g 8 3 m0) 6 (fl (g 6) (disN g m0 t0) 0) from by rw [fl_0]; exact (upr_id (g := up2 g 8 3 m0) (w := 6)).symm] at hP hD
        exact loop50 _ 0 (by omega) (Nat.lt_succ_self _) _ _ _ hP hD hS (lv_sub hl [1, 2, 3, 0] rfl)
      · skip
        have hca := c_3
        refine lv_aload_n hx hb dX6_votes_35 rfl (lv_at hl 0 rfl) ?_
        refine lv_iconst (v := nI 0) hx hb dX6_votes_36 (by decide) ?_
        refine run_i (S := Unit) (run_V (As := [.int (nI 0)]) (rest := []) (bs := [moC E b z g gs ar]) (cb := [moC E b z g gs ar]) hx hb hml hown hts hK hZ hA (c_X6_done l E _ b z g gs ar  0 ) l_X6_89 rfl ⟨⟨rfl, rfl⟩, Nat.le_of_ble_eq_true rfl, Nat.le_of_ble_eq_true rfl⟩ 10 rfl [0] rfl (by decide) rfl hP hD hS hl.1 rfl (Nat.le_of_ble_eq_true rfl) dX6_votes_37 ⟨Nat.zero_le _, Nat.zero_le _⟩) hA hP hD hS (isC := [0]) rfl [] [0] (br := []) (bs2 := fun _ => [moC E b (upn z 7 0) g gs ar]) rfl (by decide) (fun _ => rfl) (by decide) (fun r u H locs hw hP hD hS => ?_)
        subst hw
        have hf : fMot (nI m0) (nI t0) = 0 := (by simp only [fMot, em0, et0, Int.toNat_natCast]; (repeat' split) <;> first | rfl | (exfalso; omega))
        have hmE : moC E b (upn z 7 0) g gs ar = moC E b (if fMot (nI m0) (nI t0) = 0 then upn z 7 (aVot g (tn (nI m0)) (tn (nI t0))) else z) (if fMot (nI m0) (nI t0) = 0 then voteG g (tn (nI m0)) (tn (nI t0)) else g) gs ar := by rw [if_pos hf, if_pos hf, tn_nI hm0, tn_nI ht0]; unfold voteG aVot; (first | rw [if_pos (by omega), if_pos (by omega)] | rw [if_neg (by omega), if_neg (by omega)])
        rw [hmE] at hP hD; clear hmE
        exact hret _ _ (nI 0) () _ _ hP hD hS rfl (by rw [hf]) dX6_votes_40
    · skip
      have c_2 := of_decide_eq_false c_2
      refine lv_iconst (v := nI 1) hx hb dX6_votes_20 (by decide) ?_
      have hf : fMot p0 p1 = 2 := (by simp only [fMot]; (repeat' split) <;> first | rfl | (exfalso; omega))
      have hmE : moC E b z g gs ar = moC E b (if fMot p0 p1 = 0 then upn z 7 (aVot g (tn p0) (tn p1)) else z) (if fMot p0 p1 = 0 then voteG g (tn p0) (tn p1) else g) gs ar := by rw [if_neg (by omega), if_neg (by omega)]
      rw [hmE] at hP hD; clear hmE
      exact hret _ _ (nI 1) () _ _ hP hD hS rfl (by rw [hf]) dX6_votes_21
