abbrev rm_X3_readForm : Room := { frames := 4, cells := 0, slots := 0, locals := 85 }
set_option maxHeartbeats 4000000 in
set_option maxRecDepth 100000 in
theorem c_X3_readForm (l : Launch) (E : EE) (sz : Nat) (a : Nat → Nat) (q : Nat → Nat) (F : GG) (i0 : Nat) (q16 : String × Nat × String) (hi : sRef[i0]? = some q16) (n0 : Nat) (hn0 : n0 ≤ 7) (h11 : 11 ≤ i0) (h18 : i0 < 18) (h0 : q 0 ≤ 60) (h2 : q 2 ≤ q 0) (ho : ∀ j, F 0 j < 65536)  : MI l yX3_readForm cX3_readForm 6 .boolean rm_X3_readForm [.ref (a 0), .ref (E.2.2 i0), .int (nI n0)] E sz [prC E a q F] (fun (r : Int32) (_ : Unit) => r = nI (frmR (F 0) (q 0) (tl q16.2.2) (q 2) (n0 * 4) (F 2)).2.1) (fun _ => [prC E a (upn q 2 (frmR (F 0) (q 0) (tl q16.2.2) (q 2) (n0 * 4) (F 2)).1) (upr F 2 (frmR (F 0) (q 0) (tl q16.2.2) (q 2) (n0 * 4) (F 2)).2.2)]) 0 0 := by
  refine mi_go (by decide) (Nat.le_of_ble_eq_true rfl) ?_
  intro p e s m below meth c A Q ls hx hb hml hown hts hK hZ hA hsz hP hD hl hret
  have hS : va_S A s.heap s.heap [] := va_S.rf
  have hl : lv_has ls 6 [(0, .ref (a 0)), (1, .ref (E.2.2 i0)), (2, .int (nI n0))] := hl
  skip
  have hlen := str_l hi
  refine lv_iload_n hx hb dX3_readForm_0 rfl (lv_at hl 2 rfl) ?_
  refine lv_iconst (v := nI 4) hx hb dX3_readForm_1 (by decide) ?_
  refine nv_imul hx hb dX3_readForm_2 ?_
  refine lv_istore_n (lv' := [(3, .int (nI (n0 * 4))), (0, .ref (a 0)), (1, .ref (E.2.2 i0)), (2, .int (nI n0))]) hx hb dX3_readForm_3 rfl hl (by decide) rfl (fun ls hl => ?_)
  refine lv_iconst (v := nI 0) hx hb dX3_readForm_4 (by decide) ?_
  refine lv_istore (lv' := [(4, .int (nI 0)), (3, .int (nI (n0 * 4))), (0, .ref (a 0)), (1, .ref (E.2.2 i0)), (2, .int (nI n0))]) hx hb dX3_readForm_5 hl (by decide) rfl (fun ls hl => ?_)
  have loop7 : ∀ (n : Nat) (k : Nat) (sp : Nat) (pl : Nat) (A9 : Nat → Nat), (k ≤ q16.2.2.length) → (sp ≤ q 0) → (pl = n0 * 4 + cnS q16.2.2 k) → ((frmR (F 0) (q 0) (tl q16.2.2) (q 2) (n0 * 4) (F 2)) = frmR (F 0) (q 0) ((tl q16.2.2).drop k) sp pl A9) → q16.2.2.length - k < n → ∀ (H : Heap) (locs : List Loc) (ls : Array Slot), va_P E.1 vwCl ([prC E a (upn q 2 sp) (upr F 2 A9)] : List va_W).flatten H → va_D A ([prC E a (upn q 2 sp) (upr F 2 A9)] : List va_W).flatten → va_S A s.heap H locs → lv_has ls 6 [(0, .ref (a 0)), (1, .ref (E.2.2 i0)), (2, .int (nI n0)), (3, .int (nI pl)), (4, .int (nI k))] → W p l e rm_X3_readForm s m ([.ref (a 0), .ref (E.2.2 i0), .int (nI n0)] : List Value).toArray below meth c H locs 0 0 Q (F0 m 7 ls []) := by
    intro n7
    induction n7 with
    | zero => intro k sp pl A9 hk hsp hpl heq hn7; exact absurd hn7 (Nat.not_lt_zero _)
    | succ n7 ih7 =>
      intro k sp pl A9 hk hsp hpl heq hn7 H locs ls hP hD hS hl
      refine lv_iload hx hb dX3_readForm_7 (lv_at hl 4 rfl) ?_
      refine lv_aload_n hx hb dX3_readForm_9 rfl (lv_at hl 1 rfl) ?_
      refine run_i (S := Unit) (run_K (As := []) (rest := [.int (nI k)]) (bs := [prC E a (upn q 2 sp) (upr F 2 A9)]) (cb := []) hx hb hml hown hts hK hZ hA (c_J0_length_8abf5 l E _ i0 q16 hi  ) l_X3_66 rfl ⟨⟨rfl, rfl⟩, Nat.le_of_ble_eq_true rfl, Nat.le_of_ble_eq_true rfl⟩ (vk_recv (i := 0) (hZ.2.2.2.2.1 i0 q16 hi).1 (by decide) hS) [] rfl (by decide) hP hD hS hl.1 rfl (Nat.le_of_ble_eq_true rfl) dX3_readForm_10 ⟨Nat.zero_le _, Nat.zero_le _⟩) hA hP hD hS (isC := []) rfl [0] [0] (br := [prC E a (upn q 2 sp) (upr F 2 A9)]) (bs2 := fun _ => [prC E a (upn q 2 sp) (upr F 2 A9)]) rfl (by decide) (fun _ => rfl) (by decide) (fun r u H locs hw hP hD hS => ?_)
      subst hw
      refine nv_icmp_ge (X := ((k : Nat) : Int)) (Y := ((q16.2.2.length : Nat) : Int)) hx hb (nI_toInt (by omega)) (nI_toInt (by omega)) (tgt := 101) dX3_readForm_13 (by decide) (fun c_1 => ?_) (fun c_1 => ?_)
      · skip
        have hfn : (frmR (F 0) (q 0) (tl q16.2.2) (q 2) (n0 * 4) (F 2)) = (sp, 1, A9) := by rw [heq]; rw [show (tl q16.2.2).drop k = [] from List.drop_eq_nil_iff.mpr (by rw [tl_len]; omega)]; rfl
        refine lv_iconst (v := nI 1) hx hb dX3_readForm_101 (by decide) ?_
        have hmE : prC E a (upn q 2 sp) (upr F 2 A9) = prC E a (upn q 2 (frmR (F 0) (q 0) (tl q16.2.2) (q 2) (n0 * 4) (F 2)).1) (upr F 2 (frmR (F 0) (q 0) (tl q16.2.2) (q 2) (n0 * 4) (F 2)).2.2) := by rw [hfn]
        rw [hmE] at hP hD; clear hmE
        exact hret _ _ (nI 1) () _ _ hP hD hS (by decide) (by rw [hfn]) dX3_readForm_102
      · skip
        obtain ⟨-, hc6⟩ := str_c hi (show k < q16.2.2.length by omega)
        have hf4 := frm_4 i0 h11 h18 q16 hi k (by omega)
        have hcs : cnS q16.2.2 (k + 1) = cnS q16.2.2 k + (if sch q16.2.2 k ≠ 35 ∧ sch q16.2.2 k ≠ 63 then 0 else 1) := rfl
        have htd := tl_drop (show k < q16.2.2.length by omega)
        refine lv_aload_n hx hb dX3_readForm_16 rfl (lv_at hl 1 rfl) ?_
        refine lv_iload hx hb dX3_readForm_17 (lv_at hl 4 rfl) ?_
        refine run_i (S := Unit) (run_K (As := [.int (nI k)]) (rest := []) (bs := [prC E a (upn q 2 sp) (upr F 2 A9)]) (cb := []) hx hb hml hown hts hK hZ hA (c_J0_charAt_5068e l E _ i0 q16 hi k (by omega)) l_X3_71 rfl ⟨⟨rfl, rfl⟩, Nat.le_of_ble_eq_true rfl, Nat.le_of_ble_eq_true rfl⟩ (vk_recv (i := 0) (hZ.2.2.2.2.1 i0 q16 hi).1 (by decide) hS) [] rfl (by decide) hP hD hS hl.1 rfl (Nat.le_of_ble_eq_true rfl) dX3_readForm_19 ⟨Nat.zero_le _, Nat.zero_le _⟩) hA hP hD hS (isC := []) rfl [0] [0] (br := [prC E a (upn q 2 sp) (upr F 2 A9)]) (bs2 := fun _ => [prC E a (upn q 2 sp) (upr F 2 A9)]) rfl (by decide) (fun _ => rfl) (by decide) (fun r u H locs hw hP hD hS => ?_)
        subst hw
        refine lv_istore (lv' := [(5, .int (nI (sch q16.2.2 k))), (0, .ref (a 0)), (1, .ref (E.2.2 i0)), (2, .int (nI n0)), (3, .int (nI pl)), (4, .int (nI k))]) hx hb dX3_readForm_22 hl (by decide) rfl (fun ls hl => ?_)
        refine lv_iload hx hb dX3_readForm_24 (lv_at hl 0 rfl) ?_
        refine lv_bipush (v := nI 35) hx hb dX3_readForm_26 (by decide) ?_
        refine nv_icmp_eq (X := ((sch q16.2.2 k : Nat) : Int)) (Y := ((35 : Nat) : Int)) hx hb (nI_toInt (by omega)) (nI_toInt (by omega)) (tgt := 49) dX3_readForm_28 (by decide) (fun c_2 => ?_) (fun c_2 => ?_)
        · skip
          have hns : ¬ (sch q16.2.2 k ≠ 35 ∧ sch q16.2.2 k ≠ 63) := fun q3 => by omega
          rw [if_neg hns] at hcs
          refine lv_aload_n hx hb dX3_readForm_49 rfl (lv_at hl 1 rfl) ?_
          refine run_i (S := Unit) (run_V (As := []) (rest := []) (bs := [prC E a (upn q 2 sp) (upr F 2 A9)]) (cb := [prC E a (upn q 2 sp) (upr F 2 A9)]) hx hb hml hown hts hK hZ hA (c_X3_seesDigit l E _ a (upn q 2 sp) (upr F 2 A9) (show q 0 ≤ 60 by omega) (show sp ≤ q 0 by omega) ho) l_X3_75 rfl ⟨⟨rfl, rfl⟩, Nat.le_of_ble_eq_true rfl, Nat.le_of_ble_eq_true rfl⟩ 7 rfl [0] rfl (by decide) rfl hP hD hS hl.1 rfl (Nat.le_of_ble_eq_true rfl) dX3_readForm_50 ⟨Nat.zero_le _, Nat.zero_le _⟩) hA hP hD hS (isC := [0]) rfl [] [0] (br := []) (bs2 := fun _ => [prC E a (upn q 2 sp) (upr F 2 A9)]) rfl (by decide) (fun _ => rfl) (by decide) (fun r u H locs hw hP hD hS => ?_)
          have hw : r = bI (decide (sp < q 0 ∧ 48 ≤ (F 0) sp ∧ (F 0) sp ≤ 57)) := hw
          subst hw
          refine bv_if_eq hx hb (tgt := 93) dX3_readForm_53 (by decide) (fun c_3 => ?_) (fun c_3 => ?_)
          · skip
            have hd9 := of_decide_eq_false c_3
            have hfn : (frmR (F 0) (q 0) (tl q16.2.2) (q 2) (n0 * 4) (F 2)) = (sp, 0, A9) := by rw [heq]; rw [htd, frmR_df hns hd9]
            refine lv_iconst (v := nI 0) hx hb dX3_readForm_93 (by decide) ?_
            have hmE : prC E a (upn q 2 sp) (upr F 2 A9) = prC E a (upn q 2 (frmR (F 0) (q 0) (tl q16.2.2) (q 2) (n0 * 4) (F 2)).1) (upr F 2 (frmR (F 0) (q 0) (tl q16.2.2) (q 2) (n0 * 4) (F 2)).2.2) := by rw [hfn]
            rw [hmE] at hP hD; clear hmE
            exact hret _ _ (nI 0) () _ _ hP hD hS (by decide) (by rw [hfn]) dX3_readForm_94
          · skip
            have hd9 := of_decide_eq_true c_3
            refine lv_iload_n hx hb dX3_readForm_56 rfl (lv_at hl 4 rfl) ?_
            refine lv_aload_n hx hb dX3_readForm_57 rfl (lv_at hl 1 rfl) ?_
            refine va_get (D := E.1) (ci := 7) (v := .ref (a 3)) (C := RX3) (T := TX3) (N := 6) hx hb hts inX3 hown hK hP 0 rfl rfl 2 (by decide) (hts _ q193) (fun _ h9 => h9) rfl dX3_readForm_58 ?_
            refine va_alen hx hb hK hP 3 0 rfl rfl (v := nI 32) rfl dX3_readForm_61 ?_
            refine nv_icmp_ge (X := ((pl : Nat) : Int)) (Y := ((32 : Nat) : Int)) hx hb (nI_toInt (by omega)) (nI_toInt (by omega)) (tgt := 93) dX3_readForm_62 (by decide) (fun c_4 => ?_) (fun c_4 => ?_)
            · exact absurd c_4 (by omega)
            · skip
              refine lv_aload_n hx hb dX3_readForm_65 rfl (lv_at hl 1 rfl) ?_
              refine va_get (D := E.1) (ci := 7) (v := .ref (a 3)) (C := RX3) (T := TX3) (N := 6) hx hb hts inX3 hown hK hP 0 rfl rfl 2 (by decide) (hts _ q193) (fun _ h9 => h9) rfl dX3_readForm_66 ?_
              refine lv_iload_n hx hb dX3_readForm_69 rfl (lv_at hl 4 rfl) ?_
              refine lv_aload_n hx hb dX3_readForm_70 rfl (lv_at hl 1 rfl) ?_
              refine lv_iload hx hb dX3_readForm_71 (lv_at hl 0 rfl) ?_
              refine lv_bipush (v := nI 35) hx hb dX3_readForm_73 (by decide) ?_
              refine nv_icmp_ne (X := ((sch q16.2.2 k : Nat) : Int)) (Y := ((35 : Nat) : Int)) hx hb (nI_toInt (by omega)) (nI_toInt (by omega)) (tgt := 82) dX3_readForm_75 (by decide) (fun c_5 => ?_) (fun c_5 => ?_)
              · skip
                have h35 : ¬ sch q16.2.2 k = 35 := by omega
                refine lv_iconst (v := nI 1) hx hb dX3_readForm_82 (by decide) ?_
                refine run_i (S := Unit) (run_V (As := [.int (nI 1)]) (rest := [.int (nI pl), .ref (a 3)]) (bs := [prC E a (upn q 2 sp) (upr F 2 A9)]) (cb := [prC E a (upn q 2 sp) (upr F 2 A9)]) hx hb hml hown hts hK hZ hA (c_X3_readNumber l E _ a (upn q 2 sp) (upr F 2 A9) 1 (by omega) (show q 0 ≤ 60 by omega) (show sp ≤ q 0 by omega) ho) l_X3_79 rfl ⟨⟨rfl, rfl⟩, Nat.le_of_ble_eq_true rfl, Nat.le_of_ble_eq_true rfl⟩ 7 rfl [0] rfl (by decide) rfl hP hD hS hl.1 rfl (Nat.le_of_ble_eq_true rfl) dX3_readForm_83 ⟨Nat.zero_le _, Nat.zero_le _⟩) hA hP hD hS (isC := [0]) rfl [] [0] (br := []) (bs2 := fun _ => [prC E a (upn (upn q 2 sp) 2 ((digR (F 0) (q 0) 1 (sp) 0 0).1)) (upr F 2 A9)]) rfl (by decide) (fun _ => rfl) (by decide) (fun r u H locs hw hP hD hS => ?_)
                have hw : r = nI (digR (F 0) (q 0) 1 (sp) 0 0).2.1 := hw
                subst hw
                have hdl := digR_le (tx := (F 0)) (f := 1) (n := 0) (d := 0) (show sp ≤ q 0 by omega)
                refine nv_iast (f := A9) (i := pl) (v := (digR (F 0) (q 0) 1 (sp) 0 0).2.1) (n := 32) hx hb hK hP hD hS 3 0 rfl rfl (by omega) (by decide) dX3_readForm_86 (fun H locs hP hD hS => ?_)
                have hP : va_P E.1 vwCl ([prC E a (upn (upn q 2 sp) 2 ((digR (F 0) (q 0) 1 (sp) 0 0).1)) (upr (upr F 2 A9) 2 (upn A9 pl ((digR (F 0) (q 0) 1 (sp) 0 0).2.1)))] : List va_W).flatten H := hP
                have hD : va_D A ([prC E a (upn (upn q 2 sp) 2 ((digR (F 0) (q 0) 1 (sp) 0 0).1)) (upr (upr F 2 A9) 2 (upn A9 pl ((digR (F 0) (q 0) 1 (sp) 0 0).2.1)))] : List va_W).flatten := hD
                have hpn : pl + 1 = n0 * 4 + cnS q16.2.2 (k + 1) := by omega
                have hen := heq
                rw [htd, frmR_d hns hd9] at hen
                first | rw [if_pos h35] at hen | rw [if_neg h35] at hen
                refine lv_iinc (v := nI (pl + 1)) (lv' := [(3, .int (nI (pl + 1))), (5, .int (nI (sch q16.2.2 k))), (0, .ref (a 0)), (1, .ref (E.2.2 i0)), (2, .int (nI n0)), (4, .int (nI k))]) hx hb dX3_readForm_87 hl (k := 4) rfl (nI_add pl 1) (by decide) rfl (fun ls hl => ?_)
                refine lv_goto (tgt := 95) hx hb dX3_readForm_90 (by decide) ?_
                have hmE : prC E a (upn (upn q 2 sp) 2 ((digR (F 0) (q 0) 1 (sp) 0 0).1)) (upr (upr F 2 A9) 2 (upn A9 pl ((digR (F 0) (q 0) 1 (sp) 0 0).2.1))) = prC E a (upn q 2 ((digR (F 0) (q 0) 1 (sp) 0 0).1)) (upr F 2 (upn A9 pl ((digR (F 0) (q 0) 1 (sp) 0 0).2.1))) := by rw [upn_upn, upr_upr]
                rw [hmE] at hP hD; clear hmE
                refine lv_iinc (v := nI (k + 1)) (lv' := [(4, .int (nI (k + 1))), (3, .int (nI (pl + 1))), (5, .int (nI (sch q16.2.2 k))), (0, .ref (a 0)), (1, .ref (E.2.2 i0)), (2, .int (nI n0))]) hx hb dX3_readForm_95 hl (k := 5) rfl (nI_add k 1) (by decide) rfl (fun ls hl => ?_)
                refine lv_goto (tgt := 7) hx hb dX3_readForm_98 (by decide) ?_
                exact ih7 (k + 1) ((digR (F 0) (q 0) 1 (sp) 0 0).1) (pl + 1) (upn A9 pl ((digR (F 0) (q 0) 1 (sp) 0 0).2.1)) (by omega) (by omega) hpn hen (by omega) _ _ _ hP hD hS (lv_sub hl [3, 4, 5, 1, 0] rfl)
              · skip
                have h35 : sch q16.2.2 k = 35 := by omega
                refine lv_iconst (v := nI 2) hx hb dX3_readForm_78 (by decide) ?_
                refine lv_goto (tgt := 83) hx hb dX3_readForm_79 (by decide) ?_
                refine run_i (S := Unit) (run_V (As := [.int (nI 2)]) (rest := [.int (nI pl), .ref (a 3)]) (bs := [prC E a (upn q 2 sp) (upr F 2 A9)]) (cb := [prC E a (upn q 2 sp) (upr F 2 A9)]) hx hb hml hown hts hK hZ hA (c_X3_readNumber l E _ a (upn q 2 sp) (upr F 2 A9) 2 (by omega) (show q 0 ≤ 60 by omega) (show sp ≤ q 0 by omega) ho) l_X3_79 rfl ⟨⟨rfl, rfl⟩, Nat.le_of_ble_eq_true rfl, Nat.le_of_ble_eq_true rfl⟩ 7 rfl [0] rfl (by decide) rfl hP hD hS hl.1 rfl (Nat.le_of_ble_eq_true rfl) dX3_readForm_83 ⟨Nat.zero_le _, Nat.zero_le _⟩) hA hP hD hS (isC := [0]) rfl [] [0] (br := []) (bs2 := fun _ => [prC E a (upn (upn q 2 sp) 2 ((digR (F 0) (q 0) 2 (sp) 0 0).1)) (upr F 2 A9)]) rfl (by decide) (fun _ => rfl) (by decide) (fun r u H locs hw hP hD hS => ?_)
                have hw : r = nI (digR (F 0) (q 0) 2 (sp) 0 0).2.1 := hw
                subst hw
                have hdl := digR_le (tx := (F 0)) (f := 2) (n := 0) (d := 0) (show sp ≤ q 0 by omega)
                refine nv_iast (f := A9) (i := pl) (v := (digR (F 0) (q 0) 2 (sp) 0 0).2.1) (n := 32) hx hb hK hP hD hS 3 0 rfl rfl (by omega) (by decide) dX3_readForm_86 (fun H locs hP hD hS => ?_)
                have hP : va_P E.1 vwCl ([prC E a (upn (upn q 2 sp) 2 ((digR (F 0) (q 0) 2 (sp) 0 0).1)) (upr (upr F 2 A9) 2 (upn A9 pl ((digR (F 0) (q 0) 2 (sp) 0 0).2.1)))] : List va_W).flatten H := hP
                have hD : va_D A ([prC E a (upn (upn q 2 sp) 2 ((digR (F 0) (q 0) 2 (sp) 0 0).1)) (upr (upr F 2 A9) 2 (upn A9 pl ((digR (F 0) (q 0) 2 (sp) 0 0).2.1)))] : List va_W).flatten := hD
                have hpn : pl + 1 = n0 * 4 + cnS q16.2.2 (k + 1) := by omega
                have hen := heq
                rw [htd, frmR_d hns hd9] at hen
                first | rw [if_pos h35] at hen | rw [if_neg h35] at hen
                refine lv_iinc (v := nI (pl + 1)) (lv' := [(3, .int (nI (pl + 1))), (5, .int (nI (sch q16.2.2 k))), (0, .ref (a 0)), (1, .ref (E.2.2 i0)), (2, .int (nI n0)), (4, .int (nI k))]) hx hb dX3_readForm_87 hl (k := 4) rfl (nI_add pl 1) (by decide) rfl (fun ls hl => ?_)
                refine lv_goto (tgt := 95) hx hb dX3_readForm_90 (by decide) ?_
                have hmE : prC E a (upn (upn q 2 sp) 2 ((digR (F 0) (q 0) 2 (sp) 0 0).1)) (upr (upr F 2 A9) 2 (upn A9 pl ((digR (F 0) (q 0) 2 (sp) 0 0).2.1))) = prC E a (upn q 2 ((digR (F 0) (q 0) 2 (sp) 0 0).1)) (upr F 2 (upn A9 pl ((digR (F 0) (q 0) 2 (sp) 0 0).2.1))) := by rw [upn_upn, upr_upr]
                rw [hmE] at hP hD; clear hmE
                refine lv_iinc (v := nI (k + 1)) (lv' := [(4, .int (nI (k + 1))), (3, .int (nI (pl + 1))), (5, .int (nI (sch q16.2.2 k))), (0, .ref (a 0)), (1, .ref (E.2.2 i0)), (2, .int (nI n0))]) hx hb dX3_readForm_95 hl (k := 5) rfl (nI_add k 1) (by decide) rfl (fun ls hl => ?_)
                refine lv_goto (tgt := 7) hx hb dX3_readForm_98 (by decide) ?_
                exact ih7 (k + 1) ((digR (F 0) (q 0) 2 (sp) 0 0).1) (pl + 1) (upn A9 pl ((digR (F 0) (q 0) 2 (sp) 0 0).2.1)) (by omega) (by omega) hpn hen (by omega) _ _ _ hP hD hS (lv_sub hl [3, 4, 5, 1, 0] rfl)
        · skip
          refine lv_iload hx hb dX3_readForm_31 (lv_at hl 0 rfl) ?_
          refine lv_bipush (v := nI 63) hx hb dX3_readForm_33 (by decide) ?_
          refine nv_icmp_eq (X := ((sch q16.2.2 k : Nat) : Int)) (Y := ((63 : Nat) : Int)) hx hb (nI_toInt (by omega)) (nI_toInt (by omega)) (tgt := 49) dX3_readForm_35 (by decide) (fun c_6 => ?_) (fun c_6 => ?_)
          · skip
            have hns : ¬ (sch q16.2.2 k ≠ 35 ∧ sch q16.2.2 k ≠ 63) := fun q3 => by omega
            rw [if_neg hns] at hcs
            refine lv_aload_n hx hb dX3_readForm_49 rfl (lv_at hl 1 rfl) ?_
            refine run_i (S := Unit) (run_V (As := []) (rest := []) (bs := [prC E a (upn q 2 sp) (upr F 2 A9)]) (cb := [prC E a (upn q 2 sp) (upr F 2 A9)]) hx hb hml hown hts hK hZ hA (c_X3_seesDigit l E _ a (upn q 2 sp) (upr F 2 A9) (show q 0 ≤ 60 by omega) (show sp ≤ q 0 by omega) ho) l_X3_75 rfl ⟨⟨rfl, rfl⟩, Nat.le_of_ble_eq_true rfl, Nat.le_of_ble_eq_true rfl⟩ 7 rfl [0] rfl (by decide) rfl hP hD hS hl.1 rfl (Nat.le_of_ble_eq_true rfl) dX3_readForm_50 ⟨Nat.zero_le _, Nat.zero_le _⟩) hA hP hD hS (isC := [0]) rfl [] [0] (br := []) (bs2 := fun _ => [prC E a (upn q 2 sp) (upr F 2 A9)]) rfl (by decide) (fun _ => rfl) (by decide) (fun r u H locs hw hP hD hS => ?_)
            have hw : r = bI (decide (sp < q 0 ∧ 48 ≤ (F 0) sp ∧ (F 0) sp ≤ 57)) := hw
            subst hw
            refine bv_if_eq hx hb (tgt := 93) dX3_readForm_53 (by decide) (fun c_7 => ?_) (fun c_7 => ?_)
            · skip
              have hd9 := of_decide_eq_false c_7
              have hfn : (frmR (F 0) (q 0) (tl q16.2.2) (q 2) (n0 * 4) (F 2)) = (sp, 0, A9) := by rw [heq]; rw [htd, frmR_df hns hd9]
              refine lv_iconst (v := nI 0) hx hb dX3_readForm_93 (by decide) ?_
              have hmE : prC E a (upn q 2 sp) (upr F 2 A9) = prC E a (upn q 2 (frmR (F 0) (q 0) (tl q16.2.2) (q 2) (n0 * 4) (F 2)).1) (upr F 2 (frmR (F 0) (q 0) (tl q16.2.2) (q 2) (n0 * 4) (F 2)).2.2) := by rw [hfn]
              rw [hmE] at hP hD; clear hmE
              exact hret _ _ (nI 0) () _ _ hP hD hS (by decide) (by rw [hfn]) dX3_readForm_94
            · skip
              have hd9 := of_decide_eq_true c_7
              refine lv_iload_n hx hb dX3_readForm_56 rfl (lv_at hl 4 rfl) ?_
              refine lv_aload_n hx hb dX3_readForm_57 rfl (lv_at hl 1 rfl) ?_
              refine va_get (D := E.1) (ci := 7) (v := .ref (a 3)) (C := RX3) (T := TX3) (N := 6) hx hb hts inX3 hown hK hP 0 rfl rfl 2 (by decide) (hts _ q193) (fun _ h9 => h9) rfl dX3_readForm_58 ?_
              refine va_alen hx hb hK hP 3 0 rfl rfl (v := nI 32) rfl dX3_readForm_61 ?_
              refine nv_icmp_ge (X := ((pl : Nat) : Int)) (Y := ((32 : Nat) : Int)) hx hb (nI_toInt (by omega)) (nI_toInt (by omega)) (tgt := 93) dX3_readForm_62 (by decide) (fun c_8 => ?_) (fun c_8 => ?_)
              · exact absurd c_8 (by omega)
              · skip
                refine lv_aload_n hx hb dX3_readForm_65 rfl (lv_at hl 1 rfl) ?_
                refine va_get (D := E.1) (ci := 7) (v := .ref (a 3)) (C := RX3) (T := TX3) (N := 6) hx hb hts inX3 hown hK hP 0 rfl rfl 2 (by decide) (hts _ q193) (fun _ h9 => h9) rfl dX3_readForm_66 ?_
                refine lv_iload_n hx hb dX3_readForm_69 rfl (lv_at hl 4 rfl) ?_
                refine lv_aload_n hx hb dX3_readForm_70 rfl (lv_at hl 1 rfl) ?_
                refine lv_iload hx hb dX3_readForm_71 (lv_at hl 0 rfl) ?_
                refine lv_bipush (v := nI 35) hx hb dX3_readForm_73 (by decide) ?_
                refine nv_icmp_ne (X := ((sch q16.2.2 k : Nat) : Int)) (Y := ((35 : Nat) : Int)) hx hb (nI_toInt (by omega)) (nI_toInt (by omega)) (tgt := 82) dX3_readForm_75 (by decide) (fun c_9 => ?_) (fun c_9 => ?_)
                · skip
                  have h35 : ¬ sch q16.2.2 k = 35 := by omega
                  refine lv_iconst (v := nI 1) hx hb dX3_readForm_82 (by decide) ?_
                  refine run_i (S := Unit) (run_V (As := [.int (nI 1)]) (rest := [.int (nI pl), .ref (a 3)]) (bs := [prC E a (upn q 2 sp) (upr F 2 A9)]) (cb := [prC E a (upn q 2 sp) (upr F 2 A9)]) hx hb hml hown hts hK hZ hA (c_X3_readNumber l E _ a (upn q 2 sp) (upr F 2 A9) 1 (by omega) (show q 0 ≤ 60 by omega) (show sp ≤ q 0 by omega) ho) l_X3_79 rfl ⟨⟨rfl, rfl⟩, Nat.le_of_ble_eq_true rfl, Nat.le_of_ble_eq_true rfl⟩ 7 rfl [0] rfl (by decide) rfl hP hD hS hl.1 rfl (Nat.le_of_ble_eq_true rfl) dX3_readForm_83 ⟨Nat.zero_le _, Nat.zero_le _⟩) hA hP hD hS (isC := [0]) rfl [] [0] (br := []) (bs2 := fun _ => [prC E a (upn (upn q 2 sp) 2 ((digR (F 0) (q 0) 1 (sp) 0 0).1)) (upr F 2 A9)]) rfl (by decide) (fun _ => rfl) (by decide) (fun r u H locs hw hP hD hS => ?_)
                  have hw : r = nI (digR (F 0) (q 0) 1 (sp) 0 0).2.1 := hw
                  subst hw
                  have hdl := digR_le (tx := (F 0)) (f := 1) (n := 0) (d := 0) (show sp ≤ q 0 by omega)
                  refine nv_iast (f := A9) (i := pl) (v := (digR (F 0) (q 0) 1 (sp) 0 0).2.1) (n := 32) hx hb hK hP hD hS 3 0 rfl rfl (by omega) (by decide) dX3_readForm_86 (fun H locs hP hD hS => ?_)
                  have hP : va_P E.1 vwCl ([prC E a (upn (upn q 2 sp) 2 ((digR (F 0) (q 0) 1 (sp) 0 0).1)) (upr (upr F 2 A9) 2 (upn A9 pl ((digR (F 0) (q 0) 1 (sp) 0 0).2.1)))] : List va_W).flatten H := hP
                  have hD : va_D A ([prC E a (upn (upn q 2 sp) 2 ((digR (F 0) (q 0) 1 (sp) 0 0).1)) (upr (upr F 2 A9) 2 (upn A9 pl ((digR (F 0) (q 0) 1 (sp) 0 0).2.1)))] : List va_W).flatten := hD
                  have hpn : pl + 1 = n0 * 4 + cnS q16.2.2 (k + 1) := by omega
                  have hen := heq
                  rw [htd, frmR_d hns hd9] at hen
                  first | rw [if_pos h35] at hen | rw [if_neg h35] at hen
                  refine lv_iinc (v := nI (pl + 1)) (lv' := [(3, .int (nI (pl + 1))), (5, .int (nI (sch q16.2.2 k))), (0, .ref (a 0)), (1, .ref (E.2.2 i0)), (2, .int (nI n0)), (4, .int (nI k))]) hx hb dX3_readForm_87 hl (k := 4) rfl (nI_add pl 1) (by decide) rfl (fun ls hl => ?_)
                  refine lv_goto (tgt := 95) hx hb dX3_readForm_90 (by decide) ?_
                  have hmE : prC E a (upn (upn q 2 sp) 2 ((digR (F 0) (q 0) 1 (sp) 0 0).1)) (upr (upr F 2 A9) 2 (upn A9 pl ((digR (F 0) (q 0) 1 (sp) 0 0).2.1))) = prC E a (upn q 2 ((digR (F 0) (q 0) 1 (sp) 0 0).1)) (upr F 2 (upn A9 pl ((digR (F 0) (q 0) 1 (sp) 0 0).2.1))) := by rw [upn_upn, upr_upr]
                  rw [hmE] at hP hD; clear hmE
                  refine lv_iinc (v := nI (k + 1)) (lv' := [(4, .int (nI (k + 1))), (3, .int (nI (pl + 1))), (5, .int (nI (sch q16.2.2 k))), (0, .ref (a 0)), (1, .ref (E.2.2 i0)), (2, .int (nI n0))]) hx hb dX3_readForm_95 hl (k := 5) rfl (nI_add k 1) (by decide) rfl (fun ls hl => ?_)
                  refine lv_goto (tgt := 7) hx hb dX3_readForm_98 (by decide) ?_
                  exact ih7 (k + 1) ((digR (F 0) (q 0) 1 (sp) 0 0).1) (pl + 1) (upn A9 pl ((digR (F 0) (q 0) 1 (sp) 0 0).2.1)) (by omega) (by omega) hpn hen (by omega) _ _ _ hP hD hS (lv_sub hl [3, 4, 5, 1, 0] rfl)
                · skip
                  have h35 : sch q16.2.2 k = 35 := by omega
                  refine lv_iconst (v := nI 2) hx hb dX3_readForm_78 (by decide) ?_
                  refine lv_goto (tgt := 83) hx hb dX3_readForm_79 (by decide) ?_
                  refine run_i (S := Unit) (run_V (As := [.int (nI 2)]) (rest := [.int (nI pl), .ref (a 3)]) (bs := [prC E a (upn q 2 sp) (upr F 2 A9)]) (cb := [prC E a (upn q 2 sp) (upr F 2 A9)]) hx hb hml hown hts hK hZ hA (c_X3_readNumber l E _ a (upn q 2 sp) (upr F 2 A9) 2 (by omega) (show q 0 ≤ 60 by omega) (show sp ≤ q 0 by omega) ho) l_X3_79 rfl ⟨⟨rfl, rfl⟩, Nat.le_of_ble_eq_true rfl, Nat.le_of_ble_eq_true rfl⟩ 7 rfl [0] rfl (by decide) rfl hP hD hS hl.1 rfl (Nat.le_of_ble_eq_true rfl) dX3_readForm_83 ⟨Nat.zero_le _, Nat.zero_le _⟩) hA hP hD hS (isC := [0]) rfl [] [0] (br := []) (bs2 := fun _ => [prC E a (upn (upn q 2 sp) 2 ((digR (F 0) (q 0) 2 (sp) 0 0).1)) (upr F 2 A9)]) rfl (by decide) (fun _ => rfl) (by decide) (fun r u H locs hw hP hD hS => ?_)
                  have hw : r = nI (digR (F 0) (q 0) 2 (sp) 0 0).2.1 := hw
                  subst hw
                  have hdl := digR_le (tx := (F 0)) (f := 2) (n := 0) (d := 0) (show sp ≤ q 0 by omega)
                  refine nv_iast (f := A9) (i := pl) (v := (digR (F 0) (q 0) 2 (sp) 0 0).2.1) (n := 32) hx hb hK hP hD hS 3 0 rfl rfl (by omega) (by decide) dX3_readForm_86 (fun H locs hP hD hS => ?_)
                  have hP : va_P E.1 vwCl ([prC E a (upn (upn q 2 sp) 2 ((digR (F 0) (q 0) 2 (sp) 0 0).1)) (upr (upr F 2 A9) 2 (upn A9 pl ((digR (F 0) (q 0) 2 (sp) 0 0).2.1)))] : List va_W).flatten H := hP
                  have hD : va_D A ([prC E a (upn (upn q 2 sp) 2 ((digR (F 0) (q 0) 2 (sp) 0 0).1)) (upr (upr F 2 A9) 2 (upn A9 pl ((digR (F 0) (q 0) 2 (sp) 0 0).2.1)))] : List va_W).flatten := hD
                  have hpn : pl + 1 = n0 * 4 + cnS q16.2.2 (k + 1) := by omega
                  have hen := heq
                  rw [htd, frmR_d hns hd9] at hen
                  first | rw [if_pos h35] at hen | rw [if_neg h35] at hen
                  refine lv_iinc (v := nI (pl + 1)) (lv' := [(3, .int (nI (pl + 1))), (5, .int (nI (sch q16.2.2 k))), (0, .ref (a 0)), (1, .ref (E.2.2 i0)), (2, .int (nI n0)), (4, .int (nI k))]) hx hb dX3_readForm_87 hl (k := 4) rfl (nI_add pl 1) (by decide) rfl (fun ls hl => ?_)
                  refine lv_goto (tgt := 95) hx hb dX3_readForm_90 (by decide) ?_
                  have hmE : prC E a (upn (upn q 2 sp) 2 ((digR (F 0) (q 0) 2 (sp) 0 0).1)) (upr (upr F 2 A9) 2 (upn A9 pl ((digR (F 0) (q 0) 2 (sp) 0 0).2.1))) = prC E a (upn q 2 ((digR (F 0) (q 0) 2 (sp) 0 0).1)) (upr F 2 (upn A9 pl ((digR (F 0) (q 0) 2 (sp) 0 0).2.1))) := by rw [upn_upn, upr_upr]
                  rw [hmE] at hP hD; clear hmE
                  refine lv_iinc (v := nI (k + 1)) (lv' := [(4, .int (nI (k + 1))), (3, .int (nI (pl + 1))), (5, .int (nI (sch q16.2.2 k))), (0, .ref (a 0)), (1, .ref (E.2.2 i0)), (2, .int (nI n0))]) hx hb dX3_readForm_95 hl (k := 5) rfl (nI_add k 1) (by decide) rfl (fun ls hl => ?_)
                  refine lv_goto (tgt := 7) hx hb dX3_readForm_98 (by decide) ?_
                  exact ih7 (k + 1) ((digR (F 0) (q 0) 2 (sp) 0 0).1) (pl + 1) (upn A9 pl ((digR (F 0) (q 0) 2 (sp) 0 0).2.1)) (by omega) (by omega) hpn hen (by omega) _ _ _ hP hD hS (lv_sub hl [3, 4, 5, 1, 0] rfl)
          · skip
            have hss : sch q16.2.2 k ≠ 35 ∧ sch q16.2.2 k ≠ 63 := ⟨by omega, by omega⟩
            rw [if_pos hss] at hcs
            refine lv_aload_n hx hb dX3_readForm_38 rfl (lv_at hl 1 rfl) ?_
            refine lv_iload hx hb dX3_readForm_39 (lv_at hl 0 rfl) ?_
            refine run_i (S := Unit) (run_V (As := [.int (nI (sch q16.2.2 k))]) (rest := []) (bs := [prC E a (upn q 2 sp) (upr F 2 A9)]) (cb := [prC E a (upn q 2 sp) (upr F 2 A9)]) hx hb hml hown hts hK hZ hA (c_X3_readSign l E _ a (upn q 2 sp) (upr F 2 A9) (sch q16.2.2 k) (by omega) (show q 0 ≤ 60 by omega) (show sp ≤ q 0 by omega) ho) l_X3_34 rfl ⟨⟨rfl, rfl⟩, Nat.le_of_ble_eq_true rfl, Nat.le_of_ble_eq_true rfl⟩ 7 rfl [0] rfl (by decide) rfl hP hD hS hl.1 rfl (Nat.le_of_ble_eq_true rfl) dX3_readForm_41 ⟨Nat.zero_le _, Nat.zero_le _⟩) hA hP hD hS (isC := [0]) rfl [] [0] (br := []) (bs2 := fun _ => [prC E a (if sp < q 0 ∧ (F 0) sp = (sch q16.2.2 k) then upn (upn q 2 sp) 2 (sp + 1) else (upn q 2 sp)) (upr F 2 A9)]) rfl (by decide) (fun _ => rfl) (by decide) (fun r u H locs hw hP hD hS => ?_)
            have hw : r = bI (decide (sp < q 0 ∧ (F 0) sp = (sch q16.2.2 k))) := hw
            subst hw
            refine bv_if_ne hx hb (tgt := 95) dX3_readForm_44 (by decide) (fun c_10 => ?_) (fun c_10 => ?_)
            · skip
              have hc9 := of_decide_eq_true c_10
              have hmE : prC E a (if sp < q 0 ∧ (F 0) sp = (sch q16.2.2 k) then upn (upn q 2 sp) 2 (sp + 1) else (upn q 2 sp)) (upr F 2 A9) = prC E a (upn q 2 (sp + 1)) (upr F 2 A9) := by rw [if_pos hc9, upn_upn]
              rw [hmE] at hP hD; clear hmE
              have hpn : pl = n0 * 4 + cnS q16.2.2 (k + 1) := by omega
              have hen : (frmR (F 0) (q 0) (tl q16.2.2) (q 2) (n0 * 4) (F 2)) = frmR (F 0) (q 0) ((tl q16.2.2).drop (k + 1)) (sp + 1) pl A9 := by rw [heq, htd, frmR_s hss hc9]
              refine lv_iinc (v := nI (k + 1)) (lv' := [(4, .int (nI (k + 1))), (5, .int (nI (sch q16.2.2 k))), (0, .ref (a 0)), (1, .ref (E.2.2 i0)), (2, .int (nI n0)), (3, .int (nI pl))]) hx hb dX3_readForm_95 hl (k := 5) rfl (nI_add k 1) (by decide) rfl (fun ls hl => ?_)
              refine lv_goto (tgt := 7) hx hb dX3_readForm_98 (by decide) ?_
              exact ih7 (k + 1) (sp + 1) pl A9 (by omega) (by omega) hpn hen (by omega) _ _ _ hP hD hS (lv_sub hl [2, 3, 4, 5, 0] rfl)
            · skip
              have hc9 := of_decide_eq_false c_10
              have hmE : prC E a (if sp < q 0 ∧ (F 0) sp = (sch q16.2.2 k) then upn (upn q 2 sp) 2 (sp + 1) else (upn q 2 sp)) (upr F 2 A9) = prC E a (upn q 2 sp) (upr F 2 A9) := by rw [if_neg hc9]
              rw [hmE] at hP hD; clear hmE
              have hfn : (frmR (F 0) (q 0) (tl q16.2.2) (q 2) (n0 * 4) (F 2)) = (sp, 0, A9) := by rw [heq]; rw [htd, frmR_sf hss hc9]
              refine lv_iconst (v := nI 0) hx hb dX3_readForm_47 (by decide) ?_
              have hmE : prC E a (upn q 2 sp) (upr F 2 A9) = prC E a (upn q 2 (frmR (F 0) (q 0) (tl q16.2.2) (q 2) (n0 * 4) (F 2)).1) (upr F 2 (frmR (F 0) (q 0) (tl q16.2.2) (q 2) (n0 * 4) (F 2)).2.2) := by rw [hfn]
              rw [hmE] at hP hD; clear hmE
              exact hret _ _ (nI 0) () _ _ hP hD hS (by decide) (by rw [hfn]) dX3_readForm_48
  rw [show prC E a q F = prC E a (upn q 2 (q 2)) (upr F 2 (F 2)) from by rw [upn_id, upr_id]] at hP hD
  exact loop7 _ 0 (q 2) (n0 * 4) (F 2) (by omega) (by omega) rfl rfl (Nat.lt_succ_self _) _ _ _ hP hD hS (lv_sub hl [2, 3, 4, 1, 0] rfl)
