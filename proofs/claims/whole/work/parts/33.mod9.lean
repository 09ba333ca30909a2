abbrev rm_X6_here : Room := { frames := 0, cells := 0, slots := 0, locals := 0 }
set_option maxHeartbeats 4000000 in
set_option maxRecDepth 100000 in
theorem c_X6_here (l : Launch) (E : EE) (sz : Nat) (b : Nat → Nat) (z : Nat → Nat) (g : GG) (gs : Nat → GG) (ar : GG) (n0 : Nat) (h8 : z 8 + n0 < 1000) (h9 : z 9 ≤ 60) : MI l yX6_here cX6_here 2 .int rm_X6_here [.ref (b 0), .int (nI n0)] E sz [moC E b z g gs ar] (fun (r : Int32) (_ : Unit) => r = nI (hrE (z 9) (ar 0) (z 8 + n0)) - 1) (fun _ => [moC E b z g gs ar]) 0 0 := by
  refine mi_go (by decide) (Nat.le_of_ble_eq_true rfl) ?_
  intro p e s m below meth c A Q ls hx hb hml hown hts hK hZ hA hsz hP hD hl hret
  have hS : va_S A s.heap s.heap [] := va_S.rf
  have hl : lv_has ls 2 [(0, .ref (b 0)), (1, .int (nI n0))] := hl
  skip
  refine lv_aload_n hx hb dX6_here_0 rfl (lv_at hl 0 rfl) ?_
  refine va_get (D := E.1) (ci := 10) (v := .int (nI (z 8))) (C := RX6) (T := TX6) (N := 20) hx hb hts inX6 hown hK hP 0 rfl rfl 16 (by decide) (hts _ q1450) (fun _ h9 => h9) rfl dX6_here_1 ?_
  refine lv_iload_n hx hb dX6_here_4 rfl (lv_at hl 1 rfl) ?_
  refine nv_iadd hx hb dX6_here_5 ?_
  refine lv_aload_n hx hb dX6_here_6 rfl (lv_at hl 0 rfl) ?_
  refine va_get (D := E.1) (ci := 10) (v := .int (nI (z 9))) (C := RX6) (T := TX6) (N := 20) hx hb hts inX6 hown hK hP 0 rfl rfl 17 (by decide) (hts _ q1451) (fun _ h9 => h9) rfl dX6_here_7 ?_
  refine nv_icmp_ge (X := ((z 8 + n0 : Nat) : Int)) (Y := ((z 9 : Nat) : Int)) hx hb (nI_toInt (by omega)) (nI_toInt (by omega)) (tgt := 27) dX6_here_10 (by decide) (fun c_1 => ?_) (fun c_1 => ?_)
  · skip
    refine lv_iconst (v := -1) hx hb dX6_here_27 (by decide) ?_
    exact hret _ _ (-1 : Int32) () _ _ hP hD hS rfl (by unfold hrE; rw [if_neg (by omega)]; rfl) dX6_here_28
  · skip
    refine lv_aload_n hx hb dX6_here_13 rfl (lv_at hl 0 rfl) ?_
    refine va_get (D := E.1) (ci := 10) (v := .ref (b 6)) (C := RX6) (T := TX6) (N := 20) hx hb hts inX6 hown hK hP 0 rfl rfl 8 (by decide) (hts _ q1442) (fun _ h9 => h9) rfl dX6_here_14 ?_
    refine lv_aload_n hx hb dX6_here_17 rfl (lv_at hl 0 rfl) ?_
    refine va_get (D := E.1) (ci := 10) (v := .int (nI (z 8))) (C := RX6) (T := TX6) (N := 20) hx hb hts inX6 hown hK hP 0 rfl rfl 16 (by decide) (hts _ q1450) (fun _ h9 => h9) rfl dX6_here_18 ?_
    refine lv_iload_n hx hb dX6_here_21 rfl (lv_at hl 1 rfl) ?_
    refine nv_iadd hx hb dX6_here_22 ?_
    refine nv_iald (f := (ar 0)) (i := z 8 + n0) (n := 60) hx hb hK hP 6 0 rfl rfl (by omega) (by decide) dX6_here_23 ?_
    refine lv_goto (tgt := 28) hx hb dX6_here_24 (by decide) ?_
    exact hret _ _ (nI ((ar 0) (z 8 + n0))) () _ _ hP hD hS rfl (by unfold hrE; rw [if_pos (by omega)]; exact m1_of _) dX6_here_28
abbrev rm_X6_says : Room := { frames := 4, cells := 0, slots := 0, locals := 85 }
set_option maxHeartbeats 4000000 in
set_option maxRecDepth 100000 in
theorem c_X6_says (l : Launch) (E : EE) (sz : Nat) (b : Nat → Nat) (z : Nat → Nat) (g : GG) (gs : Nat → GG) (ar : GG) (i0 : Nat) (q0 : String × Nat × String) (hi : sRef[i0]? = some q0) (h8 : z 8 ≤ z 9) (h9 : z 9 ≤ 60) (h11 : z 11 ≤ 1) (ho : ∀ j, ar 0 j < 65536)  : MV l yX6_says cX6_says 3 rm_X6_says [.ref (b 0), .ref (E.2.2 i0)] E sz [moC E b z g gs ar] (fun (_ : Unit) => True) (fun _ => [moC E b (upn (upn z 8 (sayR (ar 0) (z 9) (tl q0.2.2) (z 8) (z 11)).1) 11 (sayR (ar 0) (z 9) (tl q0.2.2) (z 8) (z 11)).2) g gs ar]) 0 0 := by
  refine mv_go (by decide) (Nat.le_of_ble_eq_true rfl) ?_
  intro p e s m below meth c A Q ls hx hb hml hown hts hK hZ hA hsz hP hD hl hret hnm
  have hS : va_S A s.heap s.heap [] := va_S.rf
  have hl : lv_has ls 3 [(0, .ref (b 0)), (1, .ref (E.2.2 i0))] := hl
  skip
  have hlen := str_l hi
  refine lv_iconst (v := nI 0) hx hb dX6_says_0 (by decide) ?_
  refine lv_istore_n (lv' := [(2, .int (nI 0)), (0, .ref (b 0)), (1, .ref (E.2.2 i0))]) hx hb dX6_says_1 rfl hl (by decide) rfl (fun ls hl => ?_)
  have loop2 : ∀ (n : Nat) (k : Nat) (sp : Nat) (v : Nat), (k ≤ q0.2.2.length) → (sp ≤ z 9) → (v ≤ 1) → ((sayR (ar 0) (z 9) (tl q0.2.2) (z 8) (z 11)) = sayR (ar 0) (z 9) ((tl q0.2.2).drop k) sp v) → q0.2.2.length - k < n → ∀ (H : Heap) (locs : List Loc) (ls : Array Slot), va_P E.1 vwCl ([moC E b (upn (upn z 8 sp) 11 v) g gs ar] : List va_W).flatten H → va_D A ([moC E b (upn (upn z 8 sp) 11 v) g gs ar] : List va_W).flatten → va_S A s.heap H locs → lv_has ls 3 [(0, .ref (b 0)), (1, .ref (E.2.2 i0)), (2, .int (nI k))] → W p l e rm_X6_says s m ([.ref (b 0), .ref (E.2.2 i0)] : List Value).toArray below meth c H locs 0 0 Q (F0 m 2 ls []) := by
    intro n2
    induction n2 with
    | zero => intro k sp v hk hsp hv heq hn2; exact absurd hn2 (Nat.not_lt_zero _)
    | succ n2 ih2 =>
      intro k sp v hk hsp hv heq hn2 H locs ls hP hD hS hl
      refine lv_iload_n hx hb dX6_says_2 rfl (lv_at hl 2 rfl) ?_
      refine lv_aload_n hx hb dX6_says_3 rfl (lv_at hl 1 rfl) ?_
      refine run_i (S := Unit) (run_K (As := []) (rest := [.int (nI k)]) (bs := [moC E b (upn (upn z 8 sp) 11 v) g gs ar]) (cb := []) hx hb hml hown hts hK hZ hA (c_J0_length_8abf5 l E _ i0 q0 hi  ) l_X6_170 rfl ⟨⟨rfl, rfl⟩, Nat.le_of_ble_eq_true rfl, Nat.le_of_ble_eq_true rfl⟩ (vk_recv (i := 0) (hZ.2.2.2.2.1 i0 q0 hi).1 (by decide) hS) [] rfl (by decide) hP hD hS hl.1 rfl (Nat.le_of_ble_eq_true rfl) dX6_says_4 ⟨Nat.zero_le _, Nat.zero_le _⟩) hA hP hD hS (isC := []) rfl [0] [0] (br := [moC E b (upn (upn z 8 sp) 11 v) g gs ar]) (bs2 := fun _ => [moC E b (upn (upn z 8 sp) 11 v) g gs ar]) rfl (by decide) (fun _ => rfl) (by decide) (fun r u H locs hw hP hD hS => ?_)
      subst hw
      refine nv_icmp_ge (X := ((k : Nat) : Int)) (Y := ((q0.2.2.length : Nat) : Int)) hx hb (nI_toInt (by omega)) (nI_toInt (by omega)) (tgt := 66) dX6_says_7 (by decide) (fun c_1 => ?_) (fun c_1 => ?_)
      · skip
        have hfin : (sayR (ar 0) (z 9) (tl q0.2.2) (z 8) (z 11)) = (sp, v) := by rw [heq, show (tl q0.2.2).drop k = [] from List.drop_eq_nil_iff.mpr (by rw [tl_len]; omega)]; rfl
        have hmE : moC E b (upn (upn z 8 sp) 11 v) g gs ar = moC E b (upn (upn z 8 (sayR (ar 0) (z 9) (tl q0.2.2) (z 8) (z 11)).1) 11 (sayR (ar 0) (z 9) (tl q0.2.2) (z 8) (z 11)).2) g gs ar := by rw [hfin]
        rw [hmE] at hP hD; clear hmE
        exact hret _ _ () _ _ hP hD hS trivial dX6_says_66
      · skip
        obtain ⟨-, hc6⟩ := str_c hi (show k < q0.2.2.length by omega)
        refine lv_aload_n hx hb dX6_says_10 rfl (lv_at hl 0 rfl) ?_
        refine va_get (D := E.1) (ci := 10) (v := .int (nI v)) (C := RX6) (T := TX6) (N := 20) hx hb hts inX6 hown hK hP 0 rfl rfl 19 (by decide) (hts _ q1453) (fun _ h9 => h9) rfl dX6_says_11 ?_
        refine nv_if_ne (X := ((v : Nat) : Int)) hx hb (nI_toInt (by omega)) (tgt := 66) dX6_says_14 (by decide) (fun c_2 => ?_) (fun c_2 => ?_)
        · skip
          have hfin : (sayR (ar 0) (z 9) (tl q0.2.2) (z 8) (z 11)) = (sp, v) := by rw [heq, sayR_w (by omega)]
          have hmE : moC E b (upn (upn z 8 sp) 11 v) g gs ar = moC E b (upn (upn z 8 (sayR (ar 0) (z 9) (tl q0.2.2) (z 8) (z 11)).1) 11 (sayR (ar 0) (z 9) (tl q0.2.2) (z 8) (z 11)).2) g gs ar := by rw [hfin]
          rw [hmE] at hP hD; clear hmE
          exact hret _ _ () _ _ hP hD hS trivial dX6_says_66
        · skip
          have hv0 : v = 0 := by omega
          refine lv_aload_n hx hb dX6_says_17 rfl (lv_at hl 0 rfl) ?_
          refine lv_aload_n hx hb dX6_says_18 rfl (lv_at hl 0 rfl) ?_
          refine lv_iconst (v := nI 0) hx hb dX6_says_19 (by decide) ?_
          refine run_i (S := Unit) (run_V (As := [.int (nI 0)]) (rest := [.ref (b 0)]) (bs := [moC E b (upn (upn z 8 sp) 11 v) g gs ar]) (cb := [moC E b (upn (upn z 8 sp) 11 v) g gs ar]) hx hb hml hown hts hK hZ hA (c_X6_here l E _ b (upn (upn z 8 sp) 11 v) g gs ar 0 (show sp + 0 < 1000 by omega) (show z 9 ≤ 60 by omega)) l_X6_179 rfl ⟨⟨rfl, rfl⟩, Nat.le_of_ble_eq_true rfl, Nat.le_of_ble_eq_true rfl⟩ 10 rfl [0] rfl (by decide) rfl hP hD hS hl.1 rfl (Nat.le_of_ble_eq_true rfl) dX6_says_20 ⟨Nat.zero_le _, Nat.zero_le _⟩) hA hP hD hS (isC := [0]) rfl [] [0] (br := []) (bs2 := fun _ => [moC E b (upn (upn z 8 sp) 11 v) g gs ar]) rfl (by decide) (fun _ => rfl) (by decide) (fun r u H locs hw hP hD hS => ?_)
          have hw : r = nI (hrE (z 9) (ar 0) (sp + 0)) - 1 := hw
          subst hw
          have hhr := hrE_le (e := z 9) (sp := sp + 0) (tx := (ar 0)) ho
          refine lv_aload_n hx hb dX6_says_23 rfl (lv_at hl 1 rfl) ?_
          refine lv_iload_n hx hb dX6_says_24 rfl (lv_at hl 2 rfl) ?_
          refine run_i (S := Unit) (run_K (As := [.int (nI k)]) (rest := [.int (nI (hrE (z 9) (ar 0) (sp + 0)) - 1), .ref (b 0)]) (bs := [moC E b (upn (upn z 8 sp) 11 v) g gs ar]) (cb := []) hx hb hml hown hts hK hZ hA (c_J0_charAt_5068e l E _ i0 q0 hi k (by omega)) l_X6_182 rfl ⟨⟨rfl, rfl⟩, Nat.le_of_ble_eq_true rfl, Nat.le_of_ble_eq_true rfl⟩ (vk_recv (i := 0) (hZ.2.2.2.2.1 i0 q0 hi).1 (by decide) hS) [] rfl (by decide) hP hD hS hl.1 rfl (Nat.le_of_ble_eq_true rfl) dX6_says_25 ⟨Nat.zero_le _, Nat.zero_le _⟩) hA hP hD hS (isC := []) rfl [0] [0] (br := [moC E b (upn (upn z 8 sp) 11 v) g gs ar]) (bs2 := fun _ => [moC E b (upn (upn z 8 sp) 11 v) g gs ar]) rfl (by decide) (fun _ => rfl) (by decide) (fun r u H locs hw hP hD hS => ?_)
          subst hw
          refine nv_icmp_eq (X := ((hrE (z 9) (ar 0) (sp + 0) : Nat) : Int) - 1) (Y := ((sch q0.2.2 k : Nat) : Int)) hx hb (m1_t (by omega)) (nI_toInt (by omega)) (tgt := 35) dX6_says_28 (by decide) (fun c_3 => ?_) (fun c_3 => ?_)
          · skip
            have hs : sp < z 9 ∧ ar 0 sp = sch q0.2.2 k := hrE_eq (show hrE (z 9) (ar 0) (sp + 0) = sch q0.2.2 k + 1 by omega)
            refine lv_iconst (v := nI 0) hx hb dX6_says_35 (by decide) ?_
            refine va_put (D := E.1) (ci := 10) (v := .int (nI 0)) (ty := .boolean) (C := RX6) (T := TX6) (N := 20) hx hb hts inX6 tyX6 tyX6_ok nmX6 hown hK hP hD hS 0 rfl rfl 19 (by decide) (hts _ q1453) (fun _ h9 => h9) rfl (by decide +kernel) (by decide) rfl (Nat.le_of_ble_eq_true rfl) dX6_says_36 (fun H locs hP hD hS => ?_)
            have hP : va_P E.1 vwCl ([moC E b (upn (upn (upn z 8 sp) 11 v) 11 0) g gs ar] : List va_W).flatten H := hP
            have hD : va_D A ([moC E b (upn (upn (upn z 8 sp) 11 v) 11 0) g gs ar] : List va_W).flatten := hD
            refine lv_aload_n hx hb dX6_says_39 rfl (lv_at hl 0 rfl) ?_
            refine lv_dup hx hb dX6_says_40 rfl ?_
            refine va_get (D := E.1) (ci := 10) (v := .int (nI sp)) (C := RX6) (T := TX6) (N := 20) hx hb hts inX6 hown hK hP 0 rfl rfl 16 (by decide) (hts _ q1450) (fun _ h9 => h9) rfl dX6_says_41 ?_
            refine lv_aload_n hx hb dX6_says_44 rfl (lv_at hl 0 rfl) ?_
            refine va_get (D := E.1) (ci := 10) (v := .int (nI 0)) (C := RX6) (T := TX6) (N := 20) hx hb hts inX6 hown hK hP 0 rfl rfl 19 (by decide) (hts _ q1453) (fun _ h9 => h9) rfl dX6_says_45 ?_
            refine nv_if_eq (X := ((0 : Nat) : Int)) hx hb (nI_toInt (by omega)) (tgt := 55) dX6_says_48 (by decide) (fun c_4 => ?_) (fun c_4 => ?_)
            · skip
              refine lv_iconst (v := nI 1) hx hb dX6_says_55 (by decide) ?_
              refine nv_iadd hx hb dX6_says_56 ?_
              refine va_put (D := E.1) (ci := 10) (v := .int (nI (sp + 1))) (ty := .int) (C := RX6) (T := TX6) (N := 20) hx hb hts inX6 tyX6 tyX6_ok nmX6 hown hK hP hD hS 0 rfl rfl 16 (by decide) (hts _ q1450) (fun _ h9 => h9) rfl (by decide +kernel) rfl rfl (Nat.le_of_ble_eq_true rfl) dX6_says_57 (fun H locs hP hD hS => ?_)
              have hP : va_P E.1 vwCl ([moC E b (upn (upn (upn (upn z 8 sp) 11 v) 11 0) 8 (sp + 1)) g gs ar] : List va_W).flatten H := hP
              have hD : va_D A ([moC E b (upn (upn (upn (upn z 8 sp) 11 v) 11 0) 8 (sp + 1)) g gs ar] : List va_W).flatten := hD
              have hmE : moC E b (upn (upn (upn (upn z 8 sp) 11 v) 11 0) 8 (sp + 1)) g gs ar = moC E b (upn (upn z 8 (sp + 1)) 11 0) g gs ar := by rw [z_811]
              rw [hmE] at hP hD; clear hmE
              refine lv_iinc (v := nI (k + 1)) (lv' := [(2, .int (nI (k + 1))), (0, .ref (b 0)), (1, .ref (E.2.2 i0))]) hx hb dX6_says_60 hl (k := 2) rfl (nI_add k 1) (by decide) rfl (fun ls hl => ?_)
              refine lv_goto (tgt := 2) hx hb dX6_says_63 (by decide) ?_
              exact ih2 (k + 1) (sp + 1) 0 (by omega) (by omega) (by omega) (by first | (rw [heq, tl_drop (by omega), hv0, sayR_t hs.1 hs.2]) | (rw [heq, tl_drop (by omega), hv0, sayR_f hs, sayR_w (by decide)])) (by omega) _ _ _ hP hD hS (lv_sub hl [1, 2, 0] rfl)
            · exact absurd c_4 (by omega)
          · skip
            have hs : ¬ (sp < z 9 ∧ ar 0 sp = sch q0.2.2 k) := fun q => by have := hrE_of (tx := ar 0) q.1; have h2 : hrE (z 9) (ar 0) (sp + 0) = hrE (z 9) (ar 0) sp := rfl; omega
            refine lv_iconst (v := nI 1) hx hb dX6_says_31 (by decide) ?_
            refine lv_goto (tgt := 36) hx hb dX6_says_32 (by decide) ?_
            refine va_put (D := E.1) (ci := 10) (v := .int (nI 1)) (ty := .boolean) (C := RX6) (T := TX6) (N := 20) hx hb hts inX6 tyX6 tyX6_ok nmX6 hown hK hP hD hS 0 rfl rfl 19 (by decide) (hts _ q1453) (fun _ h9 => h9) rfl (by decide +kernel) (by decide) rfl (Nat.le_of_ble_eq_true rfl) dX6_says_36 (fun H locs hP hD hS => ?_)
            have hP : va_P E.1 vwCl ([moC E b (upn (upn (upn z 8 sp) 11 v) 11 1) g gs ar] : List va_W).flatten H := hP
            have hD : va_D A ([moC E b (upn (upn (upn z 8 sp) 11 v) 11 1) g gs ar] : List va_W).flatten := hD
            refine lv_aload_n hx hb dX6_says_39 rfl (lv_at hl 0 rfl) ?_
            refine lv_dup hx hb dX6_says_40 rfl ?_
            refine va_get (D := E.1) (ci := 10) (v := .int (nI sp)) (C := RX6) (T := TX6) (N := 20) hx hb hts inX6 hown hK hP 0 rfl rfl 16 (by decide) (hts _ q1450) (fun _ h9 => h9) rfl dX6_says_41 ?_
            refine lv_aload_n hx hb dX6_says_44 rfl (lv_at hl 0 rfl) ?_
            refine va_get (D := E.1) (ci := 10) (v := .int (nI 1)) (C := RX6) (T := TX6) (N := 20) hx hb hts inX6 hown hK hP 0 rfl rfl 19 (by decide) (hts _ q1453) (fun _ h9 => h9) rfl dX6_says_45 ?_
            refine nv_if_eq (X := ((1 : Nat) : Int)) hx hb (nI_toInt (by omega)) (tgt := 55) dX6_says_48 (by decide) (fun c_5 => ?_) (fun c_5 => ?_)
            · exact absurd c_5 (by omega)
            · skip
              refine lv_iconst (v := nI 0) hx hb dX6_says_51 (by decide) ?_
              refine lv_goto (tgt := 56) hx hb dX6_says_52 (by decide) ?_
              refine nv_iadd hx hb dX6_says_56 ?_
              refine va_put (D := E.1) (ci := 10) (v := .int (nI (sp + 0))) (ty := .int) (C := RX6) (T := TX6) (N := 20) hx hb hts inX6 tyX6 tyX6_ok nmX6 hown hK hP hD hS 0 rfl rfl 16 (by decide) (hts _ q1450) (fun _ h9 => h9) rfl (by decide +kernel) rfl rfl (Nat.le_of_ble_eq_true rfl) dX6_says_57 (fun H locs hP hD hS => ?_)
              have hP : va_P E.1 vwCl ([moC E b (upn (upn (upn (upn z 8 sp) 11 v) 11 1) 8 (sp + 0)) g gs ar] : List va_W).flatten H := hP
              have hD : va_D A ([moC E b (upn (upn (upn (upn z 8 sp) 11 v) 11 1) 8 (sp + 0)) g gs ar] : List va_W).flatten := hD
              have hmE : moC E b (upn (upn (upn (upn z 8 sp) 11 v) 11 1) 8 (sp + 0)) g gs ar = moC E b (upn (upn z 8 sp) 11 1) g gs ar := by rw [z_811, Nat.add_zero]
              rw [hmE] at hP hD; clear hmE
              refine lv_iinc (v := nI (k + 1)) (lv' := [(2, .int (nI (k + 1))), (0, .ref (b 0)), (1, .ref (E.2.2 i0))]) hx hb dX6_says_60 hl (k := 2) rfl (nI_add k 1) (by decide) rfl (fun ls hl => ?_)
              refine lv_goto (tgt := 2) hx hb dX6_says_63 (by decide) ?_
              exact ih2 (k + 1) sp 1 (by omega) (by omega) (by omega) (by first | (rw [heq, tl_drop (by omega), hv0, sayR_t hs.1 hs.2]) | (rw [heq, tl_drop (by omega), hv0, sayR_f hs, sayR_w (by decide)])) (by omega) _ _ _ hP hD hS (lv_sub hl [1, 2, 0] rfl)
  rw [show moC E b z g gs ar = moC E b (upn (upn z 8 (z 8)) 11 (z 11)) g gs ar from by rw [z_id2]] at hP hD
  exact loop2 _ 0 (z 8) (z 11) (by omega) (by omega) (by omega) rfl (Nat.lt_succ_self _) _ _ _ hP hD hS (lv_sub hl [1, 2, 0] rfl)
abbrev rm_X6_number : Room := { frames := 5, cells := 0, slots := 0, locals := 107 }
set_option maxHeartbeats 4000000 in
set_option maxRecDepth 100000 in
theorem c_X6_number (l : Launch) (E : EE) (sz : Nat) (b : Nat → Nat) (z : Nat → Nat) (g : GG) (gs : Nat → GG) (ar : GG) (i0 : Nat) (q0 : String × Nat × String) (hi : sRef[i0]? = some q0) (k0 n0 : Nat) (h8 : z 8 ≤ z 9) (h9 : z 9 ≤ 60) (h11 : z 11 ≤ 1) (ho : ∀ j, ar 0 j < 65536) (h10 : z 10 ≤ 50) (hk0 : k0 ≤ 4) (hn0 : n0 ≤ 2)  : MV l yX6_number cX6_number 6 rm_X6_number [.ref (b 0), .ref (E.2.2 i0), .int (nI k0), .int (nI n0)] E sz [moC E b z g gs ar] (fun (_ : Unit) => True) (fun _ => [moC E b (upn (upn z 8 (numR (ar 0) (z 9) (tl q0.2.2) n0 (z 8) (z 11)).1) 11 (numR (ar 0) (z 9) (tl q0.2.2) n0 (z 8) (z 11)).2.1) g gs (upr ar 1 (upn (ar 1) (5 * z 10 + k0) (numR (ar 0) (z 9) (tl q0.2.2) n0 (z 8) (z 11)).2.2))]) 0 0 := by
  refine mv_go (by decide) (Nat.le_of_ble_eq_true rfl) ?_
  intro p e s m below meth c A Q ls hx hb hml hown hts hK hZ hA hsz hP hD hl hret hnm
  have hS : va_S A s.heap s.heap [] := va_S.rf
  have hl : lv_has ls 6 [(0, .ref (b 0)), (1, .ref (E.2.2 i0)), (2, .int (nI k0)), (3, .int (nI n0))] := hl
  skip
  refine lv_aload_n hx hb dX6_number_0 rfl (lv_at hl 0 rfl) ?_
  refine lv_aload_n hx hb dX6_number_1 rfl (lv_at hl 1 rfl) ?_
  refine run_v (S := Unit) (run_V (As := [.ref (E.2.2 i0)]) (rest := []) (bs := [moC E b z g gs ar]) (cb := [moC E b z g gs ar]) hx hb hml hown hts hK hZ hA (c_X6_says l E _ b z g gs ar i0 q0 hi (show z 8 ≤ z 9 by omega) (show z 9 ≤ 60 by omega) (show z 11 ≤ 1 by omega) ho) l_X6_186 rfl ⟨⟨rfl, rfl⟩, Nat.le_of_ble_eq_true rfl, Nat.le_of_ble_eq_true rfl⟩ 10 rfl [0] rfl (by decide) rfl hP hD hS hl.1 rfl (Nat.le_of_ble_eq_true rfl) dX6_number_2 ⟨Nat.zero_le _, Nat.zero_le _⟩) hA hP hD hS (isC := [0]) rfl [] [0] (br := []) (bs2 := fun _ => [moC E b (upn (upn z 8 ((sayR (ar 0) (z 9) (tl q0.2.2) (z 8) (z 11)).1)) 11 ((sayR (ar 0) (z 9) (tl q0.2.2) (z 8) (z 11)).2)) g gs ar]) rfl (by decide) (fun _ => rfl) (by decide) (fun u H locs hw hP hD hS => ?_)
  have hS_3L := sayR_le (tx := (ar 0)) (l := tl q0.2.2) (w := z 11) (show z 8 ≤ z 9 by omega)
  rcases hS_3 : sayR (ar 0) (z 9) (tl q0.2.2) (z 8) (z 11) with ⟨s1, s2⟩
  rw [hS_3] at hP hD hS_3L
  obtain ⟨hS_3a, hS_3b, hS_3c⟩ := hS_3L
  have hS_3d := hS_3c (by omega)
  have hS9 := hS_3
  have hP : va_P E.1 vwCl ([moC E b (upn (upn z 8 s1) 11 s2) g gs ar] : List va_W).flatten H := hP
  have hD : va_D A ([moC E b (upn (upn z 8 s1) 11 s2) g gs ar] : List va_W).flatten := hD
  refine lv_iconst (v := nI 0) hx hb dX6_number_5 (by decide) ?_
  refine lv_istore (lv' := [(4, .int (nI 0)), (0, .ref (b 0)), (1, .ref (E.2.2 i0)), (2, .int (nI k0)), (3, .int (nI n0))]) hx hb dX6_number_6 hl (by decide) rfl (fun ls hl => ?_)
  refine lv_iconst (v := nI 0) hx hb dX6_number_8 (by decide) ?_
  refine lv_istore (lv' := [(5, .int (nI 0)), (4, .int (nI 0)), (0, .ref (b 0)), (1, .ref (E.2.2 i0)), (2, .int (nI k0)), (3, .int (nI n0))]) hx hb dX6_number_9 hl (by decide) rfl (fun ls hl => ?_)
  have loop11 : ∀ (n : Nat) (sp : Nat) (nn : Nat) (d : Nat), (sp ≤ z 9) → (d ≤ n0) → (nn + 1 ≤ 10 ^ d) → (s2 = 0 → digR (ar 0) (z 9) n0 s1 0 0 = digR (ar 0) (z 9) (n0 - d) sp nn d) → (s2 ≠ 0 → s1 = sp ∧ nn = 0 ∧ d = 0) → n0 - d < n → ∀ (H : Heap) (locs : List Loc) (ls : Array Slot), va_P E.1 vwCl ([moC E b (upn (upn z 8 sp) 11 s2) g gs ar] : List va_W).flatten H → va_D A ([moC E b (upn (upn z 8 sp) 11 s2) g gs ar] : List va_W).flatten → va_S A s.heap H locs → lv_has ls 6 [(0, .ref (b 0)), (1, .ref (E.2.2 i0)), (2, .int (nI k0)), (3, .int (nI n0)), (4, .int (nI nn)), (5, .int (nI d))] → W p l e rm_X6_number s m ([.ref (b 0), .ref (E.2.2 i0), .int (nI k0), .int (nI n0)] : List Value).toArray below meth c H locs 0 0 Q (F0 m 11 ls []) := by
    intro n11
    induction n11 with
    | zero => intro sp nn d hsp hd hn heq hne hn11; exact absurd hn11 (Nat.not_lt_zero _)
    | succ n11 ih11 =>
      intro sp nn d hsp hd hn heq hne hn11 H locs ls hP hD hS hl
      refine lv_aload_n hx hb dX6_number_11 rfl (lv_at hl 0 rfl) ?_
      refine va_get (D := E.1) (ci := 10) (v := .int (nI s2)) (C := RX6) (T := TX6) (N := 20) hx hb hts inX6 hown hK hP 0 rfl rfl 19 (by decide) (hts _ q1453) (fun _ h9 => h9) rfl dX6_number_12 ?_
      refine nv_if_ne (X := ((s2 : Nat) : Int)) hx hb (nI_toInt (by omega)) (tgt := 71) dX6_number_15 (by decide) (fun c_4 => ?_) (fun c_4 => ?_)
      · skip
        have hx9 : s2 = 0 → digR (ar 0) (z 9) (n0 - d) sp nn d = (sp, nn, d) := fun q => by omega
        refine lv_aload_n hx hb dX6_number_71 rfl (lv_at hl 0 rfl) ?_
        refine lv_aload_n hx hb dX6_number_72 rfl (lv_at hl 0 rfl) ?_
        refine va_get (D := E.1) (ci := 10) (v := .int (nI s2)) (C := RX6) (T := TX6) (N := 20) hx hb hts inX6 hown hK hP 0 rfl rfl 19 (by decide) (hts _ q1453) (fun _ h9 => h9) rfl dX6_number_73 ?_
        refine nv_if_ne (X := ((s2 : Nat) : Int)) hx hb (nI_toInt (by omega)) (tgt := 84) dX6_number_76 (by decide) (fun c_5 => ?_) (fun c_5 => ?_)
        · skip
          refine lv_iconst (v := nI 1) hx hb dX6_number_84 (by decide) ?_
          refine lv_goto (tgt := 89) hx hb dX6_number_85 (by decide) ?_
          refine va_put (D := E.1) (ci := 10) (v := .int (nI 1)) (ty := .boolean) (C := RX6) (T := TX6) (N := 20) hx hb hts inX6 tyX6 tyX6_ok nmX6 hown hK hP hD hS 0 rfl rfl 19 (by decide) (hts _ q1453) (fun _ h9 => h9) rfl (by decide +kernel) (by decide) rfl (Nat.le_of_ble_eq_true rfl) dX6_number_89 (fun H locs hP hD hS => ?_)
          have hP : va_P E.1 vwCl ([moC E b (upn (upn (upn z 8 sp) 11 s2) 11 1) g gs ar] : List va_W).flatten H := hP
          have hD : va_D A ([moC E b (upn (upn (upn z 8 sp) 11 s2) 11 1) g gs ar] : List va_W).flatten := hD
          refine lv_aload_n hx hb dX6_number_92 rfl (lv_at hl 0 rfl) ?_
          refine va_get (D := E.1) (ci := 10) (v := .ref (b 7)) (C := RX6) (T := TX6) (N := 20) hx hb hts inX6 hown hK hP 0 rfl rfl 9 (by decide) (hts _ q1443) (fun _ h9 => h9) rfl dX6_number_93 ?_
          refine lv_iconst (v := nI 5) hx hb dX6_number_96 (by decide) ?_
          refine lv_aload_n hx hb dX6_number_97 rfl (lv_at hl 0 rfl) ?_
          refine va_get (D := E.1) (ci := 10) (v := .int (nI (z 10))) (C := RX6) (T := TX6) (N := 20) hx hb hts inX6 hown hK hP 0 rfl rfl 18 (by decide) (hts _ q1452) (fun _ h9 => h9) rfl dX6_number_98 ?_
          refine nv_imul hx hb dX6_number_101 ?_
          refine lv_iload_n hx hb dX6_number_102 rfl (lv_at hl 2 rfl) ?_
          refine nv_iadd hx hb dX6_number_103 ?_
          refine lv_iload hx hb dX6_number_104 (lv_at hl 4 rfl) ?_
          refine nv_iast (f := (ar 1)) (i := 5 * (z 10) + k0) (v := nn) (n := 300) hx hb hK hP hD hS 7 0 rfl rfl (by omega) (by decide) dX6_number_106 (fun H locs hP hD hS => ?_)
          have hP : va_P E.1 vwCl ([moC E b (upn (upn (upn z 8 sp) 11 s2) 11 1) g gs (upr ar 1 (upn (ar 1) (5 * (z 10) + k0) nn))] : List va_W).flatten H := hP
          have hD : va_D A ([moC E b (upn (upn (upn z 8 sp) 11 s2) 11 1) g gs (upr ar 1 (upn (ar 1) (5 * (z 10) + k0) nn))] : List va_W).flatten := hD
          have hp10 : (10 : Nat) ^ d ≤ 10 ^ 2 := Nat.pow_le_pow_right (by decide) (by omega)
          have hR : (numR (ar 0) (z 9) (tl q0.2.2) n0 (z 8) (z 11)) = (sp, 1, nn) := by
            unfold numR
            rw [hS9]
            by_cases hs0 : s2 = 0
            · first | (exfalso; omega) | (rw [if_pos hs0, heq hs0, hx9 hs0]; show (sp, (if d = 0 then 1 else 0), nn) = _; first | rw [if_pos (by omega)] | rw [if_neg (by omega)])
            · first | (exfalso; omega) | (rw [if_neg hs0]; obtain ⟨q1, q2, q3⟩ := hne hs0; show (s1, s2, 0) = _; rw [q1, q2, show s2 = 1 by omega])
          have hmE : moC E b (upn (upn (upn z 8 sp) 11 s2) 11 1) g gs (upr ar 1 (upn (ar 1) (5 * (z 10) + k0) nn)) = moC E b (upn (upn z 8 (numR (ar 0) (z 9) (tl q0.2.2) n0 (z 8) (z 11)).1) 11 (numR (ar 0) (z 9) (tl q0.2.2) n0 (z 8) (z 11)).2.1) g gs (upr ar 1 (upn (ar 1) (5 * z 10 + k0) (numR (ar 0) (z 9) (tl q0.2.2) n0 (z 8) (z 11)).2.2)) := by rw [hR, z_811b]
          rw [hmE] at hP hD; clear hmE
          exact hret _ _ () _ _ hP hD hS trivial dX6_number_107
        · skip
          refine lv_iload hx hb dX6_number_79 (lv_at hl 5 rfl) ?_
          refine nv_if_ne (X := ((d : Nat) : Int)) hx hb (nI_toInt (by omega)) (tgt := 88) dX6_number_81 (by decide) (fun c_6 => ?_) (fun c_6 => ?_)
          · skip
            refine lv_iconst (v := nI 0) hx hb dX6_number_88 (by decide) ?_
            refine va_put (D := E.1) (ci := 10) (v := .int (nI 0)) (ty := .boolean) (C := RX6) (T := TX6) (N := 20) hx hb hts inX6 tyX6 tyX6_ok nmX6 hown hK hP hD hS 0 rfl rfl 19 (by decide) (hts _ q1453) (fun _ h9 => h9) rfl (by decide +kernel) (by decide) rfl (Nat.le_of_ble_eq_true rfl) dX6_number_89 (fun H locs hP hD hS => ?_)
            have hP : va_P E.1 vwCl ([moC E b (upn (upn (upn z 8 sp) 11 s2) 11 0) g gs ar] : List va_W).flatten H := hP
            have hD : va_D A ([moC E b (upn (upn (upn z 8 sp) 11 s2) 11 0) g gs ar] : List va_W).flatten := hD
            refine lv_aload_n hx hb dX6_number_92 rfl (lv_at hl 0 rfl) ?_
            refine va_get (D := E.1) (ci := 10) (v := .ref (b 7)) (C := RX6) (T := TX6) (N := 20) hx hb hts inX6 hown hK hP 0 rfl rfl 9 (by decide) (hts _ q1443) (fun _ h9 => h9) rfl dX6_number_93 ?_
            refine lv_iconst (v := nI 5) hx hb dX6_number_96 (by decide) ?_
            refine lv_aload_n hx hb dX6_number_97 rfl (lv_at hl 0 rfl) ?_
            refine va_get (D := E.1) (ci := 10) (v := .int (nI (z 10))) (C := RX6) (T := TX6) (N := 20) hx hb hts inX6 hown hK hP 0 rfl rfl 18 (by decide) (hts _ q1452) (fun _ h9 => h9) rfl dX6_number_98 ?_
            refine nv_imul hx hb dX6_number_101 ?_
            refine lv_iload_n hx hb dX6_number_102 rfl (lv_at hl 2 rfl) ?_
            refine nv_iadd hx hb dX6_number_103 ?_
            refine lv_iload hx hb dX6_number_104 (lv_at hl 4 rfl) ?_
            refine nv_iast (f := (ar 1)) (i := 5 * (z 10) + k0) (v := nn) (n := 300) hx hb hK hP hD hS 7 0 rfl rfl (by omega) (by decide) dX6_number_106 (fun H locs hP hD hS => ?_)
            have hP : va_P E.1 vwCl ([moC E b (upn (upn (upn z 8 sp) 11 s2) 11 0) g gs (upr ar 1 (upn (ar 1) (5 * (z 10) + k0) nn))] : List va_W).flatten H := hP
            have hD : va_D A ([moC E b (upn (upn (upn z 8 sp) 11 s2) 11 0) g gs (upr ar 1 (upn (ar 1) (5 * (z 10) + k0) nn))] : List va_W).flatten := hD
            have hp10 : (10 : Nat) ^ d ≤ 10 ^ 2 := Nat.pow_le_pow_right (by decide) (by omega)
            have hR : (numR (ar 0) (z 9) (tl q0.2.2) n0 (z 8) (z 11)) = (sp, 0, nn) := by
              unfold numR
              rw [hS9]
              by_cases hs0 : s2 = 0
              · first | (exfalso; omega) | (rw [if_pos hs0, heq hs0, hx9 hs0]; show (sp, (if d = 0 then 1 else 0), nn) = _; first | rw [if_pos (by omega)] | rw [if_neg (by omega)])
              · first | (exfalso; omega) | (rw [if_neg hs0]; obtain ⟨q1, q2, q3⟩ := hne hs0; show (s1, s2, 0) = _; rw [q1, q2, show s2 = 1 by omega])
            have hmE : moC E b (upn (upn (upn z 8 sp) 11 s2) 11 0) g gs (upr ar 1 (upn (ar 1) (5 * (z 10) + k0) nn)) = moC E b (upn (upn z 8 (numR (ar 0) (z 9) (tl q0.2.2) n0 (z 8) (z 11)).1) 11 (numR (ar 0) (z 9) (tl q0.2.2) n0 (z 8) (z 11)).2.1) g gs (upr ar 1 (upn (ar 1) (5 * z 10 + k0) (numR (ar 0) (z 9) (tl q0.2.2) n0 (z 8) (z 11)).2.2)) := by rw [hR, z_811b]
            rw [hmE] at hP hD; clear hmE
            exact hret _ _ () _ _ hP hD hS trivial dX6_number_107
          · skip
            refine lv_iconst (v := nI 1) hx hb dX6_number_84 (by decide) ?_
            refine lv_goto (tgt := 89) hx hb dX6_number_85 (by decide) ?_
            refine va_put (D := E.1) (ci := 10) (v := .int (nI 1)) (ty := .boolean) (C := RX6) (T := TX6) (N := 20) hx hb hts inX6 tyX6 tyX6_ok nmX6 hown hK hP hD hS 0 rfl rfl 19 (by decide) (hts _ q1453) (fun _ h9 => h9) rfl (by decide +kernel) (by decide) rfl (Nat.le_of_ble_eq_true rfl) dX6_number_89 (fun H locs hP hD hS => ?_)
            have hP : va_P E.1 vwCl ([moC E b (upn (upn (upn z 8 sp) 11 s2) 11 1) g gs ar] : List va_W).flatten H := hP
            have hD : va_D A ([moC E b (upn (upn (upn z 8 sp) 11 s2) 11 1) g gs ar] : List va_W).flatten := hD
            refine lv_aload_n hx hb dX6_number_92 rfl (lv_at hl 0 rfl) ?_
            refine va_get (D := E.1) (ci := 10) (v := .ref (b 7)) (C := RX6) (T := TX6) (N := 20) hx hb hts inX6 hown hK hP 0 rfl rfl 9 (by decide) (hts _ q1443) (fun _ h9 => h9) rfl dX6_number_93 ?_
            refine lv_iconst (v := nI 5) hx hb dX6_number_96 (by decide) ?_
            refine lv_aload_n hx hb dX6_number_97 rfl (lv_at hl 0 rfl) ?_
            refine va_get (D := E.1) (ci := 10) (v := .int (nI (z 10))) (C := RX6) (T := TX6) (N := 20) hx hb hts inX6 hown hK hP 0 rfl rfl 18 (by decide) (hts _ q1452) (fun _ h9 => h9) rfl dX6_number_98 ?_
            refine nv_imul hx hb dX6_number_101 ?_
            refine lv_iload_n hx hb dX6_number_102 rfl (lv_at hl 2 rfl) ?_
            refine nv_iadd hx hb dX6_number_103 ?_
            refine lv_iload hx hb dX6_number_104 (lv_at hl 4 rfl) ?_
            refine nv_iast (f := (ar 1)) (i := 5 * (z 10) + k0) (v := nn) (n := 300) hx hb hK hP hD hS 7 0 rfl rfl (by omega) (by decide) dX6_number_106 (fun H locs hP hD hS => ?_)
            have hP : va_P E.1 vwCl ([moC E b (upn (upn (upn z 8 sp) 11 s2) 11 1) g gs (upr ar 1 (upn (ar 1) (5 * (z 10) + k0) nn))] : List va_W).flatten H := hP
            have hD : va_D A ([moC E b (upn (upn (upn z 8 sp) 11 s2) 11 1) g gs (upr ar 1 (upn (ar 1) (5 * (z 10) + k0) nn))] : List va_W).flatten := hD
            have hp10 : (10 : Nat) ^ d ≤ 10 ^ 2 := Nat.pow_le_pow_right (by decide) (by omega)
            have hR : (numR (ar 0) (z 9) (tl q0.2.2) n0 (z 8) (z 11)) = (sp, 1, nn) := by
              unfold numR
              rw [hS9]
              by_cases hs0 : s2 = 0
              · first | (exfalso; omega) | (rw [if_pos hs0, heq hs0, hx9 hs0]; show (sp, (if d = 0 then 1 else 0), nn) = _; first | rw [if_pos (by omega)] | rw [if_neg (by omega)])
              · first | (exfalso; omega) | (rw [if_neg hs0]; obtain ⟨q1, q2, q3⟩ := hne hs0; show (s1, s2, 0) = _; rw [q1, q2, show s2 = 1 by omega])
            have hmE : moC E b (upn (upn (upn z 8 sp) 11 s2) 11 1) g gs (upr ar 1 (upn (ar 1) (5 * (z 10) + k0) nn)) = moC E b (upn (upn z 8 (numR (ar 0) (z 9) (tl q0.2.2) n0 (z 8) (z 11)).1) 11 (numR (ar 0) (z 9) (tl q0.2.2) n0 (z 8) (z 11)).2.1) g gs (upr ar 1 (upn (ar 1) (5 * z 10 + k0) (numR (ar 0) (z 9) (tl q0.2.2) n0 (z 8) (z 11)).2.2)) := by rw [hR, z_811b]
            rw [hmE] at hP hD; clear hmE
            exact hret _ _ () _ _ hP hD hS trivial dX6_number_107
      · skip
        have hs9 : s2 = 0 := by omega
        refine lv_iload hx hb dX6_number_18 (lv_at hl 5 rfl) ?_
        refine lv_iload_n hx hb dX6_number_20 rfl (lv_at hl 3 rfl) ?_
        refine nv_icmp_ge (X := ((d : Nat) : Int)) (Y := ((n0 : Nat) : Int)) hx hb (nI_toInt (by omega)) (nI_toInt (by omega)) (tgt := 71) dX6_number_21 (by decide) (fun c_7 => ?_) (fun c_7 => ?_)
        · skip
          have hx9 : s2 = 0 → digR (ar 0) (z 9) (n0 - d) sp nn d = (sp, nn, d) := fun q => by rw [show n0 - d = 0 by omega]; rfl
          refine lv_aload_n hx hb dX6_number_71 rfl (lv_at hl 0 rfl) ?_
          refine lv_aload_n hx hb dX6_number_72 rfl (lv_at hl 0 rfl) ?_
          refine va_get (D := E.1) (ci := 10) (v := .int (nI s2)) (C := RX6) (T := TX6) (N := 20) hx hb hts inX6 hown hK hP 0 rfl rfl 19 (by decide) (hts _ q1453) (fun _ h9 => h9) rfl dX6_number_73 ?_
          refine nv_if_ne (X := ((s2 : Nat) : Int)) hx hb (nI_toInt (by omega)) (tgt := 84) dX6_number_76 (by decide) (fun c_8 => ?_) (fun c_8 => ?_)
          · skip
            refine lv_iconst (v := nI 1) hx hb dX6_number_84 (by decide) ?_
            refine lv_goto (tgt := 89) hx hb dX6_number_85 (by decide) ?_
            refine va_put (D := E.1) (ci := 10) (v := .int (nI 1)) (ty := .boolean) (C := RX6) (T := TX6) (N := 20) hx hb hts inX6 tyX6 tyX6_ok nmX6 hown hK hP hD hS 0 rfl rfl 19 (by decide) (hts _ q1453) (fun _ h9 => h9) rfl (by decide +kernel) (by decide) rfl (Nat.le_of_ble_eq_true rfl) dX6_number_89 (fun H locs hP hD hS => ?_)
            have hP : va_P E.1 vwCl ([moC E b (upn (upn (upn z 8 sp) 11 s2) 11 1) g gs ar] : List va_W).flatten H := hP
            have hD : va_D A ([moC E b (upn (upn (upn z 8 sp) 11 s2) 11 1) g gs ar] : List va_W).flatten := hD
            refine lv_aload_n hx hb dX6_number_92 rfl (lv_at hl 0 rfl) ?_
            refine va_get (D := E.1) (ci := 10) (v := .ref (b 7)) (C := RX6) (T := TX6) (N := 20) hx hb hts inX6 hown hK hP 0 rfl rfl 9 (by decide) (hts _ q1443) (fun _ h9 => h9) rfl dX6_number_93 ?_
            refine lv_iconst (v := nI 5) hx hb dX6_number_96 (by decide) ?_
            refine lv_aload_n hx hb dX6_number_97 rfl (lv_at hl 0 rfl) ?_
            refine va_get (D := E.1) (ci := 10) (v := .int (nI (z 10))) (C := RX6) (T := TX6) (N := 20) hx hb hts inX6 hown hK hP 0 rfl rfl 18 (by decide) (hts _ q1452) (fun _ h9 => h9) rfl dX6_number_98 ?_
            refine nv_imul hx hb dX6_number_101 ?_
            refine lv_iload_n hx hb dX6_number_102 rfl (lv_at hl 2 rfl) ?_
            refine nv_iadd hx hb dX6_number_103 ?_
            refine lv_iload hx hb dX6_number_104 (lv_at hl 4 rfl) ?_
            refine nv_iast (f := (ar 1)) (i := 5 * (z 10) + k0) (v := nn) (n := 300) hx hb hK hP hD hS 7 0 rfl rfl (by omega) (by decide) dX6_number_106 (fun H locs hP hD hS => ?_)
            have hP : va_P E.1 vwCl ([moC E b (upn (upn (upn z 8 sp) 11 s2) 11 1) g gs (upr ar 1 (upn (ar 1) (5 * (z 10) + k0) nn))] : List va_W).flatten H := hP
            have hD : va_D A ([moC E b (upn (upn (upn z 8 sp) 11 s2) 11 1) g gs (upr ar 1 (upn (ar 1) (5 * (z 10) + k0) nn))] : List va_W).flatten := hD
            have hp10 : (10 : Nat) ^ d ≤ 10 ^ 2 := Nat.pow_le_pow_right (by decide) (by omega)
            have hR : (numR (ar 0) (z 9) (tl q0.2.2) n0 (z 8) (z 11)) = (sp, 1, nn) := by
              unfold numR
              rw [hS9]
              by_cases hs0 : s2 = 0
              · first | (exfalso; omega) | (rw [if_pos hs0, heq hs0, hx9 hs0]; show (sp, (if d = 0 then 1 else 0), nn) = _; first | rw [if_pos (by omega)] | rw [if_neg (by omega)])
              · first | (exfalso; omega) | (rw [if_neg hs0]; obtain ⟨q1, q2, q3⟩ := hne hs0; show (s1, s2, 0) = _; rw [q1, q2, show s2 = 1 by omega])
            have hmE : moC E b (upn (upn (upn z 8 sp) 11 s2) 11 1) g gs (upr ar 1 (upn (ar 1) (5 * (z 10) + k0) nn)) = moC E b (upn (upn z 8 (numR (ar 0) (z 9) (tl q0.2.2) n0 (z 8) (z 11)).1) 11 (numR (ar 0) (z 9) (tl q0.2.2) n0 (z 8) (z 11)).2.1) g gs (upr ar 1 (upn (ar 1) (5 * z 10 + k0) (numR (ar 0) (z 9) (tl q0.2.2) n0 (z 8) (z 11)).2.2)) := by rw [hR, z_811b]
            rw [hmE] at hP hD; clear hmE
            exact hret _ _ () _ _ hP hD hS trivial dX6_number_107
          · skip
            refine lv_iload hx hb dX6_number_79 (lv_at hl 5 rfl) ?_
            refine nv_if_ne (X := ((d : Nat) : Int)) hx hb (nI_toInt (by omega)) (tgt := 88) dX6_number_81 (by decide) (fun c_9 => ?_) (fun c_9 => ?_)
            · skip
              refine lv_iconst (v := nI 0) hx hb dX6_number_88 (by decide) ?_
              refine va_put (D := E.1) (ci := 10) (v := .int (nI 0)) (ty := .boolean) (C := RX6) (T := TX6) (N := 20) hx hb hts inX6 tyX6 tyX6_ok nmX6 hown hK hP hD hS 0 rfl rfl 19 (by decide) (hts _ q1453) (fun _ h9 => h9) rfl (by decide +kernel) (by decide) rfl (Nat.le_of_ble_eq_true rfl) dX6_number_89 (fun H locs hP hD hS => ?_)
              have hP : va_P E.1 vwCl ([moC E b (upn (upn (upn z 8 sp) 11 s2) 11 0) g gs ar] : List va_W).flatten H := hP
              have hD : va_D A ([moC E b (upn (upn (upn z 8 sp) 11 s2) 11 0) g gs ar] : List va_W).flatten := hD
              refine lv_aload_n hx hb dX6_number_92 rfl (lv_at hl 0 rfl) ?_
              refine va_get (D := E.1) (ci := 10) (v := .ref (b 7)) (C := RX6) (T := TX6) (N := 20) hx hb hts inX6 hown hK hP 0 rfl rfl 9 (by decide) (hts _ q1443) (fun _ h9 => h9) rfl dX6_number_93 ?_
              refine lv_iconst (v := nI 5) hx hb dX6_number_96 (by decide) ?_
              refine lv_aload_n hx hb dX6_number_97 rfl (lv_at hl 0 rfl) ?_
              refine va_get (D := E.1) (ci := 10) (v := .int (nI (z 10))) (C := RX6) (T := TX6) (N := 20) hx hb hts inX6 hown hK hP 0 rfl rfl 18 (by decide) (hts _ q1452) (fun _ h9 => h9) rfl dX6_number_98 ?_
              refine nv_imul hx hb dX6_number_101 ?_
              refine lv_iload_n hx hb dX6_number_102 rfl (lv_at hl 2 rfl) ?_
              refine nv_iadd hx hb dX6_number_103 ?_
              refine lv_iload hx hb dX6_number_104 (lv_at hl 4 rfl) ?_
              refine nv_iast (f := (ar 1)) (i := 5 * (z 10) + k0) (v := nn) (n := 300) hx hb hK hP hD hS 7 0 rfl rfl (by omega) (by decide) dX6_number_106 (fun H locs hP hD hS => ?_)
              have hP : va_P E.1 vwCl ([moC E b (upn (upn (upn z 8 sp) 11 s2) 11 0) g gs (upr ar 1 (upn (ar 1) (5 * (z 10) + k0) nn))] : List va_W).flatten H := hP
              have hD : va_D A ([moC E b (upn (upn (upn z 8 sp) 11 s2) 11 0) g gs (upr ar 1 (upn (ar 1) (5 * (z 10) + k0) nn))] : List va_W).flatten := hD
              have hp10 : (10 : Nat) ^ d ≤ 10 ^ 2 := Nat.pow_le_pow_right (by decide) (by omega)
              have hR : (numR (ar 0) (z 9) (tl q0.2.2) n0 (z 8) (z 11)) = (sp, 0, nn) := by
                unfold numR
                rw [hS9]
                by_cases hs0 : s2 = 0
                · first | (exfalso; omega) | (rw [if_pos hs0, heq hs0, hx9 hs0]; show (sp, (if d = 0 then 1 else 0), nn) = _; first | rw [if_pos (by omega)] | rw [if_neg (by omega)])
                · first | (exfalso; omega) | (rw [if_neg hs0]; obtain ⟨q1, q2, q3⟩ := hne hs0; show (s1, s2, 0) = _; rw [q1, q2, show s2 = 1 by omega])
              have hmE : moC E b (upn (upn (upn z 8 sp) 11 s2) 11 0) g gs (upr ar 1 (upn (ar 1) (5 * (z 10) + k0) nn)) = moC E b (upn (upn z 8 (numR (ar 0) (z 9) (tl q0.2.2) n0 (z 8) (z 11)).1) 11 (numR (ar 0) (z 9) (tl q0.2.2) n0 (z 8) (z 11)).2.1) g gs (upr ar 1 (upn (ar 1) (5 * z 10 + k0) (numR (ar 0) (z 9) (tl q0.2.2) n0 (z 8) (z 11)).2.2)) := by rw [hR, z_811b]
              rw [hmE] at hP hD; clear hmE
              exact hret _ _ () _ _ hP hD hS trivial dX6_number_107
            · skip
              refine lv_iconst (v := nI 1) hx hb dX6_number_84 (by decide) ?_
              refine lv_goto (tgt := 89) hx hb dX6_number_85 (by decide) ?_
              refine va_put (D := E.1) (ci := 10) (v := .int (nI 1)) (ty := .boolean) (C := RX6) (T := TX6) (N := 20) hx hb hts inX6 tyX6 tyX6_ok nmX6 hown hK hP hD hS 0 rfl rfl 19 (by decide) (hts _ q1453) (fun _ h9 => h9) rfl (by decide +kernel) (by decide) rfl (Nat.le_of_ble_eq_true rfl) dX6_number_89 (fun H locs hP hD hS => ?_)
              have hP : va_P E.1 vwCl ([moC E b (upn (upn (upn z 8 sp) 11 s2) 11 1) g gs ar] : List va_W).flatten H := hP
              have hD : va_D A ([moC E b (upn (upn (upn z 8 sp) 11 s2) 11 1) g gs ar] : List va_W).flatten := hD
              refine lv_aload_n hx hb dX6_number_92 rfl (lv_at hl 0 rfl) ?_
              refine va_get (D := E.1) (ci := 10) (v := .ref (b 7)) (C := RX6) (T := TX6) (N := 20) hx hb hts inX6 hown hK hP 0 rfl rfl 9 (by decide) (hts _ q1443) (fun _ h9 => h9) rfl dX6_number_93 ?_
              refine lv_iconst (v := nI 5) hx hb dX6_number_96 (by decide) ?_
              refine lv_aload_n hx hb dX6_number_97 rfl (lv_at hl 0 rfl) ?_
              refine va_get (D := E.1) (ci := 10) (v := .int (nI (z 10))) (C := RX6) (T := TX6) (N := 20) hx hb hts inX6 hown hK hP 0 rfl rfl 18 (by decide) (hts _ q1452) (fun _ h9 => h9) rfl dX6_number_98 ?_
              refine nv_imul hx hb dX6_number_101 ?_
              refine lv_iload_n hx hb dX6_number_102 rfl (lv_at hl 2 rfl) ?_
              refine nv_iadd hx hb dX6_number_103 ?_
              refine lv_iload hx hb dX6_number_104 (lv_at hl 4 rfl) ?_
              refine nv_iast (f := (ar 1)) (i := 5 * (z 10) + k0) (v := nn) (n := 300) hx hb hK hP hD hS 7 0 rfl rfl (by omega) (by decide) dX6_number_106 (fun H locs hP hD hS => ?_)
              have hP : va_P E.1 vwCl ([moC E b (upn (upn (upn z 8 sp) 11 s2) 11 1) g gs (upr ar 1 (upn (ar 1) (5 * (z 10) + k0) nn))] : List va_W).flatten H := hP
              have hD : va_D A ([moC E b (upn (upn (upn z 8 sp) 11 s2) 11 1) g gs (upr ar 1 (upn (ar 1) (5 * (z 10) + k0) nn))] : List va_W).flatten := hD
              have hp10 : (10 : Nat) ^ d ≤ 10 ^ 2 := Nat.pow_le_pow_right (by decide) (by omega)
              have hR : (numR (ar 0) (z 9) (tl q0.2.2) n0 (z 8) (z 11)) = (sp, 1, nn) := by
                unfold numR
                rw [hS9]
                by_cases hs0 : s2 = 0
                · first | (exfalso; omega) | (rw [if_pos hs0, heq hs0, hx9 hs0]; show (sp, (if d = 0 then 1 else 0), nn) = _; first | rw [if_pos (by omega)] | rw [if_neg (by omega)])
                · first | (exfalso; omega) | (rw [if_neg hs0]; obtain ⟨q1, q2, q3⟩ := hne hs0; show (s1, s2, 0) = _; rw [q1, q2, show s2 = 1 by omega])
              have hmE : moC E b (upn (upn (upn z 8 sp) 11 s2) 11 1) g gs (upr ar 1 (upn (ar 1) (5 * (z 10) + k0) nn)) = moC E b (upn (upn z 8 (numR (ar 0) (z 9) (tl q0.2.2) n0 (z 8) (z 11)).1) 11 (numR (ar 0) (z 9) (tl q0.2.2) n0 (z 8) (z 11)).2.1) g gs (upr ar 1 (upn (ar 1) (5 * z 10 + k0) (numR (ar 0) (z 9) (tl q0.2.2) n0 (z 8) (z 11)).2.2)) := by rw [hR, z_811b]
              rw [hmE] at hP hD; clear hmE
              exact hret _ _ () _ _ hP hD hS trivial dX6_number_107
        · skip
          have hp10 : (10 : Nat) ^ d ≤ 10 ^ 2 := Nat.pow_le_pow_right (by decide) (by omega)
          refine lv_aload_n hx hb dX6_number_24 rfl (lv_at hl 0 rfl) ?_
          refine lv_iconst (v := nI 0) hx hb dX6_number_25 (by decide) ?_
          refine run_i (S := Unit) (run_V (As := [.int (nI 0)]) (rest := []) (bs := [moC E b (upn (upn z 8 sp) 11 s2) g gs ar]) (cb := [moC E b (upn (upn z 8 sp) 11 s2) g gs ar]) hx hb hml hown hts hK hZ hA (c_X6_here l E _ b (upn (upn z 8 sp) 11 s2) g gs ar 0 (show sp + 0 < 1000 by omega) (show z 9 ≤ 60 by omega)) l_X6_179 rfl ⟨⟨rfl, rfl⟩, Nat.le_of_ble_eq_true rfl, Nat.le_of_ble_eq_true rfl⟩ 10 rfl [0] rfl (by decide) rfl hP hD hS hl.1 rfl (Nat.le_of_ble_eq_true rfl) dX6_number_26 ⟨Nat.zero_le _, Nat.zero_le _⟩) hA hP hD hS (isC := [0]) rfl [] [0] (br := []) (bs2 := fun _ => [moC E b (upn (upn z 8 sp) 11 s2) g gs ar]) rfl (by decide) (fun _ => rfl) (by decide) (fun r u H locs hw hP hD hS => ?_)
          have hw : r = nI (hrE (z 9) (ar 0) (sp + 0)) - 1 := hw
          subst hw
          have hhr := hrE_le (e := z 9) (sp := sp + 0) (tx := (ar 0)) ho
          refine lv_bipush (v := nI 48) hx hb dX6_number_29 (by decide) ?_
          refine lv_bipush (v := nI 57) hx hb dX6_number_31 (by decide) ?_
          refine run_i (S := Unit) (run_S (As := [.int (nI (hrE (z 9) (ar 0) (sp + 0)) - 1), .int (nI 48), .int (nI 57)]) (rest := []) (bs := [moC E b (upn (upn z 8 sp) 11 s2) g gs ar]) (cb := []) hx hb hml hown hts hK hZ hA (c_X6_in l E _ (nI (hrE (z 9) (ar 0) (sp + 0)) - 1) (nI 48) (nI 57) (((hrE (z 9) (ar 0) (sp + 0) : Nat) : Int) - 1) ((48 : Nat) : Int) ((57 : Nat) : Int) (m1_t (by omega)) (nI_toInt (by omega)) (nI_toInt (by omega))) l_X6_57 rfl ⟨⟨rfl, rfl⟩, Nat.le_of_ble_eq_true rfl, Nat.le_of_ble_eq_true rfl⟩ [] rfl (by decide) hP hD hS hl.1 rfl (Nat.le_of_ble_eq_true rfl) dX6_number_33 ⟨Nat.zero_le _, Nat.zero_le _⟩) hA hP hD hS (isC := []) rfl [0] [0] (br := [moC E b (upn (upn z 8 sp) 11 s2) g gs ar]) (bs2 := fun _ => [moC E b (upn (upn z 8 sp) 11 s2) g gs ar]) rfl (by decide) (fun _ => rfl) (by decide) (fun r u H locs hw hP hD hS => ?_)
          subst hw
          refine bv_if_eq hx hb (tgt := 71) dX6_number_36 (by decide) (fun c_10 => ?_) (fun c_10 => ?_)
          · skip
            have hin := of_decide_eq_false c_10
            have hx9 : s2 = 0 → digR (ar 0) (z 9) (n0 - d) sp nn d = (sp, nn, d) := fun q => digR_f (fun q2 => hin (by have h1 := hrE_of (tx := ar 0) q2.1; have h2 : hrE (z 9) (ar 0) (sp + 0) = hrE (z 9) (ar 0) sp := rfl; omega))
            refine lv_aload_n hx hb dX6_number_71 rfl (lv_at hl 0 rfl) ?_
            refine lv_aload_n hx hb dX6_number_72 rfl (lv_at hl 0 rfl) ?_
            refine va_get (D := E.1) (ci := 10) (v := .int (nI s2)) (C := RX6) (T := TX6) (N := 20) hx hb hts inX6 hown hK hP 0 rfl rfl 19 (by decide) (hts _ q1453) (fun _ h9 => h9) rfl dX6_number_73 ?_
            refine nv_if_ne (X := ((s2 : Nat) : Int)) hx hb (nI_toInt (by omega)) (tgt := 84) dX6_number_76 (by decide) (fun c_11 => ?_) (fun c_11 => ?_)
            · skip
              refine lv_iconst (v := nI 1) hx hb dX6_number_84 (by decide) ?_
              refine lv_goto (tgt := 89) hx hb dX6_number_85 (by decide) ?_
              refine va_put (D := E.1) (ci := 10) (v := .int (nI 1)) (ty := .boolean) (C := RX6) (T := TX6) (N := 20) hx hb hts inX6 tyX6 tyX6_ok nmX6 hown hK hP hD hS 0 rfl rfl 19 (by decide) (hts _ q1453) (fun _ h9 => h9) rfl (by decide +kernel) (by decide) rfl (Nat.le_of_ble_eq_true rfl) dX6_number_89 (fun H locs hP hD hS => ?_)
              have hP : va_P E.1 vwCl ([moC E b (upn (upn (upn z 8 sp) 11 s2) 11 1) g gs ar] : List va_W).flatten H := hP
              have hD : va_D A ([moC E b (upn (upn (upn z 8 sp) 11 s2) 11 1) g gs ar] : List va_W).flatten := hD
              refine lv_aload_n hx hb dX6_number_92 rfl (lv_at hl 0 rfl) ?_
              refine va_get (D := E.1) (ci := 10) (v := .ref (b 7)) (C := RX6) (T := TX6) (N := 20) hx hb hts inX6 hown hK hP 0 rfl rfl 9 (by decide) (hts _ q1443) (fun _ h9 => h9) rfl dX6_number_93 ?_
              refine lv_iconst (v := nI 5) hx hb dX6_number_96 (by decide) ?_
              refine lv_aload_n hx hb dX6_number_97 rfl (lv_at hl 0 rfl) ?_
              refine va_get (D := E.1) (ci := 10) (v := .int (nI (z 10))) (C := RX6) (T := TX6) (N := 20) hx hb hts inX6 hown hK hP 0 rfl rfl 18 (by decide) (hts _ q1452) (fun _ h9 => h9) rfl dX6_number_98 ?_
              refine nv_imul hx hb dX6_number_101 ?_
              refine lv_iload_n hx hb dX6_number_102 rfl (lv_at hl 2 rfl) ?_
              refine nv_iadd hx hb dX6_number_103 ?_
              refine lv_iload hx hb dX6_number_104 (lv_at hl 4 rfl) ?_
              refine nv_iast (f := (ar 1)) (i := 5 * (z 10) + k0) (v := nn) (n := 300) hx hb hK hP hD hS 7 0 rfl rfl (by omega) (by decide) dX6_number_106 (fun H locs hP hD hS => ?_)
              have hP : va_P E.1 vwCl ([moC E b (upn (upn (upn z 8 sp) 11 s2) 11 1) g gs (upr ar 1 (upn (ar 1) (5 * (z 10) + k0) nn))] : List va_W).flatten H := hP
              have hD : va_D A ([moC E b (upn (upn (upn z 8 sp) 11 s2) 11 1) g gs (upr ar 1 (upn (ar 1) (5 * (z 10) + k0) nn))] : List va_W).flatten := hD
              have hp10 : (10 : Nat) ^ d ≤ 10 ^ 2 := Nat.pow_le_pow_right (by decide) (by omega)
              have hR : (numR (ar 0) (z 9) (tl q0.2.2) n0 (z 8) (z 11)) = (sp, 1, nn) := by
                unfold numR
                rw [hS9]
                by_cases hs0 : s2 = 0
                · first | (exfalso; omega) | (rw [if_pos hs0, heq hs0, hx9 hs0]; show (sp, (if d = 0 then 1 else 0), nn) = _; first | rw [if_pos (by omega)] | rw [if_neg (by omega)])
                · first | (exfalso; omega) | (rw [if_neg hs0]; obtain ⟨q1, q2, q3⟩ := hne hs0; show (s1, s2, 0) = _; rw [q1, q2, show s2 = 1 by omega])
              have hmE : moC E b (upn (upn (upn z 8 sp) 11 s2) 11 1) g gs (upr ar 1 (upn (ar 1) (5 * (z 10) + k0) nn)) = moC E b (upn (upn z 8 (numR (ar 0) (z 9) (tl q0.2.2) n0 (z 8) (z 11)).1) 11 (numR (ar 0) (z 9) (tl q0.2.2) n0 (z 8) (z 11)).2.1) g gs (upr ar 1 (upn (ar 1) (5 * z 10 + k0) (numR (ar 0) (z 9) (tl q0.2.2) n0 (z 8) (z 11)).2.2)) := by rw [hR, z_811b]
              rw [hmE] at hP hD; clear hmE
              exact hret _ _ () _ _ hP hD hS trivial dX6_number_107
            · skip
              refine lv_iload hx hb dX6_number_79 (lv_at hl 5 rfl) ?_
              refine nv_if_ne (X := ((d : Nat) : Int)) hx hb (nI_toInt (by omega)) (tgt := 88) dX6_number_81 (by decide) (fun c_12 => ?_) (fun c_12 => ?_)
              · skip
                refine lv_iconst (v := nI 0) hx hb dX6_number_88 (by decide) ?_
                refine va_put (D := E.1) (ci := 10) (v := .int (nI 0)) (ty := .boolean) (C := RX6) (T := TX6) (N := 20) hx hb hts inX6 tyX6 tyX6_ok nmX6 hown hK hP hD hS 0 rfl rfl 19 (by decide) (hts _ q1453) (fun _ h9 => h9) rfl (by decide +kernel) (by decide) rfl (Nat.le_of_ble_eq_true rfl) dX6_number_89 (fun H locs hP hD hS => ?_)
                have hP : va_P E.1 vwCl ([moC E b (upn (upn (upn z 8 sp) 11 s2) 11 0) g gs ar] : List va_W).flatten H := hP
                have hD : va_D A ([moC E b (upn (upn (upn z 8 sp) 11 s2) 11 0) g gs ar] : List va_W).flatten := hD
                refine lv_aload_n hx hb dX6_number_92 rfl (lv_at hl 0 rfl) ?_
                refine va_get (D := E.1) (ci := 10) (v := .ref (b 7)) (C := RX6) (T := TX6) (N := 20) hx hb hts inX6 hown hK hP 0 rfl rfl 9 (by decide) (hts _ q1443) (fun _ h9 => h9) rfl dX6_number_93 ?_
                refine lv_iconst (v := nI 5) hx hb dX6_number_96 (by decide) ?_
                refine lv_aload_n hx hb dX6_number_97 rfl (lv_at hl 0 rfl) ?_
                refine va_get (D := E.1) (ci := 10) (v := .int (nI (z 10))) (C := RX6) (T := TX6) (N := 20) hx hb hts inX6 hown hK hP 0 rfl rfl 18 (by decide) (hts _ q1452) (fun _ h9 => h9) rfl dX6_number_98 ?_
                refine nv_imul hx hb dX6_number_101 ?_
                refine lv_iload_n hx hb dX6_number_102 rfl (lv_at hl 2 rfl) ?_
                refine nv_iadd hx hb dX6_number_103 ?_
                refine lv_iload hx hb dX6_number_104 (lv_at hl 4 rfl) ?_
                refine nv_iast (f := (ar 1)) (i := 5 * (z 10) + k0) (v := nn) (n := 300) hx hb hK hP hD hS 7 0 rfl rfl (by omega) (by decide) dX6_number_106 (fun H locs hP hD hS => ?_)
                have hP : va_P E.1 vwCl ([moC E b (upn (upn (upn z 8 sp) 11 s2) 11 0) g gs (upr ar 1 (upn (ar 1) (5 * (z 10) + k0) nn))] : List va_W).flatten H := hP
                have hD : va_D A ([moC E b (upn (upn (upn z 8 sp) 11 s2) 11 0) g gs (upr ar 1 (upn (ar 1) (5 * (z 10) + k0) nn))] : List va_W).flatten := hD
                have hp10 : (10 : Nat) ^ d ≤ 10 ^ 2 := Nat.pow_le_pow_right (by decide) (by omega)
                have hR : (numR (ar 0) (z 9) (tl q0.2.2) n0 (z 8) (z 11)) = (sp, 0, nn) := by
                  unfold numR
                  rw [hS9]
                  by_cases hs0 : s2 = 0
                  · first | (exfalso; omega) | (rw [if_pos hs0, heq hs0, hx9 hs0]; show (sp, (if d = 0 then 1 else 0), nn) = _; first | rw [if_pos (by omega)] | rw [if_neg (by omega)])
                  · first | (exfalso; omega) | (rw [if_neg hs0]; obtain ⟨q1, q2, q3⟩ := hne hs0; show (s1, s2, 0) = _; rw [q1, q2, show s2 = 1 by omega])
                have hmE : moC E b (upn (upn (upn z 8 sp) 11 s2) 11 0) g gs (upr ar 1 (upn (ar 1) (5 * (z 10) + k0) nn)) = moC E b (upn (upn z 8 (numR (ar 0) (z 9) (tl q0.2.2) n0 (z 8) (z 11)).1) 11 (numR (ar 0) (z 9) (tl q0.2.2) n0 (z 8) (z 11)).2.1) g gs (upr ar 1 (upn (ar 1) (5 * z 10 + k0) (numR (ar 0) (z 9) (tl q0.2.2) n0 (z 8) (z 11)).2.2)) := by rw [hR, z_811b]
                rw [hmE] at hP hD; clear hmE
                exact hret _ _ () _ _ hP hD hS trivial dX6_number_107
              · skip
                refine lv_iconst (v := nI 1) hx hb dX6_number_84 (by decide) ?_
                refine lv_goto (tgt := 89) hx hb dX6_number_85 (by decide) ?_
                refine va_put (D := E.1) (ci := 10) (v := .int (nI 1)) (ty := .boolean) (C := RX6) (T := TX6) (N := 20) hx hb hts inX6 tyX6 tyX6_ok nmX6 hown hK hP hD hS 0 rfl rfl 19 (by decide) (hts _ q1453) (fun _ h9 => h9) rfl (by decide +kernel) (by decide) rfl (Nat.le_of_ble_eq_true rfl) dX6_number_89 (fun H locs hP hD hS => ?_)
                have hP : va_P E.1 vwCl ([moC E b (upn (upn (upn z 8 sp) 11 s2) 11 1) g gs ar] : List va_W).flatten H := hP
                have hD : va_D A ([moC E b (upn (upn (upn z 8 sp) 11 s2) 11 1) g gs ar] : List va_W).flatten := hD
                refine lv_aload_n hx hb dX6_number_92 rfl (lv_at hl 0 rfl) ?_
                refine va_get (D := E.1) (ci := 10) (v := .ref (b 7)) (C := RX6) (T := TX6) (N := 20) hx hb hts inX6 hown hK hP 0 rfl rfl 9 (by decide) (hts _ q1443) (fun _ h9 => h9) rfl dX6_number_93 ?_
                refine lv_iconst (v := nI 5) hx hb dX6_number_96 (by decide) ?_
                refine lv_aload_n hx hb dX6_number_97 rfl (lv_at hl 0 rfl) ?_
                refine va_get (D := E.1) (ci := 10) (v := .int (nI (z 10))) (C := RX6) (T := TX6) (N := 20) hx hb hts inX6 hown hK hP 0 rfl rfl 18 (by decide) (hts _ q1452) (fun _ h9 => h9) rfl dX6_number_98 ?_
                refine nv_imul hx hb dX6_number_101 ?_
                refine lv_iload_n hx hb dX6_number_102 rfl (lv_at hl 2 rfl) ?_
                refine nv_iadd hx hb dX6_number_103 ?_
                refine lv_iload hx hb dX6_number_104 (lv_at hl 4 rfl) ?_
                refine nv_iast (f := (ar 1)) (i := 5 * (z 10) + k0) (v := nn) (n := 300) hx hb hK hP hD hS 7 0 rfl rfl (by omega) (by decide) dX6_number_106 (fun H locs hP hD hS => ?_)
                have hP : va_P E.1 vwCl ([moC E b (upn (upn (upn z 8 sp) 11 s2) 11 1) g gs (upr ar 1 (upn (ar 1) (5 * (z 10) + k0) nn))] : List va_W).flatten H := hP
                have hD : va_D A ([moC E b (upn (upn (upn z 8 sp) 11 s2) 11 1) g gs (upr ar 1 (upn (ar 1) (5 * (z 10) + k0) nn))] : List va_W).flatten := hD
                have hp10 : (10 : Nat) ^ d ≤ 10 ^ 2 := Nat.pow_le_pow_right (by decide) (by omega)
                have hR : (numR (ar 0) (z 9) (tl q0.2.2) n0 (z 8) (z 11)) = (sp, 1, nn) := by
                  unfold numR
                  rw [hS9]
                  by_cases hs0 : s2 = 0
                  · first | (exfalso; omega) | (rw [if_pos hs0, heq hs0, hx9 hs0]; show (sp, (if d = 0 then 1 else 0), nn) = _; first | rw [if_pos (by omega)] | rw [if_neg (by omega)])
                  · first | (exfalso; omega) | (rw [if_neg hs0]; obtain ⟨q1, q2, q3⟩ := hne hs0; show (s1, s2, 0) = _; rw [q1, q2, show s2 = 1 by omega])
                have hmE : moC E b (upn (upn (upn z 8 sp) 11 s2) 11 1) g gs (upr ar 1 (upn (ar 1) (5 * (z 10) + k0) nn)) = moC E b (upn (upn z 8 (numR (ar 0) (z 9) (tl q0.2.2) n0 (z 8) (z 11)).1) 11 (numR (ar 0) (z 9) (tl q0.2.2) n0 (z 8) (z 11)).2.1) g gs (upr ar 1 (upn (ar 1) (5 * z 10 + k0) (numR (ar 0) (z 9) (tl q0.2.2) n0 (z 8) (z 11)).2.2)) := by rw [hR, z_811b]
                rw [hmE] at hP hD; clear hmE
                exact hret _ _ () _ _ hP hD hS trivial dX6_number_107
          · skip
            have hin := of_decide_eq_true c_10
            have hdg : sp < z 9 ∧ 48 ≤ ar 0 sp ∧ ar 0 sp ≤ 57 := by have h1 := hrE_eq (e := z 9) (tx := ar 0) (sp := sp) (c := hrE (z 9) (ar 0) (sp + 0) - 1) (show hrE (z 9) (ar 0) (sp + 0) = hrE (z 9) (ar 0) (sp + 0) - 1 + 1 by omega); exact ⟨h1.1, by omega, by omega⟩
            refine lv_bipush (v := nI 10) hx hb dX6_number_39 (by decide) ?_
            refine lv_iload hx hb dX6_number_41 (lv_at hl 4 rfl) ?_
            refine nv_imul hx hb dX6_number_43 ?_
            refine lv_aload_n hx hb dX6_number_44 rfl (lv_at hl 0 rfl) ?_
            refine lv_iconst (v := nI 0) hx hb dX6_number_45 (by decide) ?_
            refine run_i (S := Unit) (run_V (As := [.int (nI 0)]) (rest := [.int (nI (10 * nn))]) (bs := [moC E b (upn (upn z 8 sp) 11 s2) g gs ar]) (cb := [moC E b (upn (upn z 8 sp) 11 s2) g gs ar]) hx hb hml hown hts hK hZ hA (c_X6_here l E _ b (upn (upn z 8 sp) 11 s2) g gs ar 0 (show sp + 0 < 1000 by omega) (show z 9 ≤ 60 by omega)) l_X6_179 rfl ⟨⟨rfl, rfl⟩, Nat.le_of_ble_eq_true rfl, Nat.le_of_ble_eq_true rfl⟩ 10 rfl [0] rfl (by decide) rfl hP hD hS hl.1 rfl (Nat.le_of_ble_eq_true rfl) dX6_number_46 ⟨Nat.zero_le _, Nat.zero_le _⟩) hA hP hD hS (isC := [0]) rfl [] [0] (br := []) (bs2 := fun _ => [moC E b (upn (upn z 8 sp) 11 s2) g gs ar]) rfl (by decide) (fun _ => rfl) (by decide) (fun r u H locs hw hP hD hS => ?_)
            have hw : r = nI (hrE (z 9) (ar 0) (sp + 0)) - 1 := hw
            subst hw
            have hhr := hrE_le (e := z 9) (sp := sp + 0) (tx := (ar 0)) ho
            refine tp_i (show nI (hrE (z 9) (ar 0) (sp + 0)) - 1 = nI (ar 0 sp) from hrE_v (sp := sp) (show hrE (z 9) (ar 0) (sp + 0) ≠ 0 by omega)) ?_
            refine nv_iadd hx hb dX6_number_49 ?_
            refine lv_bipush (v := nI 48) hx hb dX6_number_50 (by decide) ?_
            refine nv_isub hx hb (by omega) dX6_number_52 ?_
            refine lv_istore (lv' := [(4, .int (nI ((10 * nn + (ar 0 sp)) - 48))), (0, .ref (b 0)), (1, .ref (E.2.2 i0)), (2, .int (nI k0)), (3, .int (nI n0)), (5, .int (nI d))]) hx hb dX6_number_53 hl (by decide) rfl (fun ls hl => ?_)
            refine lv_aload_n hx hb dX6_number_55 rfl (lv_at hl 1 rfl) ?_
            refine lv_dup hx hb dX6_number_56 rfl ?_
            refine va_get (D := E.1) (ci := 10) (v := .int (nI sp)) (C := RX6) (T := TX6) (N := 20) hx hb hts inX6 hown hK hP 0 rfl rfl 16 (by decide) (hts _ q1450) (fun _ h9 => h9) rfl dX6_number_57 ?_
            refine lv_iconst (v := nI 1) hx hb dX6_number_60 (by decide) ?_
            refine nv_iadd hx hb dX6_number_61 ?_
            refine va_put (D := E.1) (ci := 10) (v := .int (nI (sp + 1))) (ty := .int) (C := RX6) (T := TX6) (N := 20) hx hb hts inX6 tyX6 tyX6_ok nmX6 hown hK hP hD hS 0 rfl rfl 16 (by decide) (hts _ q1450) (fun _ h9 => h9) rfl (by decide +kernel) rfl rfl (Nat.le_of_ble_eq_true rfl) dX6_number_62 (fun H locs hP hD hS => ?_)
            have hP : va_P E.1 vwCl ([moC E b (upn (upn (upn z 8 sp) 11 s2) 8 (sp + 1)) g gs ar] : List va_W).flatten H := hP
            have hD : va_D A ([moC E b (upn (upn (upn z 8 sp) 11 s2) 8 (sp + 1)) g gs ar] : List va_W).flatten := hD
            have hmE : moC E b (upn (upn (upn z 8 sp) 11 s2) 8 (sp + 1)) g gs ar = moC E b (upn (upn z 8 (sp + 1)) 11 s2) g gs ar := by rw [z_118]
            rw [hmE] at hP hD; clear hmE
            refine lv_iinc (v := nI (d + 1)) (lv' := [(5, .int (nI (d + 1))), (4, .int (nI ((10 * nn + (ar 0 sp)) - 48))), (0, .ref (b 0)), (1, .ref (E.2.2 i0)), (2, .int (nI k0)), (3, .int (nI n0))]) hx hb dX6_number_65 hl (k := 5) rfl (nI_add d 1) (by decide) rfl (fun ls hl => ?_)
            refine lv_goto (tgt := 11) hx hb dX6_number_68 (by decide) ?_
            exact ih11 (sp + 1) ((10 * nn + (ar 0 sp)) - 48) (d + 1) (by omega) (by omega) (by rw [Nat.pow_succ]; omega) (fun q => by rw [heq q, show n0 - d = (n0 - (d + 1)) + 1 by omega, digR_t hdg]) (fun q => absurd hs9 q) (by omega) _ _ _ hP hD hS (lv_sub hl [2, 3, 4, 5, 1, 0] rfl)
  exact loop11 _ s1 0 0 (by omega) (by omega) (by decide) (fun _ => rfl) (fun _ => ⟨rfl, rfl, rfl⟩) (Nat.lt_succ_self _) _ _ _ hP hD hS (lv_sub hl [2, 3, 4, 5, 1, 0] rfl)
