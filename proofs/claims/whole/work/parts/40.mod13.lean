abbrev rm_X6_run : Room := { frames := 8, cells := 0, slots := 0, locals := 178 }
set_option maxHeartbeats 4000000 in
set_option maxRecDepth 100000 in
theorem c_X6_run (l : Launch) (E : EE) (sz : Nat) (b : Nat → Nat) (z : Nat → Nat) (g : GG) (gs : Nat → GG) (ar : GG) (B : Nat) (hI : IB B g) (hB : B + 420 ≤ 300000) (h3 : z 3 ≤ 60) (hk : z 1 ≤ 8) (ho : ∀ j, ar 0 j < 65536) : MI l yX6_run cX6_run 3 .int rm_X6_run [.ref (b 0)] E sz [moC E b z g gs ar] (fun (r : Int32) (u : (Nat → Nat) × GG × (Nat → GG) × (Nat → Nat)) => (u.1 2 = z 2 ∧ u.1 3 = 0 ∧ u.1 4 = z 4) ∧ (¬ ((prgR (ar 0) (z 3) 20 0 0 (ar 1)).2.2.1 = 0 ∧ (prgR (ar 0) (z 3) 20 0 0 (ar 1)).2.1 = z 3) → r = nI 0 ∧ u.1 0 = 1 ∧ u.1 1 = z 1 ∧ u.1 5 = (prgR (ar 0) (z 3) 20 0 0 (ar 1)).2.1 + 1 ∧ u.1 6 = z 6 ∧ u.2.1 = g ∧ u.2.2.1 = upa gs 0 g) ∧ (((prgR (ar 0) (z 3) 20 0 0 (ar 1)).2.2.1 = 0 ∧ (prgR (ar 0) (z 3) 20 0 0 (ar 1)).2.1 = z 3) → (exN g (prgR (ar 0) (z 3) 20 0 0 (ar 1)).2.2.2 (prgR (ar 0) (z 3) 20 0 0 (ar 1)).1) < (prgR (ar 0) (z 3) 20 0 0 (ar 1)).1 → r = nI 0 ∧ u.1 0 = 2 ∧ u.1 1 = z 1 ∧ u.1 5 = z 5 ∧ u.1 6 = (exN g (prgR (ar 0) (z 3) 20 0 0 (ar 1)).2.2.2 (prgR (ar 0) (z 3) 20 0 0 (ar 1)).1) + 1 ∧ u.2.1 = g ∧ u.2.2.1 = upa gs 0 g) ∧ (((prgR (ar 0) (z 3) 20 0 0 (ar 1)).2.2.1 = 0 ∧ (prgR (ar 0) (z 3) 20 0 0 (ar 1)).2.1 = z 3) → (exN g (prgR (ar 0) (z 3) 20 0 0 (ar 1)).2.2.2 (prgR (ar 0) (z 3) 20 0 0 (ar 1)).1) = (prgR (ar 0) (z 3) 20 0 0 (ar 1)).1 → r = nI ((prgR (ar 0) (z 3) 20 0 0 (ar 1)).1) ∧ u.1 0 = 0 ∧ u.1 1 = chK (z 1) ∧ u.1 5 = z 5 ∧ u.1 6 = z 6 ∧ u.2.1 = exG g (prgR (ar 0) (z 3) 20 0 0 (ar 1)).2.2.2 ((prgR (ar 0) (z 3) 20 0 0 (ar 1)).1) ∧ u.2.2.1 = chS (z 1) (upa gs 0 g))) (fun u => [moC E b u.1 u.2.1 u.2.2.1 (upr ar 1 u.2.2.2)]) 0 0 := by
  refine mi_go (by decide) (Nat.le_of_ble_eq_true rfl) ?_
  intro p e s m below meth c A Q ls hx hb hml hown hts hK hZ hA hsz hP hD hl hret
  have hS : va_S A s.heap s.heap [] := va_S.rf
  have hl : lv_has ls 3 [(0, .ref (b 0))] := hl
  skip
  have hmc := hI.mc
  have hbu := hI.bud
  refine lv_aload_n hx hb dX6_run_0 rfl (lv_at hl 0 rfl) ?_
  refine run_v (S := Unit) (run_V (As := []) (rest := []) (bs := [moC E b z g gs ar]) (cb := [moC E b z g gs ar]) hx hb hml hown hts hK hZ hA (c_X6_remembers l E _ b z g gs ar   ) l_X6_105 rfl ⟨⟨rfl, rfl⟩, Nat.le_of_ble_eq_true rfl, Nat.le_of_ble_eq_true rfl⟩ 10 rfl [0] rfl (by decide) rfl hP hD hS hl.1 rfl (Nat.le_of_ble_eq_true rfl) dX6_run_1 ⟨Nat.zero_le _, Nat.zero_le _⟩) hA hP hD hS (isC := [0]) rfl [] [0] (br := []) (bs2 := fun _ => [moC E b (upn z 0 0) g (upa gs 0 g) ar]) rfl (by decide) (fun _ => rfl) (by decide) (fun u H locs hw hP hD hS => ?_)
  refine lv_aload_n hx hb dX6_run_4 rfl (lv_at hl 0 rfl) ?_
  refine lv_iconst (v := nI 0) hx hb dX6_run_5 (by decide) ?_
  refine va_put (D := E.1) (ci := 10) (v := .int (nI 0)) (ty := .int) (C := RX6) (T := TX6) (N := 20) hx hb hts inX6 tyX6 tyX6_ok nmX6 hown hK hP hD hS 0 rfl rfl 16 (by decide) (hts _ q1450) (fun _ h9 => h9) rfl (by decide +kernel) rfl rfl (Nat.le_of_ble_eq_true rfl) dX6_run_6 (fun H locs hP hD hS => ?_)
  have hP : va_P E.1 vwCl ([moC E b (upn (upn z 0 0) 8 0) g (upa gs 0 g) ar] : List va_W).flatten H := hP
  have hD : va_D A ([moC E b (upn (upn z 0 0) 8 0) g (upa gs 0 g) ar] : List va_W).flatten := hD
  refine lv_aload_n hx hb dX6_run_9 rfl (lv_at hl 0 rfl) ?_
  refine lv_aload_n hx hb dX6_run_10 rfl (lv_at hl 0 rfl) ?_
  refine va_get (D := E.1) (ci := 10) (v := .int (nI (z 3))) (C := RX6) (T := TX6) (N := 20) hx hb hts inX6 hown hK hP 0 rfl rfl 11 (by decide) (hts _ q1445) (fun _ h9 => h9) rfl dX6_run_11 ?_
  refine va_put (D := E.1) (ci := 10) (v := .int (nI (z 3))) (ty := .int) (C := RX6) (T := TX6) (N := 20) hx hb hts inX6 tyX6 tyX6_ok nmX6 hown hK hP hD hS 0 rfl rfl 17 (by decide) (hts _ q1451) (fun _ h9 => h9) rfl (by decide +kernel) rfl rfl (Nat.le_of_ble_eq_true rfl) dX6_run_14 (fun H locs hP hD hS => ?_)
  have hP : va_P E.1 vwCl ([moC E b (upn (upn (upn z 0 0) 8 0) 9 (z 3)) g (upa gs 0 g) ar] : List va_W).flatten H := hP
  have hD : va_D A ([moC E b (upn (upn (upn z 0 0) 8 0) 9 (z 3)) g (upa gs 0 g) ar] : List va_W).flatten := hD
  refine lv_aload_n hx hb dX6_run_17 rfl (lv_at hl 0 rfl) ?_
  refine lv_iconst (v := nI 0) hx hb dX6_run_18 (by decide) ?_
  refine va_put (D := E.1) (ci := 10) (v := .int (nI 0)) (ty := .int) (C := RX6) (T := TX6) (N := 20) hx hb hts inX6 tyX6 tyX6_ok nmX6 hown hK hP hD hS 0 rfl rfl 11 (by decide) (hts _ q1445) (fun _ h9 => h9) rfl (by decide +kernel) rfl rfl (Nat.le_of_ble_eq_true rfl) dX6_run_19 (fun H locs hP hD hS => ?_)
  have hP : va_P E.1 vwCl ([moC E b (upn (upn (upn (upn z 0 0) 8 0) 9 (z 3)) 3 0) g (upa gs 0 g) ar] : List va_W).flatten H := hP
  have hD : va_D A ([moC E b (upn (upn (upn (upn z 0 0) 8 0) 9 (z 3)) 3 0) g (upa gs 0 g) ar] : List va_W).flatten := hD
  refine lv_aload_n hx hb dX6_run_22 rfl (lv_at hl 0 rfl) ?_
  refine lv_iconst (v := nI 0) hx hb dX6_run_23 (by decide) ?_
  refine va_put (D := E.1) (ci := 10) (v := .int (nI 0)) (ty := .int) (C := RX6) (T := TX6) (N := 20) hx hb hts inX6 tyX6 tyX6_ok nmX6 hown hK hP hD hS 0 rfl rfl 18 (by decide) (hts _ q1452) (fun _ h9 => h9) rfl (by decide +kernel) rfl rfl (Nat.le_of_ble_eq_true rfl) dX6_run_24 (fun H locs hP hD hS => ?_)
  have hP : va_P E.1 vwCl ([moC E b (upn (upn (upn (upn (upn z 0 0) 8 0) 9 (z 3)) 3 0) 10 0) g (upa gs 0 g) ar] : List va_W).flatten H := hP
  have hD : va_D A ([moC E b (upn (upn (upn (upn (upn z 0 0) 8 0) 9 (z 3)) 3 0) 10 0) g (upa gs 0 g) ar] : List va_W).flatten := hD
  refine lv_aload_n hx hb dX6_run_27 rfl (lv_at hl 0 rfl) ?_
  refine lv_iconst (v := nI 0) hx hb dX6_run_28 (by decide) ?_
  refine va_put (D := E.1) (ci := 10) (v := .int (nI 0)) (ty := .boolean) (C := RX6) (T := TX6) (N := 20) hx hb hts inX6 tyX6 tyX6_ok nmX6 hown hK hP hD hS 0 rfl rfl 19 (by decide) (hts _ q1453) (fun _ h9 => h9) rfl (by decide +kernel) (by decide) rfl (Nat.le_of_ble_eq_true rfl) dX6_run_29 (fun H locs hP hD hS => ?_)
  have hP : va_P E.1 vwCl ([moC E b (upn (upn (upn (upn (upn (upn z 0 0) 8 0) 9 (z 3)) 3 0) 10 0) 11 0) g (upa gs 0 g) ar] : List va_W).flatten H := hP
  have hD : va_D A ([moC E b (upn (upn (upn (upn (upn (upn z 0 0) 8 0) 9 (z 3)) 3 0) 10 0) 11 0) g (upa gs 0 g) ar] : List va_W).flatten := hD
  refine lv_aload_n hx hb dX6_run_32 rfl (lv_at hl 0 rfl) ?_
  refine run_v (S := Unit) (run_V (As := []) (rest := []) (bs := [moC E b (upn (upn (upn (upn (upn (upn z 0 0) 8 0) 9 (z 3)) 3 0) 10 0) 11 0) g (upa gs 0 g) ar]) (cb := [moC E b (upn (upn (upn (upn (upn (upn z 0 0) 8 0) 9 (z 3)) 3 0) 10 0) 11 0) g (upa gs 0 g) ar]) hx hb hml hown hts hK hZ hA (c_X6_readsOne l E _ b (upn (upn (upn (upn (upn (upn z 0 0) 8 0) 9 (z 3)) 3 0) 10 0) 11 0) g (upa gs 0 g) ar (show 0 ≤ z 3 by omega) (show z 3 ≤ 60 by omega) (show 0 = 0 by omega) ho (show 0 ≤ 50 by omega)) l_X6_216 rfl ⟨⟨rfl, rfl⟩, Nat.le_of_ble_eq_true rfl, Nat.le_of_ble_eq_true rfl⟩ 10 rfl [0] rfl (by decide) rfl hP hD hS hl.1 rfl (Nat.le_of_ble_eq_true rfl) dX6_run_33 ⟨Nat.zero_le _, Nat.zero_le _⟩) hA hP hD hS (isC := [0]) rfl [] [0] (br := []) (bs2 := fun _ => [moC E b (upn (upn (upn (upn (upn (upn (upn (upn (upn z 0 0) 8 0) 9 (z 3)) 3 0) 10 0) 11 0) 8 ((rdR (ar 0) (z 3) (0) (0) (ar 1)).1)) 11 ((rdR (ar 0) (z 3) (0) (0) (ar 1)).2.1)) 10 (0 + 1)) g (upa gs 0 g) (upr ar 1 ((rdR (ar 0) (z 3) (0) (0) (ar 1)).2.2))]) rfl (by decide) (fun _ => rfl) (by decide) (fun u H locs hw hP hD hS => ?_)
  have hRR_4L := rdR_le (tx := (ar 0)) (c := 0) (t := (ar 1)) (show 0 ≤ z 3 by omega)
  have hRR_4P := rdR_p (tx := (ar 0)) (c := 0) (t := (ar 1)) (show 0 ≤ z 3 by omega)
  have hRR_4S := rdR_small (c := 0) (t := (ar 1)) ho (show 0 ≤ z 3 by omega)
  rcases hRR_4 : rdR (ar 0) (z 3) (0) (0) (ar 1) with ⟨a_1, w_2, t_3⟩
  rw [hRR_4] at hP hD hRR_4L hRR_4P hRR_4S
  have hRR_4L : 0 ≤ a_1 ∧ a_1 ≤ z 3 ∧ w_2 ≤ 1 := hRR_4L
  have hRR_4P : w_2 = 0 → 0 + 7 ≤ a_1 ∧ _ := hRR_4P
  have hP : va_P E.1 vwCl ([moC E b (upn (upn (upn (upn (upn (upn (upn (upn (upn z 0 0) 8 0) 9 (z 3)) 3 0) 10 0) 11 0) 8 a_1) 11 w_2) 10 (0 + 1)) g (upa gs 0 g) (upr ar 1 t_3)] : List va_W).flatten H := hP
  have hD : va_D A ([moC E b (upn (upn (upn (upn (upn (upn (upn (upn (upn z 0 0) 8 0) 9 (z 3)) 3 0) 10 0) 11 0) 8 a_1) 11 w_2) 10 (0 + 1)) g (upa gs 0 g) (upr ar 1 t_3)] : List va_W).flatten := hD
  have loop36 : ∀ (n : Nat) (c9 : Nat) (sp : Nat) (w9 : Nat) (t9 : Nat → Nat), (1 ≤ c9) → (sp ≤ z 3) → (w9 ≤ 1) → (8 * (c9 - 1) ≤ sp) → (w9 = 0 → 8 * c9 ≤ sp + 1) → (w9 = 0 → ∀ j, j < c9 → t9 (5 * j) < 2147483648) → ((prgR (ar 0) (z 3) 20 0 0 (ar 1)) = if w9 = 0 ∧ hrE (z 3) (ar 0) sp = 60 then prgR (ar 0) (z 3) (20 - c9) c9 (sp + 1) t9 else (c9, sp, w9, t9)) → 61 - sp < n → ∀ (H : Heap) (locs : List Loc) (ls : Array Slot), va_P E.1 vwCl ([moC E b (upn (upn (upn (upn (upn (upn z 0 0) 9 (z 3)) 3 0) 8 sp) 11 w9) 10 c9) g (upa gs 0 g) (upr ar 1 t9)] : List va_W).flatten H → va_D A ([moC E b (upn (upn (upn (upn (upn (upn z 0 0) 9 (z 3)) 3 0) 8 sp) 11 w9) 10 c9) g (upa gs 0 g) (upr ar 1 t9)] : List va_W).flatten → va_S A s.heap H locs → lv_has ls 3 [(0, .ref (b 0))] → W p l e rm_X6_run s m ([.ref (b 0)] : List Value).toArray below meth c H locs 0 0 Q (F0 m 36 ls []) := by
    intro n36
    induction n36 with
    | zero => intro c9 sp w9 t9 hc1 hsp hw9 hcl hcs ht heq hn36; exact absurd hn36 (Nat.not_lt_zero _)
    | succ n36 ih36 =>
      intro c9 sp w9 t9 hc1 hsp hw9 hcl hcs ht heq hn36 H locs ls hP hD hS hl
      refine lv_aload_n hx hb dX6_run_36 rfl (lv_at hl 0 rfl) ?_
      refine va_get (D := E.1) (ci := 10) (v := .int (nI w9)) (C := RX6) (T := TX6) (N := 20) hx hb hts inX6 hown hK hP 0 rfl rfl 19 (by decide) (hts _ q1453) (fun _ h9 => h9) rfl dX6_run_37 ?_
      refine nv_if_ne (X := ((w9 : Nat) : Int)) hx hb (nI_toInt (by omega)) (tgt := 70) dX6_run_40 (by decide) (fun c_5 => ?_) (fun c_5 => ?_)
      · skip
        have hfin : (prgR (ar 0) (z 3) 20 0 0 (ar 1)) = (c9, sp, w9, t9) := by rw [heq, if_neg (fun q => by omega)]
        refine lv_aload_n hx hb dX6_run_70 rfl (lv_at hl 0 rfl) ?_
        refine va_get (D := E.1) (ci := 10) (v := .int (nI w9)) (C := RX6) (T := TX6) (N := 20) hx hb hts inX6 hown hK hP 0 rfl rfl 19 (by decide) (hts _ q1453) (fun _ h9 => h9) rfl dX6_run_71 ?_
        refine nv_if_ne (X := ((w9 : Nat) : Int)) hx hb (nI_toInt (by omega)) (tgt := 88) dX6_run_74 (by decide) (fun c_6 => ?_) (fun c_6 => ?_)
        · skip
          have hbad : ¬ ((prgR (ar 0) (z 3) 20 0 0 (ar 1)).2.2.1 = 0 ∧ (prgR (ar 0) (z 3) 20 0 0 (ar 1)).2.1 = z 3) := fun q => by rw [hfin] at q; have q1 : w9 = 0 := q.1; have q2 : sp = z 3 := q.2; omega
          refine lv_aload_n hx hb dX6_run_88 rfl (lv_at hl 0 rfl) ?_
          refine lv_aload_n hx hb dX6_run_89 rfl (lv_at hl 0 rfl) ?_
          refine va_get (D := E.1) (ci := 10) (v := .int (nI sp)) (C := RX6) (T := TX6) (N := 20) hx hb hts inX6 hown hK hP 0 rfl rfl 16 (by decide) (hts _ q1450) (fun _ h9 => h9) rfl dX6_run_90 ?_
          refine tp_i (m1_of sp) ?_
          refine va_put (D := E.1) (ci := 10) (v := .int (nI (sp + 1) - 1)) (ty := .int) (C := RX6) (T := TX6) (N := 20) hx hb hts inX6 tyX6 tyX6_ok nmX6 hown hK hP hD hS 0 rfl rfl 13 (by decide) (hts _ q1447) (fun _ h9 => h9) rfl (by decide +kernel) rfl rfl (Nat.le_of_ble_eq_true rfl) dX6_run_93 (fun H locs hP hD hS => ?_)
          have hP : va_P E.1 vwCl ([moC E b (upn (upn (upn (upn (upn (upn (upn z 0 0) 9 (z 3)) 3 0) 8 sp) 11 w9) 10 c9) 5 (sp + 1)) g (upa gs 0 g) (upr ar 1 t9)] : List va_W).flatten H := hP
          have hD : va_D A ([moC E b (upn (upn (upn (upn (upn (upn (upn z 0 0) 9 (z 3)) 3 0) 8 sp) 11 w9) 10 c9) 5 (sp + 1)) g (upa gs 0 g) (upr ar 1 t9)] : List va_W).flatten := hD
          refine lv_aload_n hx hb dX6_run_96 rfl (lv_at hl 0 rfl) ?_
          refine lv_iconst (v := nI 1) hx hb dX6_run_97 (by decide) ?_
          refine run_i (S := Unit) (run_V (As := [.int (nI 1)]) (rest := []) (bs := [moC E b (upn (upn (upn (upn (upn (upn (upn z 0 0) 9 (z 3)) 3 0) 8 sp) 11 w9) 10 c9) 5 (sp + 1)) g (upa gs 0 g) (upr ar 1 t9)]) (cb := [moC E b (upn (upn (upn (upn (upn (upn (upn z 0 0) 9 (z 3)) 3 0) 8 sp) 11 w9) 10 c9) 5 (sp + 1)) g (upa gs 0 g) (upr ar 1 t9)]) hx hb hml hown hts hK hZ hA (c_X6_fails l E _ b (upn (upn (upn (upn (upn (upn (upn z 0 0) 9 (z 3)) 3 0) 8 sp) 11 w9) 10 c9) 5 (sp + 1)) g (upa gs 0 g) (upr ar 1 t9)  1 ) l_X6_54 rfl ⟨⟨rfl, rfl⟩, Nat.le_of_ble_eq_true rfl, Nat.le_of_ble_eq_true rfl⟩ 10 rfl [0] rfl (by decide) rfl hP hD hS hl.1 rfl (Nat.le_of_ble_eq_true rfl) dX6_run_98 ⟨Nat.zero_le _, Nat.zero_le _⟩) hA hP hD hS (isC := [0]) rfl [] [0] (br := []) (bs2 := fun _ => [moC E b (upn (upn (upn (upn (upn (upn (upn (upn z 0 0) 9 (z 3)) 3 0) 8 sp) 11 w9) 10 c9) 5 (sp + 1)) 0 1) g (upa gs 0 g) (upr ar 1 t9)]) rfl (by decide) (fun _ => rfl) (by decide) (fun r u H locs hw hP hD hS => ?_)
          subst hw
          exact hret _ _ (nI 0) ((upn (upn (upn (upn (upn (upn (upn (upn z 0 0) 9 (z 3)) 3 0) 8 sp) 11 w9) 10 c9) 5 (sp + 1)) 0 1), g, (upa gs 0 g), t9) _ _ hP hD hS rfl ⟨⟨rfl, rfl, rfl⟩, fun _ => ⟨rfl, rfl, rfl, (by rw [hfin]; first | done | rfl), rfl, rfl, rfl⟩, fun q => absurd q hbad, fun q => absurd q hbad⟩ dX6_run_101
        · skip
          refine lv_aload_n hx hb dX6_run_77 rfl (lv_at hl 0 rfl) ?_
          refine va_get (D := E.1) (ci := 10) (v := .int (nI sp)) (C := RX6) (T := TX6) (N := 20) hx hb hts inX6 hown hK hP 0 rfl rfl 16 (by decide) (hts _ q1450) (fun _ h9 => h9) rfl dX6_run_78 ?_
          refine lv_aload_n hx hb dX6_run_81 rfl (lv_at hl 0 rfl) ?_
          refine va_get (D := E.1) (ci := 10) (v := .int (nI (z 3))) (C := RX6) (T := TX6) (N := 20) hx hb hts inX6 hown hK hP 0 rfl rfl 17 (by decide) (hts _ q1451) (fun _ h9 => h9) rfl dX6_run_82 ?_
          refine nv_icmp_ge (X := ((sp : Nat) : Int)) (Y := ((z 3 : Nat) : Int)) hx hb (nI_toInt (by omega)) (nI_toInt (by omega)) (tgt := 102) dX6_run_85 (by decide) (fun c_7 => ?_) (fun c_7 => ?_)
          · skip
            have hgood : ((prgR (ar 0) (z 3) 20 0 0 (ar 1)).2.2.1 = 0 ∧ (prgR (ar 0) (z 3) 20 0 0 (ar 1)).2.1 = z 3) := by rw [hfin]; exact ⟨by omega, by show sp = z 3; omega⟩
            have hw00 : w9 = 0 := by omega
            refine lv_iconst (v := nI 0) hx hb dX6_run_102 (by decide) ?_
            refine lv_istore_n (lv' := [(1, .int (nI 0)), (0, .ref (b 0))]) hx hb dX6_run_103 rfl hl (by decide) rfl (fun ls hl => ?_)
            have loop104 : ∀ (n : Nat) (k : Nat) (a7 : Nat), (k ≤ c9) → (∀ j, j < k → exF g t9 j = 0) → (IB (B + 60 * k) (exG g t9 k)) → c9 - k < n → ∀ (H : Heap) (locs : List Loc) (ls : Array Slot), va_P E.1 vwCl ([moC E b (upn (upn (upn (upn (upn (upn (upn z 0 0) 9 (z 3)) 3 0) 8 sp) 11 w9) 10 c9) 7 a7) (exG g t9 k) (upa gs 0 g) (upr ar 1 t9)] : List va_W).flatten H → va_D A ([moC E b (upn (upn (upn (upn (upn (upn (upn z 0 0) 9 (z 3)) 3 0) 8 sp) 11 w9) 10 c9) 7 a7) (exG g t9 k) (upa gs 0 g) (upr ar 1 t9)] : List va_W).flatten → va_S A s.heap H locs → lv_has ls 3 [(0, .ref (b 0)), (1, .int (nI k))] → W p l e rm_X6_run s m ([.ref (b 0)] : List Value).toArray below meth c H locs 0 0 Q (F0 m 104 ls []) := by
              intro n104
              induction n104 with
              | zero => intro k a7 hkc hno hI2 hn104; exact absurd hn104 (Nat.not_lt_zero _)
              | succ n104 ih104 =>
                intro k a7 hkc hno hI2 hn104 H locs ls hP hD hS hl
                refine lv_iload_n hx hb dX6_run_104 rfl (lv_at hl 1 rfl) ?_
                refine lv_aload_n hx hb dX6_run_105 rfl (lv_at hl 0 rfl) ?_
                refine va_get (D := E.1) (ci := 10) (v := .int (nI c9)) (C := RX6) (T := TX6) (N := 20) hx hb hts inX6 hown hK hP 0 rfl rfl 18 (by decide) (hts _ q1452) (fun _ h9 => h9) rfl dX6_run_106 ?_
                refine nv_icmp_ge (X := ((k : Nat) : Int)) (Y := ((c9 : Nat) : Int)) hx hb (nI_toInt (by omega)) (nI_toInt (by omega)) (tgt := 166) dX6_run_109 (by decide) (fun c_8 => ?_) (fun c_8 => ?_)
                · skip
                  have hkk : k = c9 := by omega
                  have hxn : exN g t9 c9 = c9 := exN_none (fun j hj => hno j (by omega))
                  have hmE : moC E b (upn (upn (upn (upn (upn (upn (upn z 0 0) 9 (z 3)) 3 0) 8 sp) 11 w9) 10 c9) 7 a7) (exG g t9 k) (upa gs 0 g) (upr ar 1 t9) = moC E b (upn (upn (upn (upn (upn (upn (upn z 0 0) 9 (z 3)) 3 0) 8 sp) 11 w9) 10 c9) 7 a7) (exG g t9 c9) (upa gs 0 g) (upr ar 1 t9) := by rw [hkk]
                  rw [hmE] at hP hD; clear hmE
                  refine lv_aload_n hx hb dX6_run_166 rfl (lv_at hl 0 rfl) ?_
                  refine lv_aload_n hx hb dX6_run_167 rfl (lv_at hl 0 rfl) ?_
                  refine va_get (D := E.1) (ci := 10) (v := .int (nI c9)) (C := RX6) (T := TX6) (N := 20) hx hb hts inX6 hown hK hP 0 rfl rfl 18 (by decide) (hts _ q1452) (fun _ h9 => h9) rfl dX6_run_168 ?_
                  refine run_i (S := Unit) (run_V (As := [.int (nI c9)]) (rest := []) (bs := [moC E b (upn (upn (upn (upn (upn (upn (upn z 0 0) 9 (z 3)) 3 0) 8 sp) 11 w9) 10 c9) 7 a7) (exG g t9 c9) (upa gs 0 g) (upr ar 1 t9)]) (cb := [moC E b (upn (upn (upn (upn (upn (upn (upn z 0 0) 9 (z 3)) 3 0) 8 sp) 11 w9) 10 c9) 7 a7) (exG g t9 c9) (upa gs 0 g) (upr ar 1 t9)]) hx hb hml hown hts hK hZ hA (c_X6_changed l E _ b (upn (upn (upn (upn (upn (upn (upn z 0 0) 9 (z 3)) 3 0) 8 sp) 11 w9) 10 c9) 7 a7) (exG g t9 c9) (upa gs 0 g) (upr ar 1 t9)  c9 (show z 1 ≤ 8 by omega)) l_X6_50 rfl ⟨⟨rfl, rfl⟩, Nat.le_of_ble_eq_true rfl, Nat.le_of_ble_eq_true rfl⟩ 10 rfl [0] rfl (by decide) rfl hP hD hS hl.1 rfl (Nat.le_of_ble_eq_true rfl) dX6_run_171 ⟨Nat.zero_le _, Nat.zero_le _⟩) hA hP hD hS (isC := [0]) rfl [] [0] (br := []) (bs2 := fun _ => [moC E b (upn (upn (upn (upn (upn (upn (upn (upn z 0 0) 9 (z 3)) 3 0) 8 sp) 11 w9) 10 c9) 7 a7) 1 (chK (z 1))) (exG g t9 c9) (chS (z 1) (upa gs 0 g)) (upr ar 1 t9)]) rfl (by decide) (fun _ => rfl) (by decide) (fun r u H locs hw hP hD hS => ?_)
                  subst hw
                  exact hret _ _ (nI c9) ((upn (upn (upn (upn (upn (upn (upn (upn z 0 0) 9 (z 3)) 3 0) 8 sp) 11 w9) 10 c9) 7 a7) 1 (chK (z 1))), (exG g t9 c9), (chS (z 1) (upa gs 0 g)), t9) _ _ hP hD hS rfl ⟨⟨rfl, rfl, rfl⟩, fun q => absurd hgood q, fun _ q => absurd q (by rw [hfin]; show ¬ exN g t9 c9 < c9; omega), fun _ _ => ⟨(by rw [hfin]; first | done | rfl), rfl, rfl, rfl, rfl, (by rw [hfin]; first | done | rfl), rfl⟩⟩ dX6_run_174
                · skip
                  have hKk := ht hw00 k (by omega)
                  have hcs2 := hcs hw00
                  refine lv_aload_n hx hb dX6_run_112 rfl (lv_at hl 0 rfl) ?_
                  refine lv_iload_n hx hb dX6_run_113 rfl (lv_at hl 1 rfl) ?_
                  refine run_i (S := Unit) (run_V (As := [.int (nI k)]) (rest := []) (bs := [moC E b (upn (upn (upn (upn (upn (upn (upn z 0 0) 9 (z 3)) 3 0) 8 sp) 11 w9) 10 c9) 7 a7) (exG g t9 k) (upa gs 0 g) (upr ar 1 t9)]) (cb := [moC E b (upn (upn (upn (upn (upn (upn (upn z 0 0) 9 (z 3)) 3 0) 8 sp) 11 w9) 10 c9) 7 a7) (exG g t9 k) (upa gs 0 g) (upr ar 1 t9)]) hx hb hml hown hts hK hZ hA (c_X6_does l E _ b (upn (upn (upn (upn (upn (upn (upn z 0 0) 9 (z 3)) 3 0) 8 sp) 11 w9) 10 c9) 7 a7) (exG g t9 k) (upa gs 0 g) (upr ar 1 t9) _ hI2 (by omega) k (by omega) hKk) l_X6_219 rfl ⟨⟨rfl, rfl⟩, Nat.le_of_ble_eq_true rfl, Nat.le_of_ble_eq_true rfl⟩ 10 rfl [0] rfl (by decide) rfl hP hD hS hl.1 rfl (Nat.le_of_ble_eq_true rfl) dX6_run_114 ⟨Nat.zero_le _, Nat.zero_le _⟩) hA hP hD hS (isC := [0]) rfl [] [0] (br := []) (bs2 := fun _ => [moC E b (if doF (exG g t9 k) (t9 (5 * k)) (t9 (5 * k + 1)) (t9 (5 * k + 2)) (t9 (5 * k + 3)) (t9 (5 * k + 4)) = 0 then upn (upn (upn (upn (upn (upn (upn (upn z 0 0) 9 (z 3)) 3 0) 8 sp) 11 w9) 10 c9) 7 a7) 7 (doA (exG g t9 k) (t9 (5 * k)) (t9 (5 * k + 1)) (t9 (5 * k + 2))) else (upn (upn (upn (upn (upn (upn (upn z 0 0) 9 (z 3)) 3 0) 8 sp) 11 w9) 10 c9) 7 a7)) (if doF (exG g t9 k) (t9 (5 * k)) (t9 (5 * k + 1)) (t9 (5 * k + 2)) (t9 (5 * k + 3)) (t9 (5 * k + 4)) = 0 then doG (exG g t9 k) (t9 (5 * k)) (t9 (5 * k + 1)) (t9 (5 * k + 2)) (t9 (5 * k + 3)) (t9 (5 * k + 4)) else (exG g t9 k)) (upa gs 0 g) (upr ar 1 t9)]) rfl (by decide) (fun _ => rfl) (by decide) (fun r u H locs hw hP hD hS => ?_)
                  subst hw
                  refine nv_if_ne (X := ((doC (exG g t9 k) (t9 (5 * k)) (t9 (5 * k + 1)) (t9 (5 * k + 2)) (t9 (5 * k + 3)) (t9 (5 * k + 4)) : Nat) : Int)) hx hb (nI_toInt (Nat.lt_trans do_9 (by decide))) (tgt := 123) dX6_run_117 (by decide) (fun c_9 => ?_) (fun c_9 => ?_)
                  · skip
                    have hf1 : exF g t9 k ≠ 0 := fun q => absurd (do_0.mpr q) (by omega)
                    have hmE : moC E b (if doF (exG g t9 k) (t9 (5 * k)) (t9 (5 * k + 1)) (t9 (5 * k + 2)) (t9 (5 * k + 3)) (t9 (5 * k + 4)) = 0 then upn (upn (upn (upn (upn (upn (upn (upn z 0 0) 9 (z 3)) 3 0) 8 sp) 11 w9) 10 c9) 7 a7) 7 (doA (exG g t9 k) (t9 (5 * k)) (t9 (5 * k + 1)) (t9 (5 * k + 2))) else (upn (upn (upn (upn (upn (upn (upn z 0 0) 9 (z 3)) 3 0) 8 sp) 11 w9) 10 c9) 7 a7)) (if doF (exG g t9 k) (t9 (5 * k)) (t9 (5 * k + 1)) (t9 (5 * k + 2)) (t9 (5 * k + 3)) (t9 (5 * k + 4)) = 0 then doG (exG g t9 k) (t9 (5 * k)) (t9 (5 * k + 1)) (t9 (5 * k + 2)) (t9 (5 * k + 3)) (t9 (5 * k + 4)) else (exG g t9 k)) (upa gs 0 g) (upr ar 1 t9) = moC E b (upn (upn (upn (upn (upn (upn (upn z 0 0) 9 (z 3)) 3 0) 8 sp) 11 w9) 10 c9) 7 a7) (exG g t9 k) (upa gs 0 g) (upr ar 1 t9) := by unfold exF at hf1; rw [if_neg hf1, if_neg hf1]
                    rw [hmE] at hP hD; clear hmE
                    have hxn : exN g t9 c9 = k := exN_at hf1 hno (by omega)
                    refine lv_iconst (v := nI 0) hx hb dX6_run_123 (by decide) ?_
                    refine lv_istore_n (lv' := [(2, .int (nI 0)), (0, .ref (b 0)), (1, .int (nI k))]) hx hb dX6_run_124 rfl hl (by decide) rfl (fun ls hl => ?_)
                    have loop125 : ∀ (n : Nat) (i : Nat), (i ≤ 74) → 74 - i < n → ∀ (H : Heap) (locs : List Loc) (ls : Array Slot), va_P E.1 vwCl ([moR E b (upn (upn (upn (upn (upn (upn (upn z 0 0) 9 (z 3)) 3 0) 8 sp) 11 w9) 10 c9) 7 a7) (upr (moF (exG g t9 k) (upa gs 0 g) (upr ar 1 t9)) 0 (fl (flat (exG g t9 k)) (flat g) i))] : List va_W).flatten H → va_D A ([moR E b (upn (upn (upn (upn (upn (upn (upn z 0 0) 9 (z 3)) 3 0) 8 sp) 11 w9) 10 c9) 7 a7) (upr (moF (exG g t9 k) (upa gs 0 g) (upr ar 1 t9)) 0 (fl (flat (exG g t9 k)) (flat g) i))] : List va_W).flatten → va_S A s.heap H locs → lv_has ls 3 [(0, .ref (b 0)), (1, .int (nI k)), (2, .int (nI i))] → W p l e rm_X6_run s m ([.ref (b 0)] : List Value).toArray below meth c H locs 0 0 Q (F0 m 125 ls []) := by
                      intro n125
                      induction n125 with
                      | zero => intro i hi hn125; exact absurd hn125 (Nat.not_lt_zero _)
                      | succ n125 ih125 =>
                        intro i hi hn125 H locs ls hP hD hS hl
                        refine lv_iload_n hx hb dX6_run_125 rfl (lv_at hl 2 rfl) ?_
                        refine lv_bipush (v := nI 74) hx hb dX6_run_126 (by decide) ?_
                        refine nv_icmp_ge (X := ((i : Nat) : Int)) (Y := ((74 : Nat) : Int)) hx hb (nI_toInt (by omega)) (nI_toInt (by omega)) (tgt := 149) dX6_run_128 (by decide) (fun c_10 => ?_) (fun c_10 => ?_)
                        · skip
                          have hP : va_P E.1 vwCl ([moC E b (upn (upn (upn (upn (upn (upn (upn z 0 0) 9 (z 3)) 3 0) 8 sp) 11 w9) 10 c9) 7 a7) g (upa gs 0 g) (upr ar 1 t9)] : List va_W).flatten H := mo_s (fun j hj => fl_lo (by omega)) hP
                          have hD : va_D A ([moC E b (upn (upn (upn (upn (upn (upn (upn z 0 0) 9 (z 3)) 3 0) 8 sp) 11 w9) 10 c9) 7 a7) g (upa gs 0 g) (upr ar 1 t9)] : List va_W).flatten := mo_D hD
                          refine lv_aload_n hx hb dX6_run_149 rfl (lv_at hl 0 rfl) ?_
                          refine lv_iload_n hx hb dX6_run_150 rfl (lv_at hl 1 rfl) ?_
                          refine tp_i (m1_of k) ?_
                          refine va_put (D := E.1) (ci := 10) (v := .int (nI (k + 1) - 1)) (ty := .int) (C := RX6) (T := TX6) (N := 20) hx hb hts inX6 tyX6 tyX6_ok nmX6 hown hK hP hD hS 0 rfl rfl 14 (by decide) (hts _ q1448) (fun _ h9 => h9) rfl (by decide +kernel) rfl rfl (Nat.le_of_ble_eq_true rfl) dX6_run_151 (fun H locs hP hD hS => ?_)
                          have hP : va_P E.1 vwCl ([moC E b (upn (upn (upn (upn (upn (upn (upn (upn z 0 0) 9 (z 3)) 3 0) 8 sp) 11 w9) 10 c9) 7 a7) 6 (k + 1)) g (upa gs 0 g) (upr ar 1 t9)] : List va_W).flatten H := hP
                          have hD : va_D A ([moC E b (upn (upn (upn (upn (upn (upn (upn (upn z 0 0) 9 (z 3)) 3 0) 8 sp) 11 w9) 10 c9) 7 a7) 6 (k + 1)) g (upa gs 0 g) (upr ar 1 t9)] : List va_W).flatten := hD
                          refine lv_aload_n hx hb dX6_run_154 rfl (lv_at hl 0 rfl) ?_
                          refine lv_iconst (v := nI 2) hx hb dX6_run_155 (by decide) ?_
                          refine run_i (S := Unit) (run_V (As := [.int (nI 2)]) (rest := []) (bs := [moC E b (upn (upn (upn (upn (upn (upn (upn (upn z 0 0) 9 (z 3)) 3 0) 8 sp) 11 w9) 10 c9) 7 a7) 6 (k + 1)) g (upa gs 0 g) (upr ar 1 t9)]) (cb := [moC E b (upn (upn (upn (upn (upn (upn (upn (upn z 0 0) 9 (z 3)) 3 0) 8 sp) 11 w9) 10 c9) 7 a7) 6 (k + 1)) g (upa gs 0 g) (upr ar 1 t9)]) hx hb hml hown hts hK hZ hA (c_X6_fails l E _ b (upn (upn (upn (upn (upn (upn (upn (upn z 0 0) 9 (z 3)) 3 0) 8 sp) 11 w9) 10 c9) 7 a7) 6 (k + 1)) g (upa gs 0 g) (upr ar 1 t9)  2 ) l_X6_54 rfl ⟨⟨rfl, rfl⟩, Nat.le_of_ble_eq_true rfl, Nat.le_of_ble_eq_true rfl⟩ 10 rfl [0] rfl (by decide) rfl hP hD hS hl.1 rfl (Nat.le_of_ble_eq_true rfl) dX6_run_156 ⟨Nat.zero_le _, Nat.zero_le _⟩) hA hP hD hS (isC := [0]) rfl [] [0] (br := []) (bs2 := fun _ => [moC E b (upn (upn (upn (upn (upn (upn (upn (upn (upn z 0 0) 9 (z 3)) 3 0) 8 sp) 11 w9) 10 c9) 7 a7) 6 (k + 1)) 0 2) g (upa gs 0 g) (upr ar 1 t9)]) rfl (by decide) (fun _ => rfl) (by decide) (fun r u H locs hw hP hD hS => ?_)
                          subst hw
                          exact hret _ _ (nI 0) ((upn (upn (upn (upn (upn (upn (upn (upn (upn z 0 0) 9 (z 3)) 3 0) 8 sp) 11 w9) 10 c9) 7 a7) 6 (k + 1)) 0 2), g, (upa gs 0 g), t9) _ _ hP hD hS rfl ⟨⟨rfl, rfl, rfl⟩, fun q => absurd hgood q, fun _ _ => ⟨rfl, rfl, rfl, rfl, (by rw [hfin]; exact congrArg (· + 1) hxn.symm), rfl, rfl⟩, fun _ q => absurd q (by rw [hfin]; show ¬ exN g t9 c9 = c9; omega)⟩ dX6_run_159
                        · skip
                          refine lv_aload_n hx hb dX6_run_131 rfl (lv_at hl 0 rfl) ?_
                          refine va_get (D := E.1) (ci := 10) (v := .ref (b 1)) (C := RX6) (T := TX6) (N := 20) hx hb hts inX6 hown hK hP 0 rfl rfl 1 (by decide) (hts _ q1435) (fun _ h9 => h9) rfl dX6_run_132 ?_
                          refine lv_iload_n hx hb dX6_run_135 rfl (lv_at hl 2 rfl) ?_
                          refine lv_aload_n hx hb dX6_run_136 rfl (lv_at hl 0 rfl) ?_
                          refine va_get (D := E.1) (ci := 10) (v := .ref (b 2)) (C := RX6) (T := TX6) (N := 20) hx hb hts inX6 hown hK hP 0 rfl rfl 2 (by decide) (hts _ q1436) (fun _ h9 => h9) rfl dX6_run_137 ?_
                          refine lv_iload_n hx hb dX6_run_140 rfl (lv_at hl 2 rfl) ?_
                          refine nv_iald (f := (flat ((upa gs 0 g) 0))) (i := i) (n := 74) hx hb hK hP 2 0 rfl rfl (by omega) (by decide) dX6_run_141 ?_
                          refine tp_i (show _ = nI ((flat g) i) from rfl) ?_
                          refine nv_iast (f := (fl (flat (exG g t9 k)) (flat g) i)) (i := i) (v := (flat g) i) (n := 74) hx hb hK hP hD hS 1 0 rfl rfl (by omega) (by decide) dX6_run_142 (fun H locs hP hD hS => ?_)
                          have hP : va_P E.1 vwCl ([moR E b (upn (upn (upn (upn (upn (upn (upn z 0 0) 9 (z 3)) 3 0) 8 sp) 11 w9) 10 c9) 7 a7) (upr (moF (exG g t9 k) (upa gs 0 g) (upr ar 1 t9)) 0 (upn (fl (flat (exG g t9 k)) (flat g) i) i ((flat g) i)))] : List va_W).flatten H := hP
                          have hD : va_D A ([moR E b (upn (upn (upn (upn (upn (upn (upn z 0 0) 9 (z 3)) 3 0) 8 sp) 11 w9) 10 c9) 7 a7) (upr (moF (exG g t9 k) (upa gs 0 g) (upr ar 1 t9)) 0 (upn (fl (flat (exG g t9 k)) (flat g) i) i ((flat g) i)))] : List va_W).flatten := hD
                          have hmE : moR E b (upn (upn (upn (upn (upn (upn (upn z 0 0) 9 (z 3)) 3 0) 8 sp) 11 w9) 10 c9) 7 a7) (upr (moF (exG g t9 k) (upa gs 0 g) (upr ar 1 t9)) 0 (upn (fl (flat (exG g t9 k)) (flat g) i) i ((flat g) i))) = moR E b (upn (upn (upn (upn (upn (upn (upn z 0 0) 9 (z 3)) 3 0) 8 sp) 11 w9) 10 c9) 7 a7) (upr (moF (exG g t9 k) (upa gs 0 g) (upr ar 1 t9)) 0 (fl (flat (exG g t9 k)) (flat g) (i + 1))) := by rw [fl_step rfl]
                          rw [hmE] at hP hD; clear hmE
                          refine lv_iinc (v := nI (i + 1)) (lv' := [(2, .int (nI (i + 1))), (0, .ref (b 0)), (1, .int (nI k))]) hx hb dX6_run_143 hl (k := 2) rfl (nI_add i 1) (by decide) rfl (fun ls hl => ?_)
                          refine lv_goto (tgt := 125) hx hb dX6_run_146 (by decide) ?_
                          exact ih125 (i + 1) (by omega) (by omega) _ _ _ hP hD hS (lv_sub hl [1, 2, 0] rfl)
                    have hmE : moC E b (upn (upn (upn (upn (upn (upn (upn z 0 0) 9 (z 3)) 3 0) 8 sp) 11 w9) 10 c9) 7 a7) (exG g t9 k) (upa gs 0 g) (upr ar 1 t9) = moR E b (upn (upn (upn (upn (upn (upn (upn z 0 0) 9 (z 3)) 3 0) 8 sp) 11 w9) 10 c9) 7 a7) (upr (moF (exG g t9 k) (upa gs 0 g) (upr ar 1 t9)) 0 (fl (flat (exG g t9 k)) (flat g) 0)) := mo_pre 0 (f' := (flat g))
                    rw [hmE] at hP hD; clear hmE
                    exact loop125 _ 0 (by omega) (Nat.lt_succ_self _) _ _ _ hP hD hS (lv_sub hl [1, 2, 0] rfl)
                  · skip
                    have hf0 : exF g t9 k = 0 := do_0.mp (by omega)
                    have hIn := IB_do hI2 hf0 (by omega)
                    have hmE : moC E b (if doF (exG g t9 k) (t9 (5 * k)) (t9 (5 * k + 1)) (t9 (5 * k + 2)) (t9 (5 * k + 3)) (t9 (5 * k + 4)) = 0 then upn (upn (upn (upn (upn (upn (upn (upn z 0 0) 9 (z 3)) 3 0) 8 sp) 11 w9) 10 c9) 7 a7) 7 (doA (exG g t9 k) (t9 (5 * k)) (t9 (5 * k + 1)) (t9 (5 * k + 2))) else (upn (upn (upn (upn (upn (upn (upn z 0 0) 9 (z 3)) 3 0) 8 sp) 11 w9) 10 c9) 7 a7)) (if doF (exG g t9 k) (t9 (5 * k)) (t9 (5 * k + 1)) (t9 (5 * k + 2)) (t9 (5 * k + 3)) (t9 (5 * k + 4)) = 0 then doG (exG g t9 k) (t9 (5 * k)) (t9 (5 * k + 1)) (t9 (5 * k + 2)) (t9 (5 * k + 3)) (t9 (5 * k + 4)) else (exG g t9 k)) (upa gs 0 g) (upr ar 1 t9) = moC E b (upn (upn (upn (upn (upn (upn (upn z 0 0) 9 (z 3)) 3 0) 8 sp) 11 w9) 10 c9) 7 (doA (exG g t9 k) (t9 (5 * k)) (t9 (5 * k + 1)) (t9 (5 * k + 2)))) (exG g t9 (k + 1)) (upa gs 0 g) (upr ar 1 t9) := by unfold exF at hf0; rw [if_pos hf0, if_pos hf0]; exact congrArg (fun q => moC E b q (exG g t9 (k + 1)) (upa gs 0 g) (upr ar 1 t9)) upn_upn
                    rw [hmE] at hP hD; clear hmE
                    refine lv_goto (tgt := 160) hx hb dX6_run_120 (by decide) ?_
                    refine lv_iinc (v := nI (k + 1)) (lv' := [(1, .int (nI (k + 1))), (0, .ref (b 0))]) hx hb dX6_run_160 hl (k := 1) rfl (nI_add k 1) (by decide) rfl (fun ls hl => ?_)
                    refine lv_goto (tgt := 104) hx hb dX6_run_163 (by decide) ?_
                    exact ih104 (k + 1) (doA (exG g t9 k) (t9 (5 * k)) (t9 (5 * k + 1)) (t9 (5 * k + 2))) (by omega) (fun j hj => by rcases Nat.lt_or_ge j k with q | q; exact hno j q; rw [show j = k by omega]; exact hf0) (by rw [show B + 60 * (k + 1) = B + 60 * k + 60 by omega]; exact hIn) (by omega) _ _ _ hP hD hS (lv_sub hl [1, 0] rfl)
            have hz7 : (upn (upn (upn (upn (upn (upn z 0 0) 9 (z 3)) 3 0) 8 sp) 11 w9) 10 c9) = (upn (upn (upn (upn (upn (upn (upn z 0 0) 9 (z 3)) 3 0) 8 sp) 11 w9) 10 c9) 7 (z 7)) := by funext j; unfold upn; by_cases e7 : j = 7 <;> (repeat' split) <;> first | rfl | (exfalso; omega) | (rw [e7])
            have hmE : moC E b (upn (upn (upn (upn (upn (upn z 0 0) 9 (z 3)) 3 0) 8 sp) 11 w9) 10 c9) g (upa gs 0 g) (upr ar 1 t9) = moC E b (upn (upn (upn (upn (upn (upn (upn z 0 0) 9 (z 3)) 3 0) 8 sp) 11 w9) 10 c9) 7 (z 7)) (exG g t9 0) (upa gs 0 g) (upr ar 1 t9) := by rw [hz7]; rfl
            rw [hmE] at hP hD; clear hmE
            clear hz7
            exact loop104 _ 0 (z 7) (by omega) (fun j hj => absurd hj (Nat.not_lt_zero _)) hI (Nat.lt_succ_self _) _ _ _ hP hD hS (lv_sub hl [1, 0] rfl)
          · skip
            have hbad : ¬ ((prgR (ar 0) (z 3) 20 0 0 (ar 1)).2.2.1 = 0 ∧ (prgR (ar 0) (z 3) 20 0 0 (ar 1)).2.1 = z 3) := fun q => by rw [hfin] at q; have q1 : w9 = 0 := q.1; have q2 : sp = z 3 := q.2; omega
            refine lv_aload_n hx hb dX6_run_88 rfl (lv_at hl 0 rfl) ?_
            refine lv_aload_n hx hb dX6_run_89 rfl (lv_at hl 0 rfl) ?_
            refine va_get (D := E.1) (ci := 10) (v := .int (nI sp)) (C := RX6) (T := TX6) (N := 20) hx hb hts inX6 hown hK hP 0 rfl rfl 16 (by decide) (hts _ q1450) (fun _ h9 => h9) rfl dX6_run_90 ?_
            refine tp_i (m1_of sp) ?_
            refine va_put (D := E.1) (ci := 10) (v := .int (nI (sp + 1) - 1)) (ty := .int) (C := RX6) (T := TX6) (N := 20) hx hb hts inX6 tyX6 tyX6_ok nmX6 hown hK hP hD hS 0 rfl rfl 13 (by decide) (hts _ q1447) (fun _ h9 => h9) rfl (by decide +kernel) rfl rfl (Nat.le_of_ble_eq_true rfl) dX6_run_93 (fun H locs hP hD hS => ?_)
            have hP : va_P E.1 vwCl ([moC E b (upn (upn (upn (upn (upn (upn (upn z 0 0) 9 (z 3)) 3 0) 8 sp) 11 w9) 10 c9) 5 (sp + 1)) g (upa gs 0 g) (upr ar 1 t9)] : List va_W).flatten H := hP
            have hD : va_D A ([moC E b (upn (upn (upn (upn (upn (upn (upn z 0 0) 9 (z 3)) 3 0) 8 sp) 11 w9) 10 c9) 5 (sp + 1)) g (upa gs 0 g) (upr ar 1 t9)] : List va_W).flatten := hD
            refine lv_aload_n hx hb dX6_run_96 rfl (lv_at hl 0 rfl) ?_
            refine lv_iconst (v := nI 1) hx hb dX6_run_97 (by decide) ?_
            refine run_i (S := Unit) (run_V (As := [.int (nI 1)]) (rest := []) (bs := [moC E b (upn (upn (upn (upn (upn (upn (upn z 0 0) 9 (z 3)) 3 0) 8 sp) 11 w9) 10 c9) 5 (sp + 1)) g (upa gs 0 g) (upr ar 1 t9)]) (cb := [moC E b (upn (upn (upn (upn (upn (upn (upn z 0 0) 9 (z 3)) 3 0) 8 sp) 11 w9) 10 c9) 5 (sp + 1)) g (upa gs 0 g) (upr ar 1 t9)]) hx hb hml hown hts hK hZ hA (c_X6_fails l E _ b (upn (upn (upn (upn (upn (upn (upn z 0 0) 9 (z 3)) 3 0) 8 sp) 11 w9) 10 c9) 5 (sp + 1)) g (upa gs 0 g) (upr ar 1 t9)  1 ) l_X6_54 rfl ⟨⟨rfl, rfl⟩, Nat.le_of_ble_eq_true rfl, Nat.le_of_ble_eq_true rfl⟩ 10 rfl [0] rfl (by decide) rfl hP hD hS hl.1 rfl (Nat.le_of_ble_eq_true rfl) dX6_run_98 ⟨Nat.zero_le _, Nat.zero_le _⟩) hA hP hD hS (isC := [0]) rfl [] [0] (br := []) (bs2 := fun _ => [moC E b (upn (upn (upn (upn (upn (upn (upn (upn z 0 0) 9 (z 3)) 3 0) 8 sp) 11 w9) 10 c9) 5 (sp + 1)) 0 1) g (upa gs 0 g) (upr ar 1 t9)]) rfl (by decide) (fun _ => rfl) (by decide) (fun r u H locs hw hP hD hS => ?_)
            subst hw
            exact hret _ _ (nI 0) ((upn (upn (upn (upn (upn (upn (upn (upn z 0 0) 9 (z 3)) 3 0) 8 sp) 11 w9) 10 c9) 5 (sp + 1)) 0 1), g, (upa gs 0 g), t9) _ _ hP hD hS rfl ⟨⟨rfl, rfl, rfl⟩, fun _ => ⟨rfl, rfl, rfl, (by rw [hfin]; first | done | rfl), rfl, rfl, rfl⟩, fun q => absurd q hbad, fun q => absurd q hbad⟩ dX6_run_101
      · skip
        have hw0 : w9 = 0 := by omega
        refine lv_aload_n hx hb dX6_run_43 rfl (lv_at hl 0 rfl) ?_
        refine lv_iconst (v := nI 0) hx hb dX6_run_44 (by decide) ?_
        refine run_i (S := Unit) (run_V (As := [.int (nI 0)]) (rest := []) (bs := [moC E b (upn (upn (upn (upn (upn (upn z 0 0) 9 (z 3)) 3 0) 8 sp) 11 w9) 10 c9) g (upa gs 0 g) (upr ar 1 t9)]) (cb := [moC E b (upn (upn (upn (upn (upn (upn z 0 0) 9 (z 3)) 3 0) 8 sp) 11 w9) 10 c9) g (upa gs 0 g) (upr ar 1 t9)]) hx hb hml hown hts hK hZ hA (c_X6_here l E _ b (upn (upn (upn (upn (upn (upn z 0 0) 9 (z 3)) 3 0) 8 sp) 11 w9) 10 c9) g (upa gs 0 g) (upr ar 1 t9) 0 (show sp + 0 < 1000 by omega) (show z 3 ≤ 60 by omega)) l_X6_179 rfl ⟨⟨rfl, rfl⟩, Nat.le_of_ble_eq_true rfl, Nat.le_of_ble_eq_true rfl⟩ 10 rfl [0] rfl (by decide) rfl hP hD hS hl.1 rfl (Nat.le_of_ble_eq_true rfl) dX6_run_45 ⟨Nat.zero_le _, Nat.zero_le _⟩) hA hP hD hS (isC := [0]) rfl [] [0] (br := []) (bs2 := fun _ => [moC E b (upn (upn (upn (upn (upn (upn z 0 0) 9 (z 3)) 3 0) 8 sp) 11 w9) 10 c9) g (upa gs 0 g) (upr ar 1 t9)]) rfl (by decide) (fun _ => rfl) (by decide) (fun r u H locs hw hP hD hS => ?_)
        have hw : r = nI (hrE (z 3) (ar 0) (sp + 0)) - 1 := hw
        subst hw
        have hhr := hrE_le (e := z 3) (sp := sp + 0) (tx := (ar 0)) ho
        refine lv_bipush (v := nI 59) hx hb dX6_run_48 (by decide) ?_
        refine nv_icmp_ne (X := ((hrE (z 3) (ar 0) (sp + 0) : Nat) : Int) - 1) (Y := ((59 : Nat) : Int)) hx hb (m1_t (by omega)) (nI_toInt (by omega)) (tgt := 70) dX6_run_50 (by decide) (fun c_11 => ?_) (fun c_11 => ?_)
        · skip
          have hfin : (prgR (ar 0) (z 3) 20 0 0 (ar 1)) = (c9, sp, w9, t9) := by rw [heq, if_neg (fun q => by have h2 : hrE (z 3) (ar 0) (sp + 0) = hrE (z 3) (ar 0) sp := rfl; omega)]
          refine lv_aload_n hx hb dX6_run_70 rfl (lv_at hl 0 rfl) ?_
          refine va_get (D := E.1) (ci := 10) (v := .int (nI w9)) (C := RX6) (T := TX6) (N := 20) hx hb hts inX6 hown hK hP 0 rfl rfl 19 (by decide) (hts _ q1453) (fun _ h9 => h9) rfl dX6_run_71 ?_
          refine nv_if_ne (X := ((w9 : Nat) : Int)) hx hb (nI_toInt (by omega)) (tgt := 88) dX6_run_74 (by decide) (fun c_12 => ?_) (fun c_12 => ?_)
          · skip
            have hbad : ¬ ((prgR (ar 0) (z 3) 20 0 0 (ar 1)).2.2.1 = 0 ∧ (prgR (ar 0) (z 3) 20 0 0 (ar 1)).2.1 = z 3) := fun q => by rw [hfin] at q; have q1 : w9 = 0 := q.1; have q2 : sp = z 3 := q.2; omega
            refine lv_aload_n hx hb dX6_run_88 rfl (lv_at hl 0 rfl) ?_
            refine lv_aload_n hx hb dX6_run_89 rfl (lv_at hl 0 rfl) ?_
            refine va_get (D := E.1) (ci := 10) (v := .int (nI sp)) (C := RX6) (T := TX6) (N := 20) hx hb hts inX6 hown hK hP 0 rfl rfl 16 (by decide) (hts _ q1450) (fun _ h9 => h9) rfl dX6_run_90 ?_
            refine tp_i (m1_of sp) ?_
            refine va_put (D := E.1) (ci := 10) (v := .int (nI (sp + 1) - 1)) (ty := .int) (C := RX6) (T := TX6) (N := 20) hx hb hts inX6 tyX6 tyX6_ok nmX6 hown hK hP hD hS 0 rfl rfl 13 (by decide) (hts _ q1447) (fun _ h9 => h9) rfl (by decide +kernel) rfl rfl (Nat.le_of_ble_eq_true rfl) dX6_run_93 (fun H locs hP hD hS => ?_)
            have hP : va_P E.1 vwCl ([moC E b (upn (upn (upn (upn (upn (upn (upn z 0 0) 9 (z 3)) 3 0) 8 sp) 11 w9) 10 c9) 5 (sp + 1)) g (upa gs 0 g) (upr ar 1 t9)] : List va_W).flatten H := hP
            have hD : va_D A ([moC E b (upn (upn (upn (upn (upn (upn (upn z 0 0) 9 (z 3)) 3 0) 8 sp) 11 w9) 10 c9) 5 (sp + 1)) g (upa gs 0 g) (upr ar 1 t9)] : List va_W).flatten := hD
            refine lv_aload_n hx hb dX6_run_96 rfl (lv_at hl 0 rfl) ?_
            refine lv_iconst (v := nI 1) hx hb dX6_run_97 (by decide) ?_
            refine run_i (S := Unit) (run_V (As := [.int (nI 1)]) (rest := []) (bs := [moC E b (upn (upn (upn (upn (upn (upn (upn z 0 0) 9 (z 3)) 3 0) 8 sp) 11 w9) 10 c9) 5 (sp + 1)) g (upa gs 0 g) (upr ar 1 t9)]) (cb := [moC E b (upn (upn (upn (upn (upn (upn (upn z 0 0) 9 (z 3)) 3 0) 8 sp) 11 w9) 10 c9) 5 (sp + 1)) g (upa gs 0 g) (upr ar 1 t9)]) hx hb hml hown hts hK hZ hA (c_X6_fails l E _ b (upn (upn (upn (upn (upn (upn (upn z 0 0) 9 (z 3)) 3 0) 8 sp) 11 w9) 10 c9) 5 (sp + 1)) g (upa gs 0 g) (upr ar 1 t9)  1 ) l_X6_54 rfl ⟨⟨rfl, rfl⟩, Nat.le_of_ble_eq_true rfl, Nat.le_of_ble_eq_true rfl⟩ 10 rfl [0] rfl (by decide) rfl hP hD hS hl.1 rfl (Nat.le_of_ble_eq_true rfl) dX6_run_98 ⟨Nat.zero_le _, Nat.zero_le _⟩) hA hP hD hS (isC := [0]) rfl [] [0] (br := []) (bs2 := fun _ => [moC E b (upn (upn (upn (upn (upn (upn (upn (upn z 0 0) 9 (z 3)) 3 0) 8 sp) 11 w9) 10 c9) 5 (sp + 1)) 0 1) g (upa gs 0 g) (upr ar 1 t9)]) rfl (by decide) (fun _ => rfl) (by decide) (fun r u H locs hw hP hD hS => ?_)
            subst hw
            exact hret _ _ (nI 0) ((upn (upn (upn (upn (upn (upn (upn (upn z 0 0) 9 (z 3)) 3 0) 8 sp) 11 w9) 10 c9) 5 (sp + 1)) 0 1), g, (upa gs 0 g), t9) _ _ hP hD hS rfl ⟨⟨rfl, rfl, rfl⟩, fun _ => ⟨rfl, rfl, rfl, (by rw [hfin]; first | done | rfl), rfl, rfl, rfl⟩, fun q => absurd q hbad, fun q => absurd q hbad⟩ dX6_run_101
          · skip
            refine lv_aload_n hx hb dX6_run_77 rfl (lv_at hl 0 rfl) ?_
            refine va_get (D := E.1) (ci := 10) (v := .int (nI sp)) (C := RX6) (T := TX6) (N := 20) hx hb hts inX6 hown hK hP 0 rfl rfl 16 (by decide) (hts _ q1450) (fun _ h9 => h9) rfl dX6_run_78 ?_
            refine lv_aload_n hx hb dX6_run_81 rfl (lv_at hl 0 rfl) ?_
            refine va_get (D := E.1) (ci := 10) (v := .int (nI (z 3))) (C := RX6) (T := TX6) (N := 20) hx hb hts inX6 hown hK hP 0 rfl rfl 17 (by decide) (hts _ q1451) (fun _ h9 => h9) rfl dX6_run_82 ?_
            refine nv_icmp_ge (X := ((sp : Nat) : Int)) (Y := ((z 3 : Nat) : Int)) hx hb (nI_toInt (by omega)) (nI_toInt (by omega)) (tgt := 102) dX6_run_85 (by decide) (fun c_13 => ?_) (fun c_13 => ?_)
            · skip
              have hgood : ((prgR (ar 0) (z 3) 20 0 0 (ar 1)).2.2.1 = 0 ∧ (prgR (ar 0) (z 3) 20 0 0 (ar 1)).2.1 = z 3) := by rw [hfin]; exact ⟨by omega, by show sp = z 3; omega⟩
              have hw00 : w9 = 0 := by omega
              refine lv_iconst (v := nI 0) hx hb dX6_run_102 (by decide) ?_
              refine lv_istore_n (lv' := [(1, .int (nI 0)), (0, .ref (b 0))]) hx hb dX6_run_103 rfl hl (by decide) rfl (fun ls hl => ?_)
              have loop104 : ∀ (n : Nat) (k : Nat) (a7 : Nat), (k ≤ c9) → (∀ j, j < k → exF g t9 j = 0) → (IB (B + 60 * k) (exG g t9 k)) → c9 - k < n → ∀ (H : Heap) (locs : List Loc) (ls : Array Slot), va_P E.1 vwCl ([moC E b (upn (upn (upn (upn (upn (upn (upn z 0 0) 9 (z 3)) 3 0) 8 sp) 11 w9) 10 c9) 7 a7) (exG g t9 k) (upa gs 0 g) (upr ar 1 t9)] : List va_W).flatten H → va_D A ([moC E b (upn (upn (upn (upn (upn (upn (upn z 0 0) 9 (z 3)) 3 0) 8 sp) 11 w9) 10 c9) 7 a7) (exG g t9 k) (upa gs 0 g) (upr ar 1 t9)] : List va_W).flatten → va_S A s.heap H locs → lv_has ls 3 [(0, .ref (b 0)), (1, .int (nI k))] → W p l e rm_X6_run s m ([.ref (b 0)] : List Value).toArray below meth c H locs 0 0 Q (F0 m 104 ls []) := by
                intro n104
                induction n104 with
                | zero => intro k a7 hkc hno hI2 hn104; exact absurd hn104 (Nat.not_lt_zero _)
                | succ n104 ih104 =>
                  intro k a7 hkc hno hI2 hn104 H locs ls hP hD hS hl
                  refine lv_iload_n hx hb dX6_run_104 rfl (lv_at hl 1 rfl) ?_
                  refine lv_aload_n hx hb dX6_run_105 rfl (lv_at hl 0 rfl) ?_
                  refine va_get (D := E.1) (ci := 10) (v := .int (nI c9)) (C := RX6) (T := TX6) (N := 20) hx hb hts inX6 hown hK hP 0 rfl rfl 18 (by decide) (hts _ q1452) (fun _ h9 => h9) rfl dX6_run_106 ?_
                  refine nv_icmp_ge (X := ((k : Nat) : Int)) (Y := ((c9 : Nat) : Int)) hx hb (nI_toInt (by omega)) (nI_toInt (by omega)) (tgt := 166) dX6_run_109 (by decide) (fun c_14 => ?_) (fun c_14 => ?_)
                  · skip
                    have hkk : k = c9 := by omega
                    have hxn : exN g t9 c9 = c9 := exN_none (fun j hj => hno j (by omega))
                    have hmE : moC E b (upn (upn (upn (upn (upn (upn (upn z 0 0) 9 (z 3)) 3 0) 8 sp) 11 w9) 10 c9) 7 a7) (exG g t9 k) (upa gs 0 g) (upr ar 1 t9) = moC E b (upn (upn (upn (upn (upn (upn (upn z 0 0) 9 (z 3)) 3 0) 8 sp) 11 w9) 10 c9) 7 a7) (exG g t9 c9) (upa gs 0 g) (upr ar 1 t9) := by rw [hkk]
                    rw [hmE] at hP hD; clear hmE
                    refine lv_aload_n hx hb dX6_run_166 rfl (lv_at hl 0 rfl) ?_
                    refine lv_aload_n hx hb dX6_run_167 rfl (lv_at hl 0 rfl) ?_
                    refine va_get (D := E.1) (ci := 10) (v := .int (nI c9)) (C := RX6) (T := TX6) (N := 20) hx hb hts inX6 hown hK hP 0 rfl rfl 18 (by decide) (hts _ q1452) (fun _ h9 => h9) rfl dX6_run_168 ?_
                    refine run_i (S := Unit) (run_V (As := [.int (nI c9)]) (rest := []) (bs := [moC E b (upn (upn (upn (upn (upn (upn (upn z 0 0) 9 (z 3)) 3 0) 8 sp) 11 w9) 10 c9) 7 a7) (exG g t9 c9) (upa gs 0 g) (upr ar 1 t9)]) (cb := [moC E b (upn (upn (upn (upn (upn (upn (upn z 0 0) 9 (z 3)) 3 0) 8 sp) 11 w9) 10 c9) 7 a7) (exG g t9 c9) (upa gs 0 g) (upr ar 1 t9)]) hx hb hml hown hts hK hZ hA (c_X6_changed l E _ b (upn (upn (upn (upn (upn (upn (upn z 0 0) 9 (z 3)) 3 0) 8 sp) 11 w9) 10 c9) 7 a7) (exG g t9 c9) (upa gs 0 g) (upr ar 1 t9)  c9 (show z 1 ≤ 8 by omega)) l_X6_50 rfl ⟨⟨rfl, rfl⟩, Nat.le_of_ble_eq_true rfl, Nat.le_of_ble_eq_true rfl⟩ 10 rfl [0] rfl (by decide) rfl hP hD hS hl.1 rfl (Nat.le_of_ble_eq_true rfl) dX6_run_171 ⟨Nat.zero_le _, Nat.zero_le _⟩) hA hP hD hS (isC := [0]) rfl [] [0] (br := []) (bs2 := fun _ => [moC E b (upn (upn (upn (upn (upn (upn (upn (upn z 0 0) 9 (z 3)) 3 0) 8 sp) 11 w9) 10 c9) 7 a7) 1 (chK (z 1))) (exG g t9 c9) (chS (z 1) (upa gs 0 g)) (upr ar 1 t9)]) rfl (by decide) (fun _ => rfl) (by decide) (fun r u H locs hw hP hD hS => ?_)
                    subst hw
                    exact hret _ _ (nI c9) ((upn (upn (upn (upn (upn (upn (upn (upn z 0 0) 9 (z 3)) 3 0) 8 sp) 11 w9) 10 c9) 7 a7) 1 (chK (z 1))), (exG g t9 c9), (chS (z 1) (upa gs 0 g)), t9) _ _ hP hD hS rfl ⟨⟨rfl, rfl, rfl⟩, fun q => absurd hgood q, fun _ q => absurd q (by rw [hfin]; show ¬ exN g t9 c9 < c9; omega), fun _ _ => ⟨(by rw [hfin]; first | done | rfl), rfl, rfl, rfl, rfl, (by rw [hfin]; first | done | rfl), rfl⟩⟩ dX6_run_174
                  · skip
                    have hKk := ht hw00 k (by omega)
                    have hcs2 := hcs hw00
                    refine lv_aload_n hx hb dX6_run_112 rfl (lv_at hl 0 rfl) ?_
                    refine lv_iload_n hx hb dX6_run_113 rfl (lv_at hl 1 rfl) ?_
                    refine run_i (S := Unit) (run_V (As := [.int (nI k)]) (rest := []) (bs := [moC E b (upn (upn (upn (upn (upn (upn (upn z 0 0) 9 (z 3)) 3 0) 8 sp) 11 w9) 10 c9) 7 a7) (exG g t9 k) (upa gs 0 g) (upr ar 1 t9)]) (cb := [moC E b (upn (upn (upn (upn (upn (upn (upn z 0 0) 9 (z 3)) 3 0) 8 sp) 11 w9) 10 c9) 7 a7) (exG g t9 k) (upa gs 0 g) (upr ar 1 t9)]) hx hb hml hown hts hK hZ hA (c_X6_does l E _ b (upn (upn (upn (upn (upn (upn (upn z 0 0) 9 (z 3)) 3 0) 8 sp) 11 w9) 10 c9) 7 a7) (exG g t9 k) (upa gs 0 g) (upr ar 1 t9) _ hI2 (by omega) k (by omega) hKk) l_X6_219 rfl ⟨⟨rfl, rfl⟩, Nat.le_of_ble_eq_true rfl, Nat.le_of_ble_eq_true rfl⟩ 10 rfl [0] rfl (by decide) rfl hP hD hS hl.1 rfl (Nat.le_of_ble_eq_true rfl) dX6_run_114 ⟨Nat.zero_le _, Nat.zero_le _⟩) hA hP hD hS (isC := [0]) rfl [] [0] (br := []) (bs2 := fun _ => [moC E b (if doF (exG g t9 k) (t9 (5 * k)) (t9 (5 * k + 1)) (t9 (5 * k + 2)) (t9 (5 * k + 3)) (t9 (5 * k + 4)) = 0 then upn (upn (upn (upn (upn (upn (upn (upn z 0 0) 9 (z 3)) 3 0) 8 sp) 11 w9) 10 c9) 7 a7) 7 (doA (exG g t9 k) (t9 (5 * k)) (t9 (5 * k + 1)) (t9 (5 * k + 2))) else (upn (upn (upn (upn (upn (upn (upn z 0 0) 9 (z 3)) 3 0) 8 sp) 11 w9) 10 c9) 7 a7)) (if doF (exG g t9 k) (t9 (5 * k)) (t9 (5 * k + 1)) (t9 (5 * k + 2)) (t9 (5 * k + 3)) (t9 (5 * k + 4)) = 0 then doG (exG g t9 k) (t9 (5 * k)) (t9 (5 * k + 1)) (t9 (5 * k + 2)) (t9 (5 * k + 3)) (t9 (5 * k + 4)) else (exG g t9 k)) (upa gs 0 g) (upr ar 1 t9)]) rfl (by decide) (fun _ => rfl) (by decide) (fun r u H locs hw hP hD hS => ?_)
                    subst hw
                    refine nv_if_ne (X := ((doC (exG g t9 k) (t9 (5 * k)) (t9 (5 * k + 1)) (t9 (5 * k + 2)) (t9 (5 * k + 3)) (t9 (5 * k + 4)) : Nat) : Int)) hx hb (nI_toInt (Nat.lt_trans do_9 (by decide))) (tgt := 123) dX6_run_117 (by decide) (fun c_15 => ?_) (fun c_15 => ?_)
                    · skip
                      have hf1 : exF g t9 k ≠ 0 := fun q => absurd (do_0.mpr q) (by omega)
                      have hmE : moC E b (if doF (exG g t9 k) (t9 (5 * k)) (t9 (5 * k + 1)) (t9 (5 * k + 2)) (t9 (5 * k + 3)) (t9 (5 * k + 4)) = 0 then upn (upn (upn (upn (upn (upn (upn (upn z 0 0) 9 (z 3)) 3 0) 8 sp) 11 w9) 10 c9) 7 a7) 7 (doA (exG g t9 k) (t9 (5 * k)) (t9 (5 * k + 1)) (t9 (5 * k + 2))) else (upn (upn (upn (upn (upn (upn (upn z 0 0) 9 (z 3)) 3 0) 8 sp) 11 w9) 10 c9) 7 a7)) (if doF (exG g t9 k) (t9 (5 * k)) (t9 (5 * k + 1)) (t9 (5 * k + 2)) (t9 (5 * k + 3)) (t9 (5 * k + 4)) = 0 then doG (exG g t9 k) (t9 (5 * k)) (t9 (5 * k + 1)) (t9 (5 * k + 2)) (t9 (5 * k + 3)) (t9 (5 * k + 4)) else (exG g t9 k)) (upa gs 0 g) (upr ar 1 t9) = moC E b (upn (upn (upn (upn (upn (upn (upn z 0 0) 9 (z 3)) 3 0) 8 sp) 11 w9) 10 c9) 7 a7) (exG g t9 k) (upa gs 0 g) (upr ar 1 t9) := by unfold exF at hf1; rw [if_neg hf1, if_neg hf1]
                      rw [hmE] at hP hD; clear hmE
                      have hxn : exN g t9 c9 = k := exN_at hf1 hno (by omega)
                      refine lv_iconst (v := nI 0) hx hb dX6_run_123 (by decide) ?_
                      refine lv_istore_n (lv' := [(2, .int (nI 0)), (0, .ref (b 0)), (1, .int (nI k))]) hx hb dX6_run_124 rfl hl (by decide) rfl (fun ls hl => ?_)
                      have loop125 : ∀ (n : Nat) (i : Nat), (i ≤ 74) → 74 - i < n → ∀ (H : Heap) (locs : List Loc) (ls : Array Slot), va_P E.1 vwCl ([moR E b (upn (upn (upn (upn (upn (upn (upn z 0 0) 9 (z 3)) 3 0) 8 sp) 11 w9) 10 c9) 7 a7) (upr (moF (exG g t9 k) (upa gs 0 g) (upr ar 1 t9)) 0 (fl (flat (exG g t9 k)) (flat g) i))] : List va_W).flatten H → va_D A ([moR E b (upn (upn (upn (upn (upn (upn (upn z 0 0) 9 (z 3)) 3 0) 8 sp) 11 w9) 10 c9) 7 a7) (upr (moF (exG g t9 k) (upa gs 0 g) (upr ar 1 t9)) 0 (fl (flat (exG g t9 k)) (flat g) i))] : List va_W).flatten → va_S A s.heap H locs → lv_has ls 3 [(0, .ref (b 0)), (1, .int (nI k)), (2, .int (nI i))] → W p l e rm_X6_run s m ([.ref (b 0)] : List Value).toArray below meth c H locs 0 0 Q (F0 m 125 ls []) := by
                        intro n125
                        induction n125 with
                        | zero => intro i hi hn125; exact absurd hn125 (Nat.not_lt_zero _)
                        | succ n125 ih125 =>
                          intro i hi hn125 H locs ls hP hD hS hl
                          refine lv_iload_n hx hb dX6_run_125 rfl (lv_at hl 2 rfl) ?_
                          refine lv_bipush (v := nI 74) hx hb dX6_run_126 (by decide) ?_
                          refine nv_icmp_ge (X := ((i : Nat) : Int)) (Y := ((74 : Nat) : Int)) hx hb (nI_toInt (by omega)) (nI_toInt (by omega)) (tgt := 149) dX6_run_128 (by decide) (fun c_16 => ?_) (fun c_16 => ?_)
                          · skip
                            have hP : va_P E.1 vwCl ([moC E b (upn (upn (upn (upn (upn (upn (upn z 0 0) 9 (z 3)) 3 0) 8 sp) 11 w9) 10 c9) 7 a7) g (upa gs 0 g) (upr ar 1 t9)] : List va_W).flatten H := mo_s (fun j hj => fl_lo (by omega)) hP
                            have hD : va_D A ([moC E b (upn (upn (upn (upn (upn (upn (upn z 0 0) 9 (z 3)) 3 0) 8 sp) 11 w9) 10 c9) 7 a7) g (upa gs 0 g) (upr ar 1 t9)] : List va_W).flatten := mo_D hD
                            refine lv_aload_n hx hb dX6_run_149 rfl (lv_at hl 0 rfl) ?_
                            refine lv_iload_n hx hb dX6_run_150 rfl (lv_at hl 1 rfl) ?_
                            refine tp_i (m1_of k) ?_
                            refine va_put (D := E.1) (ci := 10) (v := .int (nI (k + 1) - 1)) (ty := .int) (C := RX6) (T := TX6) (N := 20) hx hb hts inX6 tyX6 tyX6_ok nmX6 hown hK hP hD hS 0 rfl rfl 14 (by decide) (hts _ q1448) (fun _ h9 => h9) rfl (by decide +kernel) rfl rfl (Nat.le_of_ble_eq_true rfl) dX6_run_151 (fun H locs hP hD hS => ?_)
                            have hP : va_P E.1 vwCl ([moC E b (upn (upn (upn (upn (upn (upn (upn (upn z 0 0) 9 (z 3)) 3 0) 8 sp) 11 w9) 10 c9) 7 a7) 6 (k + 1)) g (upa gs 0 g) (upr ar 1 t9)] : List va_W).flatten H := hP
                            have hD : va_D A ([moC E b (upn (upn (upn (upn (upn (upn (upn (upn z 0 0) 9 (z 3)) 3 0) 8 sp) 11 w9) 10 c9) 7 a7) 6 (k + 1)) g (upa gs 0 g) (upr ar 1 t9)] : List va_W).flatten := hD
                            refine lv_aload_n hx hb dX6_run_154 rfl (lv_at hl 0 rfl) ?_
                            refine lv_iconst (v := nI 2) hx hb dX6_run_155 (by decide) ?_
                            refine run_i (S := Unit) (run_V (As := [.int (nI 2)]) (rest := []) (bs := [moC E b (upn (upn (upn (upn (upn (upn (upn (upn z 0 0) 9 (z 3)) 3 0) 8 sp) 11 w9) 10 c9) 7 a7) 6 (k + 1)) g (upa gs 0 g) (upr ar 1 t9)]) (cb := [moC E b (upn (upn (upn (upn (upn (upn (upn (upn z 0 0) 9 (z 3)) 3 0) 8 sp) 11 w9) 10 c9) 7 a7) 6 (k + 1)) g (upa gs 0 g) (upr ar 1 t9)]) hx hb hml hown hts hK hZ hA (c_X6_fails l E _ b (upn (upn (upn (upn (upn (upn (upn (upn z 0 0) 9 (z 3)) 3 0) 8 sp) 11 w9) 10 c9) 7 a7) 6 (k + 1)) g (upa gs 0 g) (upr ar 1 t9)  2 ) l_X6_54 rfl ⟨⟨rfl, rfl⟩, Nat.le_of_ble_eq_true rfl, Nat.le_of_ble_eq_true rfl⟩ 10 rfl [0] rfl (by decide) rfl hP hD hS hl.1 rfl (Nat.le_of_ble_eq_true rfl) dX6_run_156 ⟨Nat.zero_le _, Nat.zero_le _⟩) hA hP hD hS (isC := [0]) rfl [] [0] (br := []) (bs2 := fun _ => [moC E b (upn (upn (upn (upn (upn (upn (upn (upn (upn z 0 0) 9 (z 3)) 3 0) 8 sp) 11 w9) 10 c9) 7 a7) 6 (k + 1)) 0 2) g (upa gs 0 g) (upr ar 1 t9)]) rfl (by decide) (fun _ => rfl) (by decide) (fun r u H locs hw hP hD hS => ?_)
                            subst hw
                            exact hret _ _ (nI 0) ((upn (upn (upn (upn (upn (upn (upn (upn (upn z 0 0) 9 (z 3)) 3 0) 8 sp) 11 w9) 10 c9) 7 a7) 6 (k + 1)) 0 2), g, (upa gs 0 g), t9) _ _ hP hD hS rfl ⟨⟨rfl, rfl, rfl⟩, fun q => absurd hgood q, fun _ _ => ⟨rfl, rfl, rfl, rfl, (by rw [hfin]; exact congrArg (· + 1) hxn.symm), rfl, rfl⟩, fun _ q => absurd q (by rw [hfin]; show ¬ exN g t9 c9 = c9; omega)⟩ dX6_run_159
                          · skip
                            refine lv_aload_n hx hb dX6_run_131 rfl (lv_at hl 0 rfl) ?_
                            refine va_get (D := E.1) (ci := 10) (v := .ref (b 1)) (C := RX6) (T := TX6) (N := 20) hx hb hts inX6 hown hK hP 0 rfl rfl 1 (by decide) (hts _ q1435) (fun _ h9 => h9) rfl dX6_run_132 ?_
                            refine lv_iload_n hx hb dX6_run_135 rfl (lv_at hl 2 rfl) ?_
                            refine lv_aload_n hx hb dX6_run_136 rfl (lv_at hl 0 rfl) ?_
                            refine va_get (D := E.1) (ci := 10) (v := .ref (b 2)) (C := RX6) (T := TX6) (N := 20) hx hb hts inX6 hown hK hP 0 rfl rfl 2 (by decide) (hts _ q1436) (fun _ h9 => h9) rfl dX6_run_137 ?_
                            refine lv_iload_n hx hb dX6_run_140 rfl (lv_at hl 2 rfl) ?_
                            refine nv_iald (f := (flat ((upa gs 0 g) 0))) (i := i) (n := 74) hx hb hK hP 2 0 rfl rfl (by omega) (by decide) dX6_run_141 ?_
                            refine tp_i (show _ = nI ((flat g) i) from rfl) ?_
                            refine nv_iast (f := (fl (flat (exG g t9 k)) (flat g) i)) (i := i) (v := (flat g) i) (n := 74) hx hb hK hP hD hS 1 0 rfl rfl (by omega) (by decide) dX6_run_142 (fun H locs hP hD hS => ?_)
                            have hP : va_P E.1 vwCl ([moR E b (upn (upn (upn (upn (upn (upn (upn z 0 0) 9 (z 3)) 3 0) 8 sp) 11 w9) 10 c9) 7 a7) (upr (moF (exG g t9 k) (upa gs 0 g) (upr ar 1 t9)) 0 (upn (fl (flat (exG g t9 k)) (flat g) i) i ((flat g) i)))] : List va_W).flatten H := hP
                            have hD : va_D A ([moR E b (upn (upn (upn (upn (upn (upn (upn z 0 0) 9 (z 3)) 3 0) 8 sp) 11 w9) 10 c9) 7 a7) (upr (moF (exG g t9 k) (upa gs 0 g) (upr ar 1 t9)) 0 (upn (fl (flat (exG g t9 k)) (flat g) i) i ((flat g) i)))] : List va_W).flatten := hD
                            have hmE : moR E b (upn (upn (upn (upn (upn (upn (upn z 0 0) 9 (z 3)) 3 0) 8 sp) 11 w9) 10 c9) 7 a7) (upr (moF (exG g t9 k) (upa gs 0 g) (upr ar 1 t9)) 0 (upn (fl (flat (exG g t9 k)) (flat g) i) i ((flat g) i))) = moR E b (upn (upn (upn (upn (upn (upn (upn z 0 0) 9 (z 3)) 3 0) 8 sp) 11 w9) 10 c9) 7 a7) (upr (moF (exG g t9 k) (upa gs 0 g) (upr ar 1 t9)) 0 (fl (flat (exG g t9 k)) (flat g) (i + 1))) := by rw [fl_step rfl]
                            rw [hmE] at hP hD; clear hmE
                            refine lv_iinc (v := nI (i + 1)) (lv' := [(2, .int (nI (i + 1))), (0, .ref (b 0)), (1, .int (nI k))]) hx hb dX6_run_143 hl (k := 2) rfl (nI_add i 1) (by decide) rfl (fun ls hl => ?_)
                            refine lv_goto (tgt := 125) hx hb dX6_run_146 (by decide) ?_
                            exact ih125 (i + 1) (by omega) (by omega) _ _ _ hP hD hS (lv_sub hl [1, 2, 0] rfl)
                      have hmE : moC E b (upn (upn (upn (upn (upn (upn (upn z 0 0) 9 (z 3)) 3 0) 8 sp) 11 w9) 10 c9) 7 a7) (exG g t9 k) (upa gs 0 g) (upr ar 1 t9) = moR E b (upn (upn (upn (upn (upn (upn (upn z 0 0) 9 (z 3)) 3 0) 8 sp) 11 w9) 10 c9) 7 a7) (upr (moF (exG g t9 k) (upa gs 0 g) (upr ar 1 t9)) 0 (fl (flat (exG g t9 k)) (flat g) 0)) := mo_pre 0 (f' := (flat g))
                      rw [hmE] at hP hD; clear hmE
                      exact loop125 _ 0 (by omega) (Nat.lt_succ_self _) _ _ _ hP hD hS (lv_sub hl [1, 2, 0] rfl)
                    · skip
                      have hf0 : exF g t9 k = 0 := do_0.mp (by omega)
                      have hIn := IB_do hI2 hf0 (by omega)
                      have hmE : moC E b (if doF (exG g t9 k) (t9 (5 * k)) (t9 (5 * k + 1)) (t9 (5 * k + 2)) (t9 (5 * k + 3)) (t9 (5 * k + 4)) = 0 then upn (upn (upn (upn (upn (upn (upn (upn z 0 0) 9 (z 3)) 3 0) 8 sp) 11 w9) 10 c9) 7 a7) 7 (doA (exG g t9 k) (t9 (5 * k)) (t9 (5 * k + 1)) (t9 (5 * k + 2))) else (upn (upn (upn (upn (upn (upn (upn z 0 0) 9 (z 3)) 3 0) 8 sp) 11 w9) 10 c9) 7 a7)) (if doF (exG g t9 k) (t9 (5 * k)) (t9 (5 * k + 1)) (t9 (5 * k + 2)) (t9 (5 * k + 3)) (t9 (5 * k + 4)) = 0 then doG (exG g t9 k) (t9 (5 * k)) (t9 (5 * k + 1)) (t9 (5 * k + 2)) (t9 (5 * k + 3)) (t9 (5 * k + 4)) else (exG g t9 k)) (upa gs 0 g) (upr ar 1 t9) = moC E b (upn (upn (upn (upn (upn (upn (upn z 0 0) 9 (z 3)) 3 0) 8 sp) 11 w9) 10 c9) 7 (doA (exG g t9 k) (t9 (5 * k)) (t9 (5 * k + 1)) (t9 (5 * k + 2)))) (exG g t9 (k + 1)) (upa gs 0 g) (upr ar 1 t9) := by unfold exF at hf0; rw [if_pos hf0, if_pos hf0]; exact congrArg (fun q => moC E b q (exG g t9 (k + 1)) (upa gs 0 g) (upr ar 1 t9)) upn_upn
                      rw [hmE] at hP hD; clear hmE
                      refine lv_goto (tgt := 160) hx hb dX6_run_120 (by decide) ?_
                      refine lv_iinc (v := nI (k + 1)) (lv' := [(1, .int (nI (k + 1))), (0, .ref (b 0))]) hx hb dX6_run_160 hl (k := 1) rfl (nI_add k 1) (by decide) rfl (fun ls hl => ?_)
                      refine lv_goto (tgt := 104) hx hb dX6_run_163 (by decide) ?_
                      exact ih104 (k + 1) (doA (exG g t9 k) (t9 (5 * k)) (t9 (5 * k + 1)) (t9 (5 * k + 2))) (by omega) (fun j hj => by rcases Nat.lt_or_ge j k with q | q; exact hno j q; rw [show j = k by omega]; exact hf0) (by rw [show B + 60 * (k + 1) = B + 60 * k + 60 by omega]; exact hIn) (by omega) _ _ _ hP hD hS (lv_sub hl [1, 0] rfl)
              have hz7 : (upn (upn (upn (upn (upn (upn z 0 0) 9 (z 3)) 3 0) 8 sp) 11 w9) 10 c9) = (upn (upn (upn (upn (upn (upn (upn z 0 0) 9 (z 3)) 3 0) 8 sp) 11 w9) 10 c9) 7 (z 7)) := by funext j; unfold upn; by_cases e7 : j = 7 <;> (repeat' split) <;> first | rfl | (exfalso; omega) | (rw [e7])
              have hmE : moC E b (upn (upn (upn (upn (upn (upn z 0 0) 9 (z 3)) 3 0) 8 sp) 11 w9) 10 c9) g (upa gs 0 g) (upr ar 1 t9) = moC E b (upn (upn (upn (upn (upn (upn (upn z 0 0) 9 (z 3)) 3 0) 8 sp) 11 w9) 10 c9) 7 (z 7)) (exG g t9 0) (upa gs 0 g) (upr ar 1 t9) := by rw [hz7]; rfl
              rw [hmE] at hP hD; clear hmE
              clear hz7
              exact loop104 _ 0 (z 7) (by omega) (fun j hj => absurd hj (Nat.not_lt_zero _)) hI (Nat.lt_succ_self _) _ _ _ hP hD hS (lv_sub hl [1, 0] rfl)
            · skip
              have hbad : ¬ ((prgR (ar 0) (z 3) 20 0 0 (ar 1)).2.2.1 = 0 ∧ (prgR (ar 0) (z 3) 20 0 0 (ar 1)).2.1 = z 3) := fun q => by rw [hfin] at q; have q1 : w9 = 0 := q.1; have q2 : sp = z 3 := q.2; omega
              refine lv_aload_n hx hb dX6_run_88 rfl (lv_at hl 0 rfl) ?_
              refine lv_aload_n hx hb dX6_run_89 rfl (lv_at hl 0 rfl) ?_
              refine va_get (D := E.1) (ci := 10) (v := .int (nI sp)) (C := RX6) (T := TX6) (N := 20) hx hb hts inX6 hown hK hP 0 rfl rfl 16 (by decide) (hts _ q1450) (fun _ h9 => h9) rfl dX6_run_90 ?_
              refine tp_i (m1_of sp) ?_
              refine va_put (D := E.1) (ci := 10) (v := .int (nI (sp + 1) - 1)) (ty := .int) (C := RX6) (T := TX6) (N := 20) hx hb hts inX6 tyX6 tyX6_ok nmX6 hown hK hP hD hS 0 rfl rfl 13 (by decide) (hts _ q1447) (fun _ h9 => h9) rfl (by decide +kernel) rfl rfl (Nat.le_of_ble_eq_true rfl) dX6_run_93 (fun H locs hP hD hS => ?_)
              have hP : va_P E.1 vwCl ([moC E b (upn (upn (upn (upn (upn (upn (upn z 0 0) 9 (z 3)) 3 0) 8 sp) 11 w9) 10 c9) 5 (sp + 1)) g (upa gs 0 g) (upr ar 1 t9)] : List va_W).flatten H := hP
              have hD : va_D A ([moC E b (upn (upn (upn (upn (upn (upn (upn z 0 0) 9 (z 3)) 3 0) 8 sp) 11 w9) 10 c9) 5 (sp + 1)) g (upa gs 0 g) (upr ar 1 t9)] : List va_W).flatten := hD
              refine lv_aload_n hx hb dX6_run_96 rfl (lv_at hl 0 rfl) ?_
              refine lv_iconst (v := nI 1) hx hb dX6_run_97 (by decide) ?_
              refine run_i (S := Unit) (run_V (As := [.int (nI 1)]) (rest := []) (bs := [moC E b (upn (upn (upn (upn (upn (upn (upn z 0 0) 9 (z 3)) 3 0) 8 sp) 11 w9) 10 c9) 5 (sp + 1)) g (upa gs 0 g) (upr ar 1 t9)]) (cb := [moC E b (upn (upn (upn (upn (upn (upn (upn z 0 0) 9 (z 3)) 3 0) 8 sp) 11 w9) 10 c9) 5 (sp + 1)) g (upa gs 0 g) (upr ar 1 t9)]) hx hb hml hown hts hK hZ hA (c_X6_fails l E _ b (upn (upn (upn (upn (upn (upn (upn z 0 0) 9 (z 3)) 3 0) 8 sp) 11 w9) 10 c9) 5 (sp + 1)) g (upa gs 0 g) (upr ar 1 t9)  1 ) l_X6_54 rfl ⟨⟨rfl, rfl⟩, Nat.le_of_ble_eq_true rfl, Nat.le_of_ble_eq_true rfl⟩ 10 rfl [0] rfl (by decide) rfl hP hD hS hl.1 rfl (Nat.le_of_ble_eq_true rfl) dX6_run_98 ⟨Nat.zero_le _, Nat.zero_le _⟩) hA hP hD hS (isC := [0]) rfl [] [0] (br := []) (bs2 := fun _ => [moC E b (upn (upn (upn (upn (upn (upn (upn (upn z 0 0) 9 (z 3)) 3 0) 8 sp) 11 w9) 10 c9) 5 (sp + 1)) 0 1) g (upa gs 0 g) (upr ar 1 t9)]) rfl (by decide) (fun _ => rfl) (by decide) (fun r u H locs hw hP hD hS => ?_)
              subst hw
              exact hret _ _ (nI 0) ((upn (upn (upn (upn (upn (upn (upn (upn z 0 0) 9 (z 3)) 3 0) 8 sp) 11 w9) 10 c9) 5 (sp + 1)) 0 1), g, (upa gs 0 g), t9) _ _ hP hD hS rfl ⟨⟨rfl, rfl, rfl⟩, fun _ => ⟨rfl, rfl, rfl, (by rw [hfin]; first | done | rfl), rfl, rfl, rfl⟩, fun q => absurd q hbad, fun q => absurd q hbad⟩ dX6_run_101
        · skip
          have h60 : hrE (z 3) (ar 0) sp = 60 := by have h2 : hrE (z 3) (ar 0) (sp + 0) = hrE (z 3) (ar 0) sp := rfl; omega
          have hlt9 : sp < z 3 := (hrE_eq (c := 59) h60).1
          refine lv_aload_n hx hb dX6_run_53 rfl (lv_at hl 0 rfl) ?_
          refine lv_dup hx hb dX6_run_54 rfl ?_
          refine va_get (D := E.1) (ci := 10) (v := .int (nI sp)) (C := RX6) (T := TX6) (N := 20) hx hb hts inX6 hown hK hP 0 rfl rfl 16 (by decide) (hts _ q1450) (fun _ h9 => h9) rfl dX6_run_55 ?_
          refine lv_iconst (v := nI 1) hx hb dX6_run_58 (by decide) ?_
          refine nv_iadd hx hb dX6_run_59 ?_
          refine va_put (D := E.1) (ci := 10) (v := .int (nI (sp + 1))) (ty := .int) (C := RX6) (T := TX6) (N := 20) hx hb hts inX6 tyX6 tyX6_ok nmX6 hown hK hP hD hS 0 rfl rfl 16 (by decide) (hts _ q1450) (fun _ h9 => h9) rfl (by decide +kernel) rfl rfl (Nat.le_of_ble_eq_true rfl) dX6_run_60 (fun H locs hP hD hS => ?_)
          have hP : va_P E.1 vwCl ([moC E b (upn (upn (upn (upn (upn (upn (upn z 0 0) 9 (z 3)) 3 0) 8 sp) 11 w9) 10 c9) 8 (sp + 1)) g (upa gs 0 g) (upr ar 1 t9)] : List va_W).flatten H := hP
          have hD : va_D A ([moC E b (upn (upn (upn (upn (upn (upn (upn z 0 0) 9 (z 3)) 3 0) 8 sp) 11 w9) 10 c9) 8 (sp + 1)) g (upa gs 0 g) (upr ar 1 t9)] : List va_W).flatten := hD
          refine lv_aload_n hx hb dX6_run_63 rfl (lv_at hl 0 rfl) ?_
          refine run_v (S := Unit) (run_V (As := []) (rest := []) (bs := [moC E b (upn (upn (upn (upn (upn (upn (upn z 0 0) 9 (z 3)) 3 0) 8 sp) 11 w9) 10 c9) 8 (sp + 1)) g (upa gs 0 g) (upr ar 1 t9)]) (cb := [moC E b (upn (upn (upn (upn (upn (upn (upn z 0 0) 9 (z 3)) 3 0) 8 sp) 11 w9) 10 c9) 8 (sp + 1)) g (upa gs 0 g) (upr ar 1 t9)]) hx hb hml hown hts hK hZ hA (c_X6_readsOne l E _ b (upn (upn (upn (upn (upn (upn (upn z 0 0) 9 (z 3)) 3 0) 8 sp) 11 w9) 10 c9) 8 (sp + 1)) g (upa gs 0 g) (upr ar 1 t9) (show sp + 1 ≤ z 3 by omega) (show z 3 ≤ 60 by omega) (show w9 = 0 by omega) ho (show c9 ≤ 50 by omega)) l_X6_216 rfl ⟨⟨rfl, rfl⟩, Nat.le_of_ble_eq_true rfl, Nat.le_of_ble_eq_true rfl⟩ 10 rfl [0] rfl (by decide) rfl hP hD hS hl.1 rfl (Nat.le_of_ble_eq_true rfl) dX6_run_64 ⟨Nat.zero_le _, Nat.zero_le _⟩) hA hP hD hS (isC := [0]) rfl [] [0] (br := []) (bs2 := fun _ => [moC E b (upn (upn (upn (upn (upn (upn (upn (upn (upn (upn z 0 0) 9 (z 3)) 3 0) 8 sp) 11 w9) 10 c9) 8 (sp + 1)) 8 ((rdR (ar 0) (z 3) (c9) (sp + 1) t9).1)) 11 ((rdR (ar 0) (z 3) (c9) (sp + 1) t9).2.1)) 10 (c9 + 1)) g (upa gs 0 g) (upr (upr ar 1 t9) 1 ((rdR (ar 0) (z 3) (c9) (sp + 1) t9).2.2))]) rfl (by decide) (fun _ => rfl) (by decide) (fun u H locs hw hP hD hS => ?_)
          have hRR_20L := rdR_le (tx := (ar 0)) (c := c9) (t := t9) (show sp + 1 ≤ z 3 by omega)
          have hRR_20P := rdR_p (tx := (ar 0)) (c := c9) (t := t9) (show sp + 1 ≤ z 3 by omega)
          have hRR_20S := rdR_small (c := c9) (t := t9) ho (show sp + 1 ≤ z 3 by omega)
          rcases hRR_20 : rdR (ar 0) (z 3) (c9) (sp + 1) t9 with ⟨a_17, w_18, t_19⟩
          rw [hRR_20] at hP hD hRR_20L hRR_20P hRR_20S
          have hRR_20L : sp + 1 ≤ a_17 ∧ a_17 ≤ z 3 ∧ w_18 ≤ 1 := hRR_20L
          have hRR_20P : w_18 = 0 → sp + 1 + 7 ≤ a_17 ∧ _ := hRR_20P
          have hP : va_P E.1 vwCl ([moC E b (upn (upn (upn (upn (upn (upn (upn (upn (upn (upn z 0 0) 9 (z 3)) 3 0) 8 sp) 11 w9) 10 c9) 8 (sp + 1)) 8 a_17) 11 w_18) 10 (c9 + 1)) g (upa gs 0 g) (upr (upr ar 1 t9) 1 t_19)] : List va_W).flatten H := hP
          have hD : va_D A ([moC E b (upn (upn (upn (upn (upn (upn (upn (upn (upn (upn z 0 0) 9 (z 3)) 3 0) 8 sp) 11 w9) 10 c9) 8 (sp + 1)) 8 a_17) 11 w_18) 10 (c9 + 1)) g (upa gs 0 g) (upr (upr ar 1 t9) 1 t_19)] : List va_W).flatten := hD
          have hzq : (upn (upn (upn (upn (upn (upn (upn (upn (upn (upn z 0 0) 9 (z 3)) 3 0) 8 sp) 11 w9) 10 c9) 8 (sp + 1)) 8 a_17) 11 w_18) 10 (c9 + 1)) = (upn (upn (upn (upn (upn (upn z 0 0) 9 (z 3)) 3 0) 8 a_17) 11 w_18) 10 (c9 + 1)) := by funext j; unfold upn; (repeat' split) <;> first | rfl | (exfalso; omega) | omega
          have haq : (upr (upr ar 1 t9) 1 t_19) = (upr ar 1 t_19) := by first | rfl | simp only [upr_upr]
          have hmE : moC E b (upn (upn (upn (upn (upn (upn (upn (upn (upn (upn z 0 0) 9 (z 3)) 3 0) 8 sp) 11 w9) 10 c9) 8 (sp + 1)) 8 a_17) 11 w_18) 10 (c9 + 1)) g (upa gs 0 g) (upr (upr ar 1 t9) 1 t_19) = moC E b (upn (upn (upn (upn (upn (upn z 0 0) 9 (z 3)) 3 0) 8 a_17) 11 w_18) 10 (c9 + 1)) g (upa gs 0 g) (upr ar 1 t_19) := by rw [hzq, haq]
          rw [hmE] at hP hD; clear hmE
          clear hzq
          have heqn : (prgR (ar 0) (z 3) 20 0 0 (ar 1)) = if w_18 = 0 ∧ hrE (z 3) (ar 0) a_17 = 60 then prgR (ar 0) (z 3) (20 - (c9 + 1)) (c9 + 1) (a_17 + 1) t_19 else (c9 + 1, a_17, w_18, t_19) := by rw [heq, if_pos ⟨hw0, h60⟩, show 20 - c9 = (20 - (c9 + 1)) + 1 by omega]; exact prgR_s hRR_20
          have hcsn : w_18 = 0 → 8 * (c9 + 1) ≤ a_17 + 1 := fun q => by have := (hRR_20P q).1; have := hcs hw0; omega
          have htn : w_18 = 0 → ∀ j, j < c9 + 1 → t_19 (5 * j) < 2147483648 := fun q => hRR_20S q (ht hw0)
          refine lv_goto (tgt := 36) hx hb dX6_run_67 (by decide) ?_
          exact ih36 (c9 + 1) a_17 w_18 t_19 (by omega) (by omega) (by omega) (by have := hcs hw0; omega) hcsn htn heqn (by omega) _ _ _ hP hD hS (lv_sub hl [0] rfl)
  have hzq : (upn (upn (upn (upn (upn (upn (upn (upn (upn z 0 0) 8 0) 9 (z 3)) 3 0) 10 0) 11 0) 8 a_1) 11 w_2) 10 (0 + 1)) = (upn (upn (upn (upn (upn (upn z 0 0) 9 (z 3)) 3 0) 8 a_1) 11 w_2) 10 1) := by funext j; unfold upn; (repeat' split) <;> first | rfl | (exfalso; omega) | omega
  have haq : (upr ar 1 t_3) = (upr ar 1 t_3) := by first | rfl | simp only [upr_upr]
  have hmE : moC E b (upn (upn (upn (upn (upn (upn (upn (upn (upn z 0 0) 8 0) 9 (z 3)) 3 0) 10 0) 11 0) 8 a_1) 11 w_2) 10 (0 + 1)) g (upa gs 0 g) (upr ar 1 t_3) = moC E b (upn (upn (upn (upn (upn (upn z 0 0) 9 (z 3)) 3 0) 8 a_1) 11 w_2) 10 1) g (upa gs 0 g) (upr ar 1 t_3) := by rw [hzq, haq]
  rw [hmE] at hP hD; clear hmE
  clear hzq
  have hRRP9 := hRR_4P
  have hRRS9 := hRR_4S
  have heq0 : (prgR (ar 0) (z 3) 20 0 0 (ar 1)) = if w_2 = 0 ∧ hrE (z 3) (ar 0) a_1 = 60 then prgR (ar 0) (z 3) (20 - 1) 1 (a_1 + 1) t_3 else (1, a_1, w_2, t_3) := prgR_s (f := 19) hRR_4
  exact loop36 _ 1 a_1 w_2 t_3 (by omega) (by omega) (by omega) (by omega) (fun q => by have := (hRRP9 q).1; omega) (fun q => hRRS9 q (fun j hj => absurd hj (Nat.not_lt_zero _))) heq0 (Nat.lt_succ_self _) _ _ _ hP hD hS (lv_sub hl [0] rfl)
