/-! a whole program, form by form: how many commands, the place, how it ended (0: no semicolon, 1: goes on, 2: no command), arguments, kinds -/
def parR (tx : Nat → Nat) (e : Nat) : Nat → Nat → Nat → (Nat → Nat) → (Nat → Nat) → Nat × Nat × Nat × (Nat → Nat) × (Nat → Nat)
  | 0, c, sp, A, K => (c, sp, 1, A, K)
  | f + 1, c, sp, A, K => if (cmdR tx e sp c 7 0 sp A).2.1 = 0 then (c, (cmdR tx e sp c 7 0 sp A).1, 2, (cmdR tx e sp c 7 0 sp A).2.2.2, K)
    else if (cmdR tx e sp c 7 0 sp A).1 < e ∧ tx (cmdR tx e sp c 7 0 sp A).1 = 59 then parR tx e f (c + 1) ((cmdR tx e sp c 7 0 sp A).1 + 1) (cmdR tx e sp c 7 0 sp A).2.2.2 (upn K c (cmdR tx e sp c 7 0 sp A).2.2.1)
    else (c + 1, (cmdR tx e sp c 7 0 sp A).1, 0, (cmdR tx e sp c 7 0 sp A).2.2.2, upn K c (cmdR tx e sp c 7 0 sp A).2.2.1)
theorem parR_f {tx : Nat → Nat} {e f c sp x k : Nat} {A K A2 : Nat → Nat} (h : cmdR tx e sp c 7 0 sp A = (x, 0, k, A2)) : parR tx e (f + 1) c sp A K = (c, x, 2, A2, K) := by
  show (if (cmdR tx e sp c 7 0 sp A).2.1 = 0 then _ else _) = _
  rw [h, if_pos rfl]
theorem parR_s {tx : Nat → Nat} {e f c sp x y k : Nat} {A K A2 : Nat → Nat} (h : cmdR tx e sp c 7 0 sp A = (x, y, k, A2)) (hy : y ≠ 0) : parR tx e (f + 1) c sp A K = if decide (x < e ∧ tx x = 59) = true then parR tx e f (c + 1) (if x < e ∧ tx x = 59 then x + 1 else x) A2 (upn K c k) else (c + 1, if x < e ∧ tx x = 59 then x + 1 else x, 0, A2, upn K c k) := by
  show (if (cmdR tx e sp c 7 0 sp A).2.1 = 0 then _ else _) = _
  rw [h, if_neg hy]
  show (if x < e ∧ tx x = 59 then _ else _) = _
  by_cases h9 : x < e ∧ tx x = 59
  · rw [if_pos h9, if_pos h9, if_pos (decide_eq_true h9)]
  · rw [if_neg h9, if_neg h9, decide_eq_false h9]; rfl
abbrev rm_X3_parse : Room := { frames := 6, cells := 0, slots := 0, locals := 134 }
set_option maxHeartbeats 4000000 in
set_option maxRecDepth 100000 in
theorem c_X3_parse (l : Launch) (E : EE) (sz : Nat) (a : Nat → Nat) (q : Nat → Nat) (F : GG) (h0 : q 0 ≤ 60) (ho : ∀ j, F 0 j < 65536) : MI l yX3_parse cX3_parse 3 .boolean rm_X3_parse [.ref (a 0)] E sz [prC E a q F] (fun (r : Int32) (_ : Unit) => r = bI (decide ((parR (F 0) (q 0) 8 0 0 (F 2) (F 1)).2.2.1 = 0 ∧ (parR (F 0) (q 0) 8 0 0 (F 2) (F 1)).2.1 = q 0))) (fun _ => [prC E a (upn (upn q 2 (parR (F 0) (q 0) 8 0 0 (F 2) (F 1)).2.1) 1 (parR (F 0) (q 0) 8 0 0 (F 2) (F 1)).1) (upr (upr F 2 (parR (F 0) (q 0) 8 0 0 (F 2) (F 1)).2.2.2.1) 1 (parR (F 0) (q 0) 8 0 0 (F 2) (F 1)).2.2.2.2)]) 0 0 := by
  refine mi_go (by decide) (Nat.le_of_ble_eq_true rfl) ?_
  intro p e s m below meth c A Q ls hx hb hml hown hts hK hZ hA hsz hP hD hl hret
  have hS : va_S A s.heap s.heap [] := va_S.rf
  have hl : lv_has ls 3 [(0, .ref (a 0))] := hl
  skip
  refine lv_aload_n hx hb dX3_parse_0 rfl (lv_at hl 0 rfl) ?_
  refine lv_iconst (v := nI 0) hx hb dX3_parse_1 (by decide) ?_
  refine va_put (D := E.1) (ci := 7) (v := .int (nI 0)) (ty := .int) (C := RX3) (T := TX3) (N := 6) hx hb hts inX3 tyX3 tyX3_ok nmX3 hown hK hP hD hS 0 rfl rfl 5 (by decide) (hts _ q197) (fun _ h9 => h9) rfl (by decide +kernel) rfl rfl (Nat.le_of_ble_eq_true rfl) dX3_parse_2 (fun H locs hP hD hS => ?_)
  have hP : va_P E.1 vwCl ([prC E a (upn q 2 0) F] : List va_W).flatten H := hP
  have hD : va_D A ([prC E a (upn q 2 0) F] : List va_W).flatten := hD
  refine lv_aload_n hx hb dX3_parse_5 rfl (lv_at hl 0 rfl) ?_
  refine lv_iconst (v := nI 0) hx hb dX3_parse_6 (by decide) ?_
  refine va_put (D := E.1) (ci := 7) (v := .int (nI 0)) (ty := .int) (C := RX3) (T := TX3) (N := 6) hx hb hts inX3 tyX3 tyX3_ok nmX3 hown hK hP hD hS 0 rfl rfl 4 (by decide) (hts _ q195) (fun _ h9 => h9) rfl (by decide +kernel) rfl rfl (Nat.le_of_ble_eq_true rfl) dX3_parse_7 (fun H locs hP hD hS => ?_)
  have hP : va_P E.1 vwCl ([prC E a (upn (upn q 2 0) 1 0) F] : List va_W).flatten H := hP
  have hD : va_D A ([prC E a (upn (upn q 2 0) 1 0) F] : List va_W).flatten := hD
  refine lv_iconst (v := nI 1) hx hb dX3_parse_10 (by decide) ?_
  refine lv_istore_n (lv' := [(1, .int (nI 1)), (0, .ref (a 0))]) hx hb dX3_parse_11 rfl hl (by decide) rfl (fun ls hl => ?_)
  refine lv_iconst (v := nI 0) hx hb dX3_parse_12 (by decide) ?_
  refine lv_istore_n (lv' := [(2, .int (nI 0)), (1, .int (nI 1)), (0, .ref (a 0))]) hx hb dX3_parse_13 rfl hl (by decide) rfl (fun ls hl => ?_)
  have loop14 : ∀ (n : Nat) (k9 : Nat) (go : Bool) (sp : Nat) (A9 : Nat → Nat) (K9 : Nat → Nat), (k9 ≤ 8) → (sp ≤ q 0) → ((parR (F 0) (q 0) 8 0 0 (F 2) (F 1)) = if go = true then parR (F 0) (q 0) (8 - k9) k9 sp A9 K9 else (k9, sp, 0, A9, K9)) → 8 - k9 < n → ∀ (H : Heap) (locs : List Loc) (ls : Array Slot), va_P E.1 vwCl ([prC E a (upn (upn q 2 sp) 1 k9) (upr (upr F 2 A9) 1 K9)] : List va_W).flatten H → va_D A ([prC E a (upn (upn q 2 sp) 1 k9) (upr (upr F 2 A9) 1 K9)] : List va_W).flatten → va_S A s.heap H locs → lv_has ls 3 [(0, .ref (a 0)), (1, .int (bI go)), (2, .int (nI k9))] → W p l e rm_X3_parse s m ([.ref (a 0)] : List Value).toArray below meth c H locs 0 0 Q (F0 m 14 ls []) := by
    intro n14
    induction n14 with
    | zero => intro k9 go sp A9 K9 hc hsp heq hn14; exact absurd hn14 (Nat.not_lt_zero _)
    | succ n14 ih14 =>
      intro k9 go sp A9 K9 hc hsp heq hn14 H locs ls hP hD hS hl
      refine lv_iload_n hx hb dX3_parse_14 rfl (lv_at hl 1 rfl) ?_
      refine bv_if_eq hx hb (tgt := 54) dX3_parse_15 (by decide) (fun c_1 => ?_) (fun c_1 => ?_)
      · skip
        have hgo : go = false := c_1
        have hfn : (parR (F 0) (q 0) 8 0 0 (F 2) (F 1)) = (k9, sp, 0, A9, K9) := by rw [heq, hgo]; rfl
        refine lv_iload_n hx hb dX3_parse_54 rfl (lv_at hl 1 rfl) ?_
        refine bv_if_ne hx hb (tgt := 73) dX3_parse_55 (by decide) (fun c_2 => ?_) (fun c_2 => ?_)
        · skip
          have hno : ¬ ((parR (F 0) (q 0) 8 0 0 (F 2) (F 1)).2.2.1 = 0 ∧ (parR (F 0) (q 0) 8 0 0 (F 2) (F 1)).2.1 = q 0) := by first | exact absurd c_2 (by rw [hgo]; decide) | (rw [hfn]; exact fun q3 => absurd (show (1 : Nat) = 0 from q3.1) (by decide))
          refine lv_iconst (v := nI 0) hx hb dX3_parse_73 (by decide) ?_
          rw [show prC E a (upn (upn q 2 sp) 1 k9) (upr (upr F 2 A9) 1 K9) = prC E a (upn (upn q 2 (parR (F 0) (q 0) 8 0 0 (F 2) (F 1)).2.1) 1 (parR (F 0) (q 0) 8 0 0 (F 2) (F 1)).1) (upr (upr F 2 (parR (F 0) (q 0) 8 0 0 (F 2) (F 1)).2.2.2.1) 1 (parR (F 0) (q 0) 8 0 0 (F 2) (F 1)).2.2.2.2) from by rw [hfn]] at hP hD
          exact hret _ _ (nI 0) () _ _ hP hD hS (by decide) (bf_of hno) dX3_parse_74
        · skip
          have h55 : go = false := c_2
          refine lv_aload_n hx hb dX3_parse_58 rfl (lv_at hl 0 rfl) ?_
          refine va_get (D := E.1) (ci := 7) (v := .int (nI sp)) (C := RX3) (T := TX3) (N := 6) hx hb hts inX3 hown hK hP 0 rfl rfl 5 (by decide) (hts _ q197) (fun _ h9 => h9) rfl dX3_parse_59 ?_
          refine lv_aload_n hx hb dX3_parse_62 rfl (lv_at hl 0 rfl) ?_
          refine va_get (D := E.1) (ci := 7) (v := .int (nI (q 0))) (C := RX3) (T := TX3) (N := 6) hx hb hts inX3 hown hK hP 0 rfl rfl 3 (by decide) (hts _ q194) (fun _ h9 => h9) rfl dX3_parse_63 ?_
          refine nv_icmp_ne (X := ((sp : Nat) : Int)) (Y := ((q 0 : Nat) : Int)) hx hb (nI_toInt (by omega)) (nI_toInt (by omega)) (tgt := 73) dX3_parse_66 (by decide) (fun c_3 => ?_) (fun c_3 => ?_)
          · skip
            have hno : ¬ ((parR (F 0) (q 0) 8 0 0 (F 2) (F 1)).2.2.1 = 0 ∧ (parR (F 0) (q 0) 8 0 0 (F 2) (F 1)).2.1 = q 0) := by rw [hfn]; exact fun q3 => absurd (show sp = q 0 from q3.2) (by omega)
            refine lv_iconst (v := nI 0) hx hb dX3_parse_73 (by decide) ?_
            rw [show prC E a (upn (upn q 2 sp) 1 k9) (upr (upr F 2 A9) 1 K9) = prC E a (upn (upn q 2 (parR (F 0) (q 0) 8 0 0 (F 2) (F 1)).2.1) 1 (parR (F 0) (q 0) 8 0 0 (F 2) (F 1)).1) (upr (upr F 2 (parR (F 0) (q 0) 8 0 0 (F 2) (F 1)).2.2.2.1) 1 (parR (F 0) (q 0) 8 0 0 (F 2) (F 1)).2.2.2.2) from by rw [hfn]] at hP hD
            exact hret _ _ (nI 0) () _ _ hP hD hS (by decide) (bf_of hno) dX3_parse_74
          · skip
            have hye : (parR (F 0) (q 0) 8 0 0 (F 2) (F 1)).2.2.1 = 0 ∧ (parR (F 0) (q 0) 8 0 0 (F 2) (F 1)).2.1 = q 0 := by first | (rw [hfn]; exact ⟨rfl, by show sp = q 0; omega⟩) | exact absurd (hgo.symm.trans h55) (by decide)
            refine lv_iconst (v := nI 1) hx hb dX3_parse_69 (by decide) ?_
            refine lv_goto (tgt := 74) hx hb dX3_parse_70 (by decide) ?_
            rw [show prC E a (upn (upn q 2 sp) 1 k9) (upr (upr F 2 A9) 1 K9) = prC E a (upn (upn q 2 (parR (F 0) (q 0) 8 0 0 (F 2) (F 1)).2.1) 1 (parR (F 0) (q 0) 8 0 0 (F 2) (F 1)).1) (upr (upr F 2 (parR (F 0) (q 0) 8 0 0 (F 2) (F 1)).2.2.2.1) 1 (parR (F 0) (q 0) 8 0 0 (F 2) (F 1)).2.2.2.2) from by rw [hfn]] at hP hD
            exact hret _ _ (nI 1) () _ _ hP hD hS (by decide) (bt_of hye) dX3_parse_74
      · skip
        have hgo : go = true := c_1
        refine lv_iload_n hx hb dX3_parse_18 rfl (lv_at hl 2 rfl) ?_
        refine lv_bipush (v := nI 8) hx hb dX3_parse_19 (by decide) ?_
        refine nv_icmp_ge (X := ((k9 : Nat) : Int)) (Y := ((8 : Nat) : Int)) hx hb (nI_toInt (by omega)) (nI_toInt (by omega)) (tgt := 54) dX3_parse_21 (by decide) (fun c_4 => ?_) (fun c_4 => ?_)
        · skip
          have hfn : (parR (F 0) (q 0) 8 0 0 (F 2) (F 1)) = (k9, sp, 1, A9, K9) := by rw [heq, if_pos hgo, show 8 - k9 = 0 by omega]; rfl
          refine lv_iload_n hx hb dX3_parse_54 rfl (lv_at hl 1 rfl) ?_
          refine bv_if_ne hx hb (tgt := 73) dX3_parse_55 (by decide) (fun c_5 => ?_) (fun c_5 => ?_)
          · skip
            have hno : ¬ ((parR (F 0) (q 0) 8 0 0 (F 2) (F 1)).2.2.1 = 0 ∧ (parR (F 0) (q 0) 8 0 0 (F 2) (F 1)).2.1 = q 0) := by first | exact absurd c_5 (by rw [hgo]; decide) | (rw [hfn]; exact fun q3 => absurd (show (1 : Nat) = 0 from q3.1) (by decide))
            refine lv_iconst (v := nI 0) hx hb dX3_parse_73 (by decide) ?_
            rw [show prC E a (upn (upn q 2 sp) 1 k9) (upr (upr F 2 A9) 1 K9) = prC E a (upn (upn q 2 (parR (F 0) (q 0) 8 0 0 (F 2) (F 1)).2.1) 1 (parR (F 0) (q 0) 8 0 0 (F 2) (F 1)).1) (upr (upr F 2 (parR (F 0) (q 0) 8 0 0 (F 2) (F 1)).2.2.2.1) 1 (parR (F 0) (q 0) 8 0 0 (F 2) (F 1)).2.2.2.2) from by rw [hfn]] at hP hD
            exact hret _ _ (nI 0) () _ _ hP hD hS (by decide) (bf_of hno) dX3_parse_74
          · skip
            have h55 : go = false := c_5
            refine lv_aload_n hx hb dX3_parse_58 rfl (lv_at hl 0 rfl) ?_
            refine va_get (D := E.1) (ci := 7) (v := .int (nI sp)) (C := RX3) (T := TX3) (N := 6) hx hb hts inX3 hown hK hP 0 rfl rfl 5 (by decide) (hts _ q197) (fun _ h9 => h9) rfl dX3_parse_59 ?_
            refine lv_aload_n hx hb dX3_parse_62 rfl (lv_at hl 0 rfl) ?_
            refine va_get (D := E.1) (ci := 7) (v := .int (nI (q 0))) (C := RX3) (T := TX3) (N := 6) hx hb hts inX3 hown hK hP 0 rfl rfl 3 (by decide) (hts _ q194) (fun _ h9 => h9) rfl dX3_parse_63 ?_
            refine nv_icmp_ne (X := ((sp : Nat) : Int)) (Y := ((q 0 : Nat) : Int)) hx hb (nI_toInt (by omega)) (nI_toInt (by omega)) (tgt := 73) dX3_parse_66 (by decide) (fun c_6 => ?_) (fun c_6 => ?_)
            · skip
              have hno : ¬ ((parR (F 0) (q 0) 8 0 0 (F 2) (F 1)).2.2.1 = 0 ∧ (parR (F 0) (q 0) 8 0 0 (F 2) (F 1)).2.1 = q 0) := by rw [hfn]; exact fun q3 => absurd (show sp = q 0 from q3.2) (by omega)
              refine lv_iconst (v := nI 0) hx hb dX3_parse_73 (by decide) ?_
              rw [show prC E a (upn (upn q 2 sp) 1 k9) (upr (upr F 2 A9) 1 K9) = prC E a (upn (upn q 2 (parR (F 0) (q 0) 8 0 0 (F 2) (F 1)).2.1) 1 (parR (F 0) (q 0) 8 0 0 (F 2) (F 1)).1) (upr (upr F 2 (parR (F 0) (q 0) 8 0 0 (F 2) (F 1)).2.2.2.1) 1 (parR (F 0) (q 0) 8 0 0 (F 2) (F 1)).2.2.2.2) from by rw [hfn]] at hP hD
              exact hret _ _ (nI 0) () _ _ hP hD hS (by decide) (bf_of hno) dX3_parse_74
            · skip
              have hye : (parR (F 0) (q 0) 8 0 0 (F 2) (F 1)).2.2.1 = 0 ∧ (parR (F 0) (q 0) 8 0 0 (F 2) (F 1)).2.1 = q 0 := by first | (rw [hfn]; exact ⟨rfl, by show sp = q 0; omega⟩) | exact absurd (hgo.symm.trans h55) (by decide)
              refine lv_iconst (v := nI 1) hx hb dX3_parse_69 (by decide) ?_
              refine lv_goto (tgt := 74) hx hb dX3_parse_70 (by decide) ?_
              rw [show prC E a (upn (upn q 2 sp) 1 k9) (upr (upr F 2 A9) 1 K9) = prC E a (upn (upn q 2 (parR (F 0) (q 0) 8 0 0 (F 2) (F 1)).2.1) 1 (parR (F 0) (q 0) 8 0 0 (F 2) (F 1)).1) (upr (upr F 2 (parR (F 0) (q 0) 8 0 0 (F 2) (F 1)).2.2.2.1) 1 (parR (F 0) (q 0) 8 0 0 (F 2) (F 1)).2.2.2.2) from by rw [hfn]] at hP hD
              exact hret _ _ (nI 1) () _ _ hP hD hS (by decide) (bt_of hye) dX3_parse_74
        · skip
          refine lv_aload_n hx hb dX3_parse_24 rfl (lv_at hl 0 rfl) ?_
          refine lv_iload_n hx hb dX3_parse_25 rfl (lv_at hl 2 rfl) ?_
          refine run_i (S := Unit) (run_V (As := [.int (nI k9)]) (rest := []) (bs := [prC E a (upn (upn q 2 sp) 1 k9) (upr (upr F 2 A9) 1 K9)]) (cb := [prC E a (upn (upn q 2 sp) 1 k9) (upr (upr F 2 A9) 1 K9)]) hx hb hml hown hts hK hZ hA (c_X3_readCommand l E _ a (upn (upn q 2 sp) 1 k9) (upr (upr F 2 A9) 1 K9) k9 (by omega) (show q 0 ≤ 60 by omega) (show sp ≤ q 0 by omega) ho) l_X3_30 rfl ⟨⟨rfl, rfl⟩, Nat.le_of_ble_eq_true rfl, Nat.le_of_ble_eq_true rfl⟩ 7 rfl [0] rfl (by decide) rfl hP hD hS hl.1 rfl (Nat.le_of_ble_eq_true rfl) dX3_parse_26 ⟨Nat.zero_le _, Nat.zero_le _⟩) hA hP hD hS (isC := [0]) rfl [] [0] (br := []) (bs2 := fun _ => [prC E a (upn (upn (upn q 2 sp) 1 k9) 2 ((cmdR (F 0) (q 0) (sp) k9 7 0 (sp) A9).1)) (upr (upr (upr (upr F 2 A9) 1 K9) 2 ((cmdR (F 0) (q 0) (sp) k9 7 0 (sp) A9).2.2.2)) 1 (if (cmdR (F 0) (q 0) (sp) k9 7 0 (sp) A9).2.1 = 0 then K9 else upn K9 k9 (cmdR (F 0) (q 0) (sp) k9 7 0 (sp) A9).2.2.1))]) rfl (by decide) (fun _ => rfl) (by decide) (fun r u H locs hw hP hD hS => ?_)
          have hw : r = nI (cmdR (F 0) (q 0) (sp) k9 7 0 (sp) A9).2.1 := hw
          subst hw
          have hfl := cmdR_le (tx := (F 0)) (e := q 0) (st := sp) (n := k9) (by omega) 7 0 (sp) A9 (by omega)
          rcases hCM : cmdR (F 0) (q 0) (sp) k9 7 0 (sp) A9 with ⟨xq, yq, kq, Aq⟩
          rw [hCM] at hP hD hfl
          have hfl : xq ≤ q 0 ∧ yq ≤ 1 ∧ kq ≤ 7 := hfl
          have hP : va_P E.1 vwCl ([prC E a (upn (upn (upn q 2 sp) 1 k9) 2 xq) (upr (upr (upr (upr F 2 A9) 1 K9) 2 Aq) 1 (if yq = 0 then K9 else upn K9 k9 kq))] : List va_W).flatten H := hP
          have hD : va_D A ([prC E a (upn (upn (upn q 2 sp) 1 k9) 2 xq) (upr (upr (upr (upr F 2 A9) 1 K9) 2 Aq) 1 (if yq = 0 then K9 else upn K9 k9 kq))] : List va_W).flatten := hD
          refine nv_if_ne (X := ((yq : Nat) : Int)) hx hb (nI_toInt (by omega)) (tgt := 34) dX3_parse_29 (by decide) (fun c_7 => ?_) (fun c_7 => ?_)
          · skip
            have hq9 : (upn (upn (upn q 2 sp) 1 k9) 2 xq) = (upn (upn q 2 xq) 1 k9) := by funext j; (repeat' split) <;> unfold upn <;> (repeat' split) <;> first | rfl | (exfalso; omega) | omega
            have hF9 : (upr (upr (upr (upr F 2 A9) 1 K9) 2 Aq) 1 (if yq = 0 then K9 else upn K9 k9 kq)) = (upr (upr F 2 Aq) 1 (upn K9 k9 kq)) := by funext j; unfold upr; (repeat' split) <;> first | rfl | (exfalso; omega) | contradiction
            rw [show prC E a (upn (upn (upn q 2 sp) 1 k9) 2 xq) (upr (upr (upr (upr F 2 A9) 1 K9) 2 Aq) 1 (if yq = 0 then K9 else upn K9 k9 kq)) = prC E a (upn (upn q 2 xq) 1 k9) (upr (upr F 2 Aq) 1 (upn K9 k9 kq)) from by rw [hq9, hF9]] at hP hD; clear hq9 hF9
            have hP : va_P E.1 vwCl ([prC E a (upn (upn q 2 xq) 1 k9) (upr (upr F 2 Aq) 1 (upn K9 k9 kq))] : List va_W).flatten H := hP
            have hD : va_D A ([prC E a (upn (upn q 2 xq) 1 k9) (upr (upr F 2 Aq) 1 (upn K9 k9 kq))] : List va_W).flatten := hD
            refine lv_aload_n hx hb dX3_parse_34 rfl (lv_at hl 0 rfl) ?_
            refine lv_iload_n hx hb dX3_parse_35 rfl (lv_at hl 2 rfl) ?_
            refine lv_iconst (v := nI 1) hx hb dX3_parse_36 (by decide) ?_
            refine nv_iadd hx hb dX3_parse_37 ?_
            refine va_put (D := E.1) (ci := 7) (v := .int (nI (k9 + 1))) (ty := .int) (C := RX3) (T := TX3) (N := 6) hx hb hts inX3 tyX3 tyX3_ok nmX3 hown hK hP hD hS 0 rfl rfl 4 (by decide) (hts _ q195) (fun _ h9 => h9) rfl (by decide +kernel) rfl rfl (Nat.le_of_ble_eq_true rfl) dX3_parse_38 (fun H locs hP hD hS => ?_)
            have hP : va_P E.1 vwCl ([prC E a (upn (upn (upn q 2 xq) 1 k9) 1 (k9 + 1)) (upr (upr F 2 Aq) 1 (upn K9 k9 kq))] : List va_W).flatten H := hP
            have hD : va_D A ([prC E a (upn (upn (upn q 2 xq) 1 k9) 1 (k9 + 1)) (upr (upr F 2 Aq) 1 (upn K9 k9 kq))] : List va_W).flatten := hD
            refine lv_aload_n hx hb dX3_parse_41 rfl (lv_at hl 0 rfl) ?_
            refine lv_bipush (v := nI 59) hx hb dX3_parse_42 (by decide) ?_
            refine run_i (S := Unit) (run_V (As := [.int (nI 59)]) (rest := []) (bs := [prC E a (upn (upn (upn q 2 xq) 1 k9) 1 (k9 + 1)) (upr (upr F 2 Aq) 1 (upn K9 k9 kq))]) (cb := [prC E a (upn (upn (upn q 2 xq) 1 k9) 1 (k9 + 1)) (upr (upr F 2 Aq) 1 (upn K9 k9 kq))]) hx hb hml hown hts hK hZ hA (c_X3_readSign l E _ a (upn (upn (upn q 2 xq) 1 k9) 1 (k9 + 1)) (upr (upr F 2 Aq) 1 (upn K9 k9 kq)) 59 (by omega) (show q 0 ≤ 60 by omega) (show xq ≤ q 0 by omega) ho) l_X3_34 rfl ⟨⟨rfl, rfl⟩, Nat.le_of_ble_eq_true rfl, Nat.le_of_ble_eq_true rfl⟩ 7 rfl [0] rfl (by decide) rfl hP hD hS hl.1 rfl (Nat.le_of_ble_eq_true rfl) dX3_parse_44 ⟨Nat.zero_le _, Nat.zero_le _⟩) hA hP hD hS (isC := [0]) rfl [] [0] (br := []) (bs2 := fun _ => [prC E a (if xq < q 0 ∧ (F 0) xq = 59 then upn (upn (upn (upn q 2 xq) 1 k9) 1 (k9 + 1)) 2 (xq + 1) else (upn (upn (upn q 2 xq) 1 k9) 1 (k9 + 1))) (upr (upr F 2 Aq) 1 (upn K9 k9 kq))]) rfl (by decide) (fun _ => rfl) (by decide) (fun r u H locs hw hP hD hS => ?_)
            have hw : r = bI (decide (xq < q 0 ∧ (F 0) xq = 59)) := hw
            subst hw
            refine lv_istore_n (lv' := [(1, .int (bI (decide (xq < q 0 ∧ (F 0) xq = 59)))), (0, .ref (a 0)), (2, .int (nI k9))]) hx hb dX3_parse_47 rfl hl (by decide) rfl (fun ls hl => ?_)
            refine lv_iinc (v := nI (k9 + 1)) (lv' := [(2, .int (nI (k9 + 1))), (1, .int (bI (decide (xq < q 0 ∧ (F 0) xq = 59)))), (0, .ref (a 0))]) hx hb dX3_parse_48 hl (k := 2) rfl (nI_add k9 1) (by decide) rfl (fun ls hl => ?_)
            have hq9 : (if xq < q 0 ∧ (F 0) xq = 59 then upn (upn (upn (upn q 2 xq) 1 k9) 1 (k9 + 1)) 2 (xq + 1) else (upn (upn (upn q 2 xq) 1 k9) 1 (k9 + 1))) = (upn (upn q 2 (if xq < q 0 ∧ F 0 xq = 59 then xq + 1 else xq)) 1 (k9 + 1)) := by funext j; (repeat' split) <;> unfold upn <;> (repeat' split) <;> first | rfl | (exfalso; omega) | omega
            have hF9 : (upr (upr F 2 Aq) 1 (upn K9 k9 kq)) = (upr (upr F 2 Aq) 1 (upn K9 k9 kq)) := by funext j; unfold upr; (repeat' split) <;> first | rfl | (exfalso; omega) | contradiction
            rw [show prC E a (if xq < q 0 ∧ (F 0) xq = 59 then upn (upn (upn (upn q 2 xq) 1 k9) 1 (k9 + 1)) 2 (xq + 1) else (upn (upn (upn q 2 xq) 1 k9) 1 (k9 + 1))) (upr (upr F 2 Aq) 1 (upn K9 k9 kq)) = prC E a (upn (upn q 2 (if xq < q 0 ∧ F 0 xq = 59 then xq + 1 else xq)) 1 (k9 + 1)) (upr (upr F 2 Aq) 1 (upn K9 k9 kq)) from by rw [hq9, hF9]] at hP hD; clear hq9 hF9
            have hP : va_P E.1 vwCl ([prC E a (upn (upn q 2 (if xq < q 0 ∧ F 0 xq = 59 then xq + 1 else xq)) 1 (k9 + 1)) (upr (upr F 2 Aq) 1 (upn K9 k9 kq))] : List va_W).flatten H := hP
            have hD : va_D A ([prC E a (upn (upn q 2 (if xq < q 0 ∧ F 0 xq = 59 then xq + 1 else xq)) 1 (k9 + 1)) (upr (upr F 2 Aq) 1 (upn K9 k9 kq))] : List va_W).flatten := hD
            refine lv_goto (tgt := 14) hx hb dX3_parse_51 (by decide) ?_
            exact ih14 (k9 + 1) (decide (xq < q 0 ∧ F 0 xq = 59)) (if xq < q 0 ∧ F 0 xq = 59 then xq + 1 else xq) Aq (upn K9 k9 kq) (by omega) (by split <;> omega) (by rw [heq, if_pos hgo, show 8 - k9 = (8 - (k9 + 1)) + 1 by omega]; exact parR_s hCM (by omega)) (by omega) _ _ _ hP hD hS (lv_sub hl [2, 1, 0] rfl)
          · skip
            have hy0 : yq = 0 := by omega
            have hq9 : (upn (upn (upn q 2 sp) 1 k9) 2 xq) = (upn (upn q 2 xq) 1 k9) := by funext j; (repeat' split) <;> unfold upn <;> (repeat' split) <;> first | rfl | (exfalso; omega) | omega
            have hF9 : (upr (upr (upr (upr F 2 A9) 1 K9) 2 Aq) 1 (if yq = 0 then K9 else upn K9 k9 kq)) = (upr (upr F 2 Aq) 1 K9) := by funext j; unfold upr; (repeat' split) <;> first | rfl | (exfalso; omega) | contradiction
            rw [show prC E a (upn (upn (upn q 2 sp) 1 k9) 2 xq) (upr (upr (upr (upr F 2 A9) 1 K9) 2 Aq) 1 (if yq = 0 then K9 else upn K9 k9 kq)) = prC E a (upn (upn q 2 xq) 1 k9) (upr (upr F 2 Aq) 1 K9) from by rw [hq9, hF9]] at hP hD; clear hq9 hF9
            have hP : va_P E.1 vwCl ([prC E a (upn (upn q 2 xq) 1 k9) (upr (upr F 2 Aq) 1 K9)] : List va_W).flatten H := hP
            have hD : va_D A ([prC E a (upn (upn q 2 xq) 1 k9) (upr (upr F 2 Aq) 1 K9)] : List va_W).flatten := hD
            have hfn : (parR (F 0) (q 0) 8 0 0 (F 2) (F 1)) = (k9, xq, 2, Aq, K9) := by rw [heq, if_pos hgo, show 8 - k9 = (8 - (k9 + 1)) + 1 by omega]; exact parR_f (hCM.trans (by rw [hy0]))
            have hno : ¬ ((parR (F 0) (q 0) 8 0 0 (F 2) (F 1)).2.2.1 = 0 ∧ (parR (F 0) (q 0) 8 0 0 (F 2) (F 1)).2.1 = q 0) := by rw [hfn]; exact fun q3 => absurd (show (2 : Nat) = 0 from q3.1) (by decide)
            refine lv_iconst (v := nI 0) hx hb dX3_parse_32 (by decide) ?_
            rw [show prC E a (upn (upn q 2 xq) 1 k9) (upr (upr F 2 Aq) 1 K9) = prC E a (upn (upn q 2 (parR (F 0) (q 0) 8 0 0 (F 2) (F 1)).2.1) 1 (parR (F 0) (q 0) 8 0 0 (F 2) (F 1)).1) (upr (upr F 2 (parR (F 0) (q 0) 8 0 0 (F 2) (F 1)).2.2.2.1) 1 (parR (F 0) (q 0) 8 0 0 (F 2) (F 1)).2.2.2.2) from by rw [hfn]] at hP hD
            exact hret _ _ (nI 0) () _ _ hP hD hS (by decide) (bf_of hno) dX3_parse_33
  rw [show prC E a (upn (upn q 2 0) 1 0) F = prC E a (upn (upn q 2 0) 1 0) (upr (upr F 2 (F 2)) 1 (F 1)) from by rw [upr_id1 (g := F) (k := 2) rfl, upr_id1 (g := F) (k := 1) rfl]] at hP hD
  exact loop14 _ 0 true 0 (F 2) (F 1) (by omega) (by omega) rfl (Nat.lt_succ_self _) _ _ _ hP hD hS (lv_sub hl [2, 1, 0] rfl)
