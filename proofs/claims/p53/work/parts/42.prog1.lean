abbrev rm_X3_isFull : Room := { frames := 0, cells := 0, slots := 0, locals := 0 }
set_option maxHeartbeats 4000000 in
set_option maxRecDepth 100000 in
theorem c_X3_isFull (l : Launch) (E : EE) (sz : Nat) (a : Nat → Nat) (q : Nat → Nat) (F : GG) (h : q 0 ≤ 60) : MI l yX3_isFull cX3_isFull 1 .boolean rm_X3_isFull [.ref (a 0)] E sz [prC E a q F] (fun (r : Int32) (_ : Unit) => r = bI (decide (60 ≤ q 0))) (fun _ => [prC E a q F]) 0 0 := by
  refine mi_go (by decide) (Nat.le_of_ble_eq_true rfl) ?_
  intro p e s m below meth c A Q ls hx hb hml hown hts hK hZ hA hsz hP hD hl hret
  have hS : va_S A s.heap s.heap [] := va_S.rf
  have hl : lv_has ls 1 [(0, .ref (a 0))] := hl
  skip
  refine lv_aload_n hx hb dX3_isFull_0 rfl (lv_at hl 0 rfl) ?_
  refine va_get (D := E.1) (ci := 7) (v := .int (nI (q 0))) (C := RX3) (T := TX3) (N := 6) hx hb hts inX3 hown hK hP 0 rfl rfl 3 (by decide) (hts _ q194) (fun _ h9 => h9) rfl dX3_isFull_1 ?_
  refine lv_bipush (v := nI 60) hx hb dX3_isFull_4 (by decide) ?_
  refine nv_icmp_lt (X := ((q 0 : Nat) : Int)) (Y := ((60 : Nat) : Int)) hx hb (nI_toInt (by omega)) (nI_toInt (by omega)) (tgt := 13) dX3_isFull_6 (by decide) (fun c_1 => ?_) (fun c_1 => ?_)
  · skip
    refine lv_iconst (v := nI 0) hx hb dX3_isFull_13 (by decide) ?_
    exact hret _ _ (nI 0) () _ _ hP hD hS (by decide) (bf_of (by omega)) dX3_isFull_14
  · skip
    refine lv_iconst (v := nI 1) hx hb dX3_isFull_9 (by decide) ?_
    refine lv_goto (tgt := 14) hx hb dX3_isFull_10 (by decide) ?_
    exact hret _ _ (nI 1) () _ _ hP hD hS (by decide) (bt_of (by omega)) dX3_isFull_14
abbrev rm_X3_add : Room := { frames := 0, cells := 0, slots := 0, locals := 0 }
set_option maxHeartbeats 4000000 in
set_option maxRecDepth 100000 in
theorem c_X3_add (l : Launch) (E : EE) (sz : Nat) (a : Nat → Nat) (q : Nat → Nat) (F : GG) (n0 : Nat) (h : q 0 < 60) (hn : n0 < 65536) : MI l yX3_add cX3_add 2 .int rm_X3_add [.ref (a 0), .int (nI n0)] E sz [prC E a q F] (fun (r : Int32) (_ : Unit) => r = nI (q 0 + 1)) (fun _ => [prC E a (upn q 0 (q 0 + 1)) (upr F 0 (upn (F 0) (q 0) n0))]) 0 0 := by
  refine mi_go (by decide) (Nat.le_of_ble_eq_true rfl) ?_
  intro p e s m below meth c A Q ls hx hb hml hown hts hK hZ hA hsz hP hD hl hret
  have hS : va_S A s.heap s.heap [] := va_S.rf
  have hl : lv_has ls 2 [(0, .ref (a 0)), (1, .int (nI n0))] := hl
  skip
  refine lv_aload_n hx hb dX3_add_0 rfl (lv_at hl 0 rfl) ?_
  refine va_get (D := E.1) (ci := 7) (v := .ref (a 1)) (C := RX3) (T := TX3) (N := 6) hx hb hts inX3 hown hK hP 0 rfl rfl 0 (by decide) (hts _ q191) (fun _ h9 => h9) rfl dX3_add_1 ?_
  refine lv_aload_n hx hb dX3_add_4 rfl (lv_at hl 0 rfl) ?_
  refine va_get (D := E.1) (ci := 7) (v := .int (nI (q 0))) (C := RX3) (T := TX3) (N := 6) hx hb hts inX3 hown hK hP 0 rfl rfl 3 (by decide) (hts _ q194) (fun _ h9 => h9) rfl dX3_add_5 ?_
  refine lv_iload_n hx hb dX3_add_8 rfl (lv_at hl 1 rfl) ?_
  refine nv_cast (f := (F 0)) (i := q 0) (v := n0) (n := 60) hx hb hK hP hD hS 1 1 rfl rfl (by omega) (by decide) (by omega) dX3_add_9 (fun H locs hP hD hS => ?_)
  have hP : va_P E.1 vwCl ([prC E a q (upr F 0 (upn (F 0) (q 0) n0))] : List va_W).flatten H := hP
  have hD : va_D A ([prC E a q (upr F 0 (upn (F 0) (q 0) n0))] : List va_W).flatten := hD
  refine lv_aload_n hx hb dX3_add_10 rfl (lv_at hl 0 rfl) ?_
  refine lv_dup hx hb dX3_add_11 rfl ?_
  refine va_get (D := E.1) (ci := 7) (v := .int (nI (q 0))) (C := RX3) (T := TX3) (N := 6) hx hb hts inX3 hown hK hP 0 rfl rfl 3 (by decide) (hts _ q194) (fun _ h9 => h9) rfl dX3_add_12 ?_
  refine lv_iconst (v := nI 1) hx hb dX3_add_15 (by decide) ?_
  refine nv_iadd hx hb dX3_add_16 ?_
  refine va_put (D := E.1) (ci := 7) (v := .int (nI (q 0 + 1))) (ty := .int) (C := RX3) (T := TX3) (N := 6) hx hb hts inX3 tyX3 tyX3_ok nmX3 hown hK hP hD hS 0 rfl rfl 3 (by decide) (hts _ q194) (fun _ h9 => h9) rfl (by decide +kernel) rfl rfl (Nat.le_of_ble_eq_true rfl) dX3_add_17 (fun H locs hP hD hS => ?_)
  have hP : va_P E.1 vwCl ([prC E a (upn q 0 (q 0 + 1)) (upr F 0 (upn (F 0) (q 0) n0))] : List va_W).flatten H := hP
  have hD : va_D A ([prC E a (upn q 0 (q 0 + 1)) (upr F 0 (upn (F 0) (q 0) n0))] : List va_W).flatten := hD
  refine lv_aload_n hx hb dX3_add_20 rfl (lv_at hl 0 rfl) ?_
  refine va_get (D := E.1) (ci := 7) (v := .int (nI (q 0 + 1))) (C := RX3) (T := TX3) (N := 6) hx hb hts inX3 hown hK hP 0 rfl rfl 3 (by decide) (hts _ q194) (fun _ h9 => h9) rfl dX3_add_21 ?_
  exact hret _ _ (nI (q 0 + 1)) () _ _ hP hD hS rfl rfl dX3_add_24
abbrev rm_X3_emptyText : Room := { frames := 0, cells := 0, slots := 0, locals := 0 }
set_option maxHeartbeats 4000000 in
set_option maxRecDepth 100000 in
theorem c_X3_emptyText (l : Launch) (E : EE) (sz : Nat) (a : Nat → Nat) (q : Nat → Nat) (F : GG)  : MV l yX3_emptyText cX3_emptyText 1 rm_X3_emptyText [.ref (a 0)] E sz [prC E a q F] (fun (_ : Unit) => True) (fun _ => [prC E a (upn q 0 0) F]) 0 0 := by
  refine mv_go (by decide) (Nat.le_of_ble_eq_true rfl) ?_
  intro p e s m below meth c A Q ls hx hb hml hown hts hK hZ hA hsz hP hD hl hret hnm
  have hS : va_S A s.heap s.heap [] := va_S.rf
  have hl : lv_has ls 1 [(0, .ref (a 0))] := hl
  skip
  refine lv_aload_n hx hb dX3_emptyText_0 rfl (lv_at hl 0 rfl) ?_
  refine lv_iconst (v := nI 0) hx hb dX3_emptyText_1 (by decide) ?_
  refine va_put (D := E.1) (ci := 7) (v := .int (nI 0)) (ty := .int) (C := RX3) (T := TX3) (N := 6) hx hb hts inX3 tyX3 tyX3_ok nmX3 hown hK hP hD hS 0 rfl rfl 3 (by decide) (hts _ q194) (fun _ h9 => h9) rfl (by decide +kernel) rfl rfl (Nat.le_of_ble_eq_true rfl) dX3_emptyText_2 (fun H locs hP hD hS => ?_)
  have hP : va_P E.1 vwCl ([prC E a (upn q 0 0) F] : List va_W).flatten H := hP
  have hD : va_D A ([prC E a (upn q 0 0) F] : List va_W).flatten := hD
  exact hret _ _ () _ _ hP hD hS trivial dX3_emptyText_5
abbrev rm_X3_kindOf : Room := { frames := 0, cells := 0, slots := 0, locals := 0 }
set_option maxHeartbeats 4000000 in
set_option maxRecDepth 100000 in
theorem c_X3_kindOf (l : Launch) (E : EE) (sz : Nat) (a : Nat → Nat) (q : Nat → Nat) (F : GG) (n0 : Nat) (h : n0 < 8) : MI l yX3_kindOf cX3_kindOf 2 .int rm_X3_kindOf [.ref (a 0), .int (nI n0)] E sz [prC E a q F] (fun (r : Int32) (_ : Unit) => r = nI (F 1 n0)) (fun _ => [prC E a q F]) 0 0 := by
  refine mi_go (by decide) (Nat.le_of_ble_eq_true rfl) ?_
  intro p e s m below meth c A Q ls hx hb hml hown hts hK hZ hA hsz hP hD hl hret
  have hS : va_S A s.heap s.heap [] := va_S.rf
  have hl : lv_has ls 2 [(0, .ref (a 0)), (1, .int (nI n0))] := hl
  skip
  refine lv_aload_n hx hb dX3_kindOf_0 rfl (lv_at hl 0 rfl) ?_
  refine va_get (D := E.1) (ci := 7) (v := .ref (a 2)) (C := RX3) (T := TX3) (N := 6) hx hb hts inX3 hown hK hP 0 rfl rfl 1 (by decide) (hts _ q192) (fun _ h9 => h9) rfl dX3_kindOf_1 ?_
  refine lv_iload_n hx hb dX3_kindOf_4 rfl (lv_at hl 1 rfl) ?_
  refine nv_iald (f := (F 1)) (i := n0) (n := 8) hx hb hK hP 2 0 rfl rfl (by omega) (by decide) dX3_kindOf_5 ?_
  exact hret _ _ (nI ((F 1) n0)) () _ _ hP hD hS rfl rfl dX3_kindOf_6
abbrev rm_X3_argument : Room := { frames := 0, cells := 0, slots := 0, locals := 0 }
set_option maxHeartbeats 4000000 in
set_option maxRecDepth 100000 in
theorem c_X3_argument (l : Launch) (E : EE) (sz : Nat) (a : Nat → Nat) (q : Nat → Nat) (F : GG) (n0 n1 : Nat) (h : n0 < 8) (h2 : n1 < 4) : MI l yX3_argument cX3_argument 3 .int rm_X3_argument [.ref (a 0), .int (nI n0), .int (nI n1)] E sz [prC E a q F] (fun (r : Int32) (_ : Unit) => r = nI (F 2 (n0 * 4 + n1))) (fun _ => [prC E a q F]) 0 0 := by
  refine mi_go (by decide) (Nat.le_of_ble_eq_true rfl) ?_
  intro p e s m below meth c A Q ls hx hb hml hown hts hK hZ hA hsz hP hD hl hret
  have hS : va_S A s.heap s.heap [] := va_S.rf
  have hl : lv_has ls 3 [(0, .ref (a 0)), (1, .int (nI n0)), (2, .int (nI n1))] := hl
  skip
  refine lv_aload_n hx hb dX3_argument_0 rfl (lv_at hl 0 rfl) ?_
  refine va_get (D := E.1) (ci := 7) (v := .ref (a 3)) (C := RX3) (T := TX3) (N := 6) hx hb hts inX3 hown hK hP 0 rfl rfl 2 (by decide) (hts _ q193) (fun _ h9 => h9) rfl dX3_argument_1 ?_
  refine lv_iload_n hx hb dX3_argument_4 rfl (lv_at hl 1 rfl) ?_
  refine lv_iconst (v := nI 4) hx hb dX3_argument_5 (by decide) ?_
  refine nv_imul hx hb dX3_argument_6 ?_
  refine lv_iload_n hx hb dX3_argument_7 rfl (lv_at hl 2 rfl) ?_
  refine nv_iadd hx hb dX3_argument_8 ?_
  refine nv_iald (f := (F 2)) (i := n0 * 4 + n1) (n := 32) hx hb hK hP 3 0 rfl rfl (by omega) (by decide) dX3_argument_9 ?_
  exact hret _ _ (nI ((F 2) (n0 * 4 + n1))) () _ _ hP hD hS rfl rfl dX3_argument_10
abbrev rm_X3_readSign : Room := { frames := 0, cells := 0, slots := 0, locals := 0 }
set_option maxHeartbeats 4000000 in
set_option maxRecDepth 100000 in
theorem c_X3_readSign (l : Launch) (E : EE) (sz : Nat) (a : Nat → Nat) (q : Nat → Nat) (F : GG) (n0 : Nat) (hn : n0 < 65536) (h0 : q 0 ≤ 60) (h2 : q 2 ≤ q 0) (ho : ∀ j, F 0 j < 65536)  : MI l yX3_readSign cX3_readSign 2 .boolean rm_X3_readSign [.ref (a 0), .int (nI n0)] E sz [prC E a q F] (fun (r : Int32) (_ : Unit) => r = bI (decide (q 2 < q 0 ∧ F 0 (q 2) = n0))) (fun _ => [prC E a (if q 2 < q 0 ∧ F 0 (q 2) = n0 then upn q 2 (q 2 + 1) else q) F]) 0 0 := by
  refine mi_go (by decide) (Nat.le_of_ble_eq_true rfl) ?_
  intro p e s m below meth c A Q ls hx hb hml hown hts hK hZ hA hsz hP hD hl hret
  have hS : va_S A s.heap s.heap [] := va_S.rf
  have hl : lv_has ls 2 [(0, .ref (a 0)), (1, .int (nI n0))] := hl
  skip
  have hoq := ho (q 2)
  refine lv_aload_n hx hb dX3_readSign_0 rfl (lv_at hl 0 rfl) ?_
  refine va_get (D := E.1) (ci := 7) (v := .int (nI (q 2))) (C := RX3) (T := TX3) (N := 6) hx hb hts inX3 hown hK hP 0 rfl rfl 5 (by decide) (hts _ q197) (fun _ h9 => h9) rfl dX3_readSign_1 ?_
  refine lv_aload_n hx hb dX3_readSign_4 rfl (lv_at hl 0 rfl) ?_
  refine va_get (D := E.1) (ci := 7) (v := .int (nI (q 0))) (C := RX3) (T := TX3) (N := 6) hx hb hts inX3 hown hK hP 0 rfl rfl 3 (by decide) (hts _ q194) (fun _ h9 => h9) rfl dX3_readSign_5 ?_
  refine nv_icmp_ge (X := ((q 2 : Nat) : Int)) (Y := ((q 0 : Nat) : Int)) hx hb (nI_toInt (by omega)) (nI_toInt (by omega)) (tgt := 24) dX3_readSign_8 (by decide) (fun c_1 => ?_) (fun c_1 => ?_)
  · skip
    refine lv_iconst (v := nI 0) hx hb dX3_readSign_24 (by decide) ?_
    have hmE : prC E a q F = prC E a (if q 2 < q 0 ∧ F 0 (q 2) = n0 then upn q 2 (q 2 + 1) else q) F := by rw [if_neg (fun q3 => by omega)]
    rw [hmE] at hP hD; clear hmE
    exact hret _ _ (nI 0) () _ _ hP hD hS (by decide) (bf_of (fun q3 => by omega)) dX3_readSign_25
  · skip
    refine lv_aload_n hx hb dX3_readSign_11 rfl (lv_at hl 0 rfl) ?_
    refine va_get (D := E.1) (ci := 7) (v := .ref (a 1)) (C := RX3) (T := TX3) (N := 6) hx hb hts inX3 hown hK hP 0 rfl rfl 0 (by decide) (hts _ q191) (fun _ h9 => h9) rfl dX3_readSign_12 ?_
    refine lv_aload_n hx hb dX3_readSign_15 rfl (lv_at hl 0 rfl) ?_
    refine va_get (D := E.1) (ci := 7) (v := .int (nI (q 2))) (C := RX3) (T := TX3) (N := 6) hx hb hts inX3 hown hK hP 0 rfl rfl 5 (by decide) (hts _ q197) (fun _ h9 => h9) rfl dX3_readSign_16 ?_
    refine nv_cald (f := (F 0)) (i := q 2) (n := 60) hx hb hK hP 1 1 rfl rfl (by omega) (by decide) dX3_readSign_19 ?_
    refine lv_iload_n hx hb dX3_readSign_20 rfl (lv_at hl 1 rfl) ?_
    refine nv_icmp_eq (X := (((F 0) (q 2) : Nat) : Int)) (Y := ((n0 : Nat) : Int)) hx hb (nI_toInt (by omega)) (nI_toInt (by omega)) (tgt := 26) dX3_readSign_21 (by decide) (fun c_2 => ?_) (fun c_2 => ?_)
    · skip
      refine lv_aload_n hx hb dX3_readSign_26 rfl (lv_at hl 0 rfl) ?_
      refine lv_dup hx hb dX3_readSign_27 rfl ?_
      refine va_get (D := E.1) (ci := 7) (v := .int (nI (q 2))) (C := RX3) (T := TX3) (N := 6) hx hb hts inX3 hown hK hP 0 rfl rfl 5 (by decide) (hts _ q197) (fun _ h9 => h9) rfl dX3_readSign_28 ?_
      refine lv_iconst (v := nI 1) hx hb dX3_readSign_31 (by decide) ?_
      refine nv_iadd hx hb dX3_readSign_32 ?_
      refine va_put (D := E.1) (ci := 7) (v := .int (nI (q 2 + 1))) (ty := .int) (C := RX3) (T := TX3) (N := 6) hx hb hts inX3 tyX3 tyX3_ok nmX3 hown hK hP hD hS 0 rfl rfl 5 (by decide) (hts _ q197) (fun _ h9 => h9) rfl (by decide +kernel) rfl rfl (Nat.le_of_ble_eq_true rfl) dX3_readSign_33 (fun H locs hP hD hS => ?_)
      have hP : va_P E.1 vwCl ([prC E a (upn q 2 (q 2 + 1)) F] : List va_W).flatten H := hP
      have hD : va_D A ([prC E a (upn q 2 (q 2 + 1)) F] : List va_W).flatten := hD
      refine lv_iconst (v := nI 1) hx hb dX3_readSign_36 (by decide) ?_
      have hmE : prC E a (upn q 2 (q 2 + 1)) F = prC E a (if q 2 < q 0 ∧ F 0 (q 2) = n0 then upn q 2 (q 2 + 1) else q) F := by rw [if_pos ⟨by omega, by omega⟩]
      rw [hmE] at hP hD; clear hmE
      exact hret _ _ (nI 1) () _ _ hP hD hS (by decide) (bt_of ⟨by omega, by omega⟩) dX3_readSign_37
    · skip
      refine lv_iconst (v := nI 0) hx hb dX3_readSign_24 (by decide) ?_
      have hmE : prC E a q F = prC E a (if q 2 < q 0 ∧ F 0 (q 2) = n0 then upn q 2 (q 2 + 1) else q) F := by rw [if_neg (fun q3 => by omega)]
      rw [hmE] at hP hD; clear hmE
      exact hret _ _ (nI 0) () _ _ hP hD hS (by decide) (bf_of (fun q3 => by omega)) dX3_readSign_25
abbrev rm_X3_seesDigit : Room := { frames := 0, cells := 0, slots := 0, locals := 0 }
set_option maxHeartbeats 4000000 in
set_option maxRecDepth 100000 in
theorem c_X3_seesDigit (l : Launch) (E : EE) (sz : Nat) (a : Nat → Nat) (q : Nat → Nat) (F : GG) (h0 : q 0 ≤ 60) (h2 : q 2 ≤ q 0) (ho : ∀ j, F 0 j < 65536)  : MI l yX3_seesDigit cX3_seesDigit 1 .boolean rm_X3_seesDigit [.ref (a 0)] E sz [prC E a q F] (fun (r : Int32) (_ : Unit) => r = bI (decide (q 2 < q 0 ∧ 48 ≤ F 0 (q 2) ∧ F 0 (q 2) ≤ 57))) (fun _ => [prC E a q F]) 0 0 := by
  refine mi_go (by decide) (Nat.le_of_ble_eq_true rfl) ?_
  intro p e s m below meth c A Q ls hx hb hml hown hts hK hZ hA hsz hP hD hl hret
  have hS : va_S A s.heap s.heap [] := va_S.rf
  have hl : lv_has ls 1 [(0, .ref (a 0))] := hl
  skip
  have hoq := ho (q 2)
  refine lv_aload_n hx hb dX3_seesDigit_0 rfl (lv_at hl 0 rfl) ?_
  refine va_get (D := E.1) (ci := 7) (v := .int (nI (q 2))) (C := RX3) (T := TX3) (N := 6) hx hb hts inX3 hown hK hP 0 rfl rfl 5 (by decide) (hts _ q197) (fun _ h9 => h9) rfl dX3_seesDigit_1 ?_
  refine lv_aload_n hx hb dX3_seesDigit_4 rfl (lv_at hl 0 rfl) ?_
  refine va_get (D := E.1) (ci := 7) (v := .int (nI (q 0))) (C := RX3) (T := TX3) (N := 6) hx hb hts inX3 hown hK hP 0 rfl rfl 3 (by decide) (hts _ q194) (fun _ h9 => h9) rfl dX3_seesDigit_5 ?_
  refine nv_icmp_ge (X := ((q 2 : Nat) : Int)) (Y := ((q 0 : Nat) : Int)) hx hb (nI_toInt (by omega)) (nI_toInt (by omega)) (tgt := 43) dX3_seesDigit_8 (by decide) (fun c_1 => ?_) (fun c_1 => ?_)
  · skip
    refine lv_iconst (v := nI 0) hx hb dX3_seesDigit_43 (by decide) ?_
    exact hret _ _ (nI 0) () _ _ hP hD hS (by decide) (bf_of (by omega)) dX3_seesDigit_44
  · skip
    refine lv_aload_n hx hb dX3_seesDigit_11 rfl (lv_at hl 0 rfl) ?_
    refine va_get (D := E.1) (ci := 7) (v := .ref (a 1)) (C := RX3) (T := TX3) (N := 6) hx hb hts inX3 hown hK hP 0 rfl rfl 0 (by decide) (hts _ q191) (fun _ h9 => h9) rfl dX3_seesDigit_12 ?_
    refine lv_aload_n hx hb dX3_seesDigit_15 rfl (lv_at hl 0 rfl) ?_
    refine va_get (D := E.1) (ci := 7) (v := .int (nI (q 2))) (C := RX3) (T := TX3) (N := 6) hx hb hts inX3 hown hK hP 0 rfl rfl 5 (by decide) (hts _ q197) (fun _ h9 => h9) rfl dX3_seesDigit_16 ?_
    refine nv_cald (f := (F 0)) (i := q 2) (n := 60) hx hb hK hP 1 1 rfl rfl (by omega) (by decide) dX3_seesDigit_19 ?_
    refine lv_bipush (v := nI 48) hx hb dX3_seesDigit_20 (by decide) ?_
    refine nv_icmp_lt (X := (((F 0) (q 2) : Nat) : Int)) (Y := ((48 : Nat) : Int)) hx hb (nI_toInt (by omega)) (nI_toInt (by omega)) (tgt := 43) dX3_seesDigit_22 (by decide) (fun c_2 => ?_) (fun c_2 => ?_)
    · skip
      refine lv_iconst (v := nI 0) hx hb dX3_seesDigit_43 (by decide) ?_
      exact hret _ _ (nI 0) () _ _ hP hD hS (by decide) (bf_of (by omega)) dX3_seesDigit_44
    · skip
      refine lv_aload_n hx hb dX3_seesDigit_25 rfl (lv_at hl 0 rfl) ?_
      refine va_get (D := E.1) (ci := 7) (v := .ref (a 1)) (C := RX3) (T := TX3) (N := 6) hx hb hts inX3 hown hK hP 0 rfl rfl 0 (by decide) (hts _ q191) (fun _ h9 => h9) rfl dX3_seesDigit_26 ?_
      refine lv_aload_n hx hb dX3_seesDigit_29 rfl (lv_at hl 0 rfl) ?_
      refine va_get (D := E.1) (ci := 7) (v := .int (nI (q 2))) (C := RX3) (T := TX3) (N := 6) hx hb hts inX3 hown hK hP 0 rfl rfl 5 (by decide) (hts _ q197) (fun _ h9 => h9) rfl dX3_seesDigit_30 ?_
      refine nv_cald (f := (F 0)) (i := q 2) (n := 60) hx hb hK hP 1 1 rfl rfl (by omega) (by decide) dX3_seesDigit_33 ?_
      refine lv_bipush (v := nI 57) hx hb dX3_seesDigit_34 (by decide) ?_
      refine nv_icmp_gt (X := (((F 0) (q 2) : Nat) : Int)) (Y := ((57 : Nat) : Int)) hx hb (nI_toInt (by omega)) (nI_toInt (by omega)) (tgt := 43) dX3_seesDigit_36 (by decide) (fun c_3 => ?_) (fun c_3 => ?_)
      · skip
        refine lv_iconst (v := nI 0) hx hb dX3_seesDigit_43 (by decide) ?_
        exact hret _ _ (nI 0) () _ _ hP hD hS (by decide) (bf_of (by omega)) dX3_seesDigit_44
      · skip
        refine lv_iconst (v := nI 1) hx hb dX3_seesDigit_39 (by decide) ?_
        refine lv_goto (tgt := 44) hx hb dX3_seesDigit_40 (by decide) ?_
        exact hret _ _ (nI 1) () _ _ hP hD hS (by decide) (bt_of (by omega)) dX3_seesDigit_44
