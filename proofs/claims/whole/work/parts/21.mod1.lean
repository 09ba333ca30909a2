abbrev rm_X6_thrown : Room := { frames := 0, cells := 0, slots := 0, locals := 0 }
set_option maxHeartbeats 4000000 in
set_option maxRecDepth 100000 in
theorem c_X6_thrown (l : Launch) (E : EE) (sz : Nat) (b : Nat → Nat) (z : Nat → Nat) (g : GG) (gs : Nat → GG) (ar : GG)  : MI l yX6_thrown cX6_thrown 1 .int rm_X6_thrown [.ref (b 0)] E sz [moC E b z g gs ar] (fun (r : Int32) (_ : Unit) => r = nI (z 0)) (fun _ => [moC E b z g gs ar]) 0 0 := by
  refine mi_go (by decide) (Nat.le_of_ble_eq_true rfl) ?_
  intro p e s m below meth c A Q ls hx hb hml hown hts hK hZ hA hsz hP hD hl hret
  have hS : va_S A s.heap s.heap [] := va_S.rf
  have hl : lv_has ls 1 [(0, .ref (b 0))] := hl
  skip
  refine lv_aload_n hx hb dX6_thrown_0 rfl (lv_at hl 0 rfl) ?_
  refine va_get (D := E.1) (ci := 10) (v := .int (nI (z 0))) (C := RX6) (T := TX6) (N := 20) hx hb hts inX6 hown hK hP 0 rfl rfl 0 (by decide) (hts _ q1434) (fun _ h9 => h9) rfl dX6_thrown_1 ?_
  exact hret _ _ (nI (z 0)) () _ _ hP hD hS rfl rfl dX6_thrown_4
abbrev rm_X6_fails : Room := { frames := 0, cells := 0, slots := 0, locals := 0 }
set_option maxHeartbeats 4000000 in
set_option maxRecDepth 100000 in
theorem c_X6_fails (l : Launch) (E : EE) (sz : Nat) (b : Nat → Nat) (z : Nat → Nat) (g : GG) (gs : Nat → GG) (ar : GG) (n0 : Nat) : MI l yX6_fails cX6_fails 2 .int rm_X6_fails [.ref (b 0), .int (nI n0)] E sz [moC E b z g gs ar] (fun (r : Int32) (_ : Unit) => r = nI 0) (fun _ => [moC E b (upn z 0 n0) g gs ar]) 0 0 := by
  refine mi_go (by decide) (Nat.le_of_ble_eq_true rfl) ?_
  intro p e s m below meth c A Q ls hx hb hml hown hts hK hZ hA hsz hP hD hl hret
  have hS : va_S A s.heap s.heap [] := va_S.rf
  have hl : lv_has ls 2 [(0, .ref (b 0)), (1, .int (nI n0))] := hl
  skip
  refine lv_aload_n hx hb dX6_fails_0 rfl (lv_at hl 0 rfl) ?_
  refine lv_iload_n hx hb dX6_fails_1 rfl (lv_at hl 1 rfl) ?_
  refine va_put (D := E.1) (ci := 10) (v := .int (nI n0)) (ty := .int) (C := RX6) (T := TX6) (N := 20) hx hb hts inX6 tyX6 tyX6_ok nmX6 hown hK hP hD hS 0 rfl rfl 0 (by decide) (hts _ q1434) (fun _ h9 => h9) rfl (by decide +kernel) rfl rfl (Nat.le_of_ble_eq_true rfl) dX6_fails_2 (fun H locs hP hD hS => ?_)
  have hP : va_P E.1 vwCl ([moC E b (upn z 0 n0) g gs ar] : List va_W).flatten H := hP
  have hD : va_D A ([moC E b (upn z 0 n0) g gs ar] : List va_W).flatten := hD
  refine lv_iconst (v := nI 0) hx hb dX6_fails_5 (by decide) ?_
  exact hret _ _ (nI 0) () _ _ hP hD hS rfl rfl dX6_fails_6
abbrev rm_X6_done : Room := { frames := 0, cells := 0, slots := 0, locals := 0 }
set_option maxHeartbeats 4000000 in
set_option maxRecDepth 100000 in
theorem c_X6_done (l : Launch) (E : EE) (sz : Nat) (b : Nat → Nat) (z : Nat → Nat) (g : GG) (gs : Nat → GG) (ar : GG) (n0 : Nat) : MI l yX6_done cX6_done 2 .int rm_X6_done [.ref (b 0), .int (nI n0)] E sz [moC E b z g gs ar] (fun (r : Int32) (_ : Unit) => r = nI 0) (fun _ => [moC E b (upn z 7 n0) g gs ar]) 0 0 := by
  refine mi_go (by decide) (Nat.le_of_ble_eq_true rfl) ?_
  intro p e s m below meth c A Q ls hx hb hml hown hts hK hZ hA hsz hP hD hl hret
  have hS : va_S A s.heap s.heap [] := va_S.rf
  have hl : lv_has ls 2 [(0, .ref (b 0)), (1, .int (nI n0))] := hl
  skip
  refine lv_aload_n hx hb dX6_done_0 rfl (lv_at hl 0 rfl) ?_
  refine lv_iload_n hx hb dX6_done_1 rfl (lv_at hl 1 rfl) ?_
  refine va_put (D := E.1) (ci := 10) (v := .int (nI n0)) (ty := .int) (C := RX6) (T := TX6) (N := 20) hx hb hts inX6 tyX6 tyX6_ok nmX6 hown hK hP hD hS 0 rfl rfl 15 (by decide) (hts _ q1449) (fun _ h9 => h9) rfl (by decide +kernel) rfl rfl (Nat.le_of_ble_eq_true rfl) dX6_done_2 (fun H locs hP hD hS => ?_)
  have hP : va_P E.1 vwCl ([moC E b (upn z 7 n0) g gs ar] : List va_W).flatten H := hP
  have hD : va_D A ([moC E b (upn z 7 n0) g gs ar] : List va_W).flatten := hD
  refine lv_iconst (v := nI 0) hx hb dX6_done_5 (by decide) ?_
  exact hret _ _ (nI 0) () _ _ hP hD hS rfl rfl dX6_done_6
abbrev rm_X6_in : Room := { frames := 0, cells := 0, slots := 0, locals := 0 }
set_option maxHeartbeats 4000000 in
set_option maxRecDepth 100000 in
theorem c_X6_in (l : Launch) (E : EE) (sz : Nat) (x0 x1 x2 : Int32) (X0 X1 X2 : Int) (h0 : x0.toInt = X0) (h1 : x1.toInt = X1) (h2 : x2.toInt = X2) : MI l yX6_in cX6_in 3 .boolean rm_X6_in [.int x0, .int x1, .int x2] E sz [] (fun (r : Int32) (_ : Unit) => r = bI (decide (X1 ≤ X0 ∧ X0 ≤ X2))) (fun _ => []) 0 0 := by
  refine mi_go (by decide) (Nat.le_of_ble_eq_true rfl) ?_
  intro p e s m below meth c A Q ls hx hb hml hown hts hK hZ hA hsz hP hD hl hret
  have hS : va_S A s.heap s.heap [] := va_S.rf
  have hl : lv_has ls 3 [(0, .int x0), (1, .int x1), (2, .int x2)] := hl
  skip
  refine lv_iload_n hx hb dX6_in_0 rfl (lv_at hl 0 rfl) ?_
  refine lv_iload_n hx hb dX6_in_1 rfl (lv_at hl 1 rfl) ?_
  refine nv_icmp_lt (X := X0) (Y := X1) hx hb h0 h1 (tgt := 14) dX6_in_2 (by decide) (fun c_1 => ?_) (fun c_1 => ?_)
  · skip
    refine lv_iconst (v := nI 0) hx hb dX6_in_14 (by decide) ?_
    exact hret _ _ (nI 0) () _ _ hP hD hS (by decide) (bf_of (by omega)) dX6_in_15
  · skip
    refine lv_iload_n hx hb dX6_in_5 rfl (lv_at hl 0 rfl) ?_
    refine lv_iload_n hx hb dX6_in_6 rfl (lv_at hl 2 rfl) ?_
    refine nv_icmp_gt (X := X0) (Y := X2) hx hb h0 h2 (tgt := 14) dX6_in_7 (by decide) (fun c_2 => ?_) (fun c_2 => ?_)
    · skip
      refine lv_iconst (v := nI 0) hx hb dX6_in_14 (by decide) ?_
      exact hret _ _ (nI 0) () _ _ hP hD hS (by decide) (bf_of (by omega)) dX6_in_15
    · skip
      refine lv_iconst (v := nI 1) hx hb dX6_in_10 (by decide) ?_
      refine lv_goto (tgt := 15) hx hb dX6_in_11 (by decide) ?_
      exact hret _ _ (nI 1) () _ _ hP hD hS (by decide) (bt_of (by omega)) dX6_in_15
abbrev rm_X6_of : Room := { frames := 0, cells := 0, slots := 0, locals := 0 }
set_option maxHeartbeats 4000000 in
set_option maxRecDepth 100000 in
theorem c_X6_of (l : Launch) (E : EE) (sz : Nat) (b : Nat → Nat) (z : Nat → Nat) (g : GG) (gs : Nat → GG) (ar : GG) (m0 w0 : Nat) (hm : m0 < 8) (hw : w0 < 7) : MI l yX6_of cX6_of 3 .int rm_X6_of [.ref (b 0), .int (nI m0), .int (nI w0)] E sz [moC E b z g gs ar] (fun (r : Int32) (_ : Unit) => r = nI (g w0 m0)) (fun _ => [moC E b z g gs ar]) 0 0 := by
  refine mi_go (by decide) (Nat.le_of_ble_eq_true rfl) ?_
  intro p e s m below meth c A Q ls hx hb hml hown hts hK hZ hA hsz hP hD hl hret
  have hS : va_S A s.heap s.heap [] := va_S.rf
  have hl : lv_has ls 3 [(0, .ref (b 0)), (1, .int (nI m0)), (2, .int (nI w0))] := hl
  skip
  refine lv_aload_n hx hb dX6_of_0 rfl (lv_at hl 0 rfl) ?_
  refine va_get (D := E.1) (ci := 10) (v := .ref (b 1)) (C := RX6) (T := TX6) (N := 20) hx hb hts inX6 hown hK hP 0 rfl rfl 1 (by decide) (hts _ q1435) (fun _ h9 => h9) rfl dX6_of_1 ?_
  refine lv_bipush (v := nI 8) hx hb dX6_of_4 (by decide) ?_
  refine lv_bipush (v := nI 7) hx hb dX6_of_6 (by decide) ?_
  refine lv_iload_n hx hb dX6_of_8 rfl (lv_at hl 1 rfl) ?_
  refine nv_imul hx hb dX6_of_9 ?_
  refine nv_iadd hx hb dX6_of_10 ?_
  refine lv_iload_n hx hb dX6_of_11 rfl (lv_at hl 2 rfl) ?_
  refine nv_iadd hx hb dX6_of_12 ?_
  refine nv_iald (f := (flat g)) (i := 8 + (7 * m0) + w0) (n := 74) hx hb hK hP 1 0 rfl rfl (by omega) (by decide) dX6_of_13 ?_
  refine tp_i (congrArg nI (flat_mem (by omega) (by omega))) ?_
  exact hret _ _ (nI (g w0 m0)) () _ _ hP hD hS rfl rfl dX6_of_14
abbrev rm_X6_sets : Room := { frames := 0, cells := 0, slots := 0, locals := 0 }
set_option maxHeartbeats 4000000 in
set_option maxRecDepth 100000 in
theorem c_X6_sets (l : Launch) (E : EE) (sz : Nat) (b : Nat → Nat) (z : Nat → Nat) (g : GG) (gs : Nat → GG) (ar : GG) (m0 w0 n0 : Nat) (hm : m0 < 8) (hw : w0 < 7) : MV l yX6_sets cX6_sets 4 rm_X6_sets [.ref (b 0), .int (nI m0), .int (nI w0), .int (nI n0)] E sz [moC E b z g gs ar] (fun (_ : Unit) => True) (fun _ => [moC E b z (up2 g w0 m0 n0) gs ar]) 0 0 := by
  refine mv_go (by decide) (Nat.le_of_ble_eq_true rfl) ?_
  intro p e s m below meth c A Q ls hx hb hml hown hts hK hZ hA hsz hP hD hl hret hnm
  have hS : va_S A s.heap s.heap [] := va_S.rf
  have hl : lv_has ls 4 [(0, .ref (b 0)), (1, .int (nI m0)), (2, .int (nI w0)), (3, .int (nI n0))] := hl
  skip
  refine lv_aload_n hx hb dX6_sets_0 rfl (lv_at hl 0 rfl) ?_
  refine va_get (D := E.1) (ci := 10) (v := .ref (b 1)) (C := RX6) (T := TX6) (N := 20) hx hb hts inX6 hown hK hP 0 rfl rfl 1 (by decide) (hts _ q1435) (fun _ h9 => h9) rfl dX6_sets_1 ?_
  refine lv_bipush (v := nI 8) hx hb dX6_sets_4 (by decide) ?_
  refine lv_bipush (v := nI 7) hx hb dX6_sets_6 (by decide) ?_
  refine lv_iload_n hx hb dX6_sets_8 rfl (lv_at hl 1 rfl) ?_
  refine nv_imul hx hb dX6_sets_9 ?_
  refine nv_iadd hx hb dX6_sets_10 ?_
  refine lv_iload_n hx hb dX6_sets_11 rfl (lv_at hl 2 rfl) ?_
  refine nv_iadd hx hb dX6_sets_12 ?_
  refine lv_iload_n hx hb dX6_sets_13 rfl (lv_at hl 3 rfl) ?_
  refine nv_iast (f := (flat g)) (i := 8 + (7 * m0) + w0) (v := n0) (n := 74) hx hb hK hP hD hS 1 0 rfl rfl (by omega) (by decide) dX6_sets_14 (fun H locs hP hD hS => ?_)
  rw [flat_set (by omega) (by omega)] at hP hD
  have hP : va_P E.1 vwCl ([moC E b z (up2 g w0 m0 n0) gs ar] : List va_W).flatten H := hP
  have hD : va_D A ([moC E b z (up2 g w0 m0 n0) gs ar] : List va_W).flatten := hD
  exact hret _ _ () _ _ hP hD hS trivial dX6_sets_15
abbrev rm_X6_apart : Room := { frames := 0, cells := 0, slots := 0, locals := 0 }
set_option maxHeartbeats 4000000 in
set_option maxRecDepth 100000 in
theorem c_X6_apart (l : Launch) (E : EE) (sz : Nat) (n0 n1 : Nat) (h0 : n0 ≤ 11) (h1 : n1 ≤ 11) : MI l yX6_apart cX6_apart 3 .int rm_X6_apart [.int (nI n0), .int (nI n1)] E sz [] (fun (r : Int32) (_ : Unit) => r = nI (ap n0 n1)) (fun _ => []) 0 0 := by
  refine mi_go (by decide) (Nat.le_of_ble_eq_true rfl) ?_
  intro p e s m below meth c A Q ls hx hb hml hown hts hK hZ hA hsz hP hD hl hret
  have hS : va_S A s.heap s.heap [] := va_S.rf
  have hl : lv_has ls 3 [(0, .int (nI n0)), (1, .int (nI n1))] := hl
  skip
  refine lv_iload_n hx hb dX6_apart_0 rfl (lv_at hl 0 rfl) ?_
  refine lv_iload_n hx hb dX6_apart_1 rfl (lv_at hl 1 rfl) ?_
  refine lv_isub hx hb dX6_apart_2 ?_
  refine lv_bipush (v := nI 12) hx hb dX6_apart_3 (by decide) ?_
  refine lv_iadd hx hb dX6_apart_5 ?_
  refine tp_i (show nI n0 - nI n1 + nI 12 = nI (n0 + 12 - n1) from eq_nN (iadd_t (isub_t (nI_toInt (by omega)) (nI_toInt (by omega)) (by omega) (by omega)) (nI_toInt (by omega)) (by omega) (by omega)) (by omega) (by omega)) ?_
  refine lv_bipush (v := nI 12) hx hb dX6_apart_6 (by decide) ?_
  refine nv_irem hx hb (by omega) (by omega) (by omega) dX6_apart_8 ?_
  refine lv_istore_n (lv' := [(2, .int (nI ((n0 + 12 - n1) % 12))), (0, .int (nI n0)), (1, .int (nI n1))]) hx hb dX6_apart_9 rfl hl (by decide) rfl (fun ls hl => ?_)
  refine lv_iload_n hx hb dX6_apart_10 rfl (lv_at hl 0 rfl) ?_
  refine lv_bipush (v := nI 6) hx hb dX6_apart_11 (by decide) ?_
  refine nv_icmp_le (X := (((n0 + 12 - n1) % 12 : Nat) : Int)) (Y := ((6 : Nat) : Int)) hx hb (nI_toInt (by omega)) (nI_toInt (by omega)) (tgt := 23) dX6_apart_13 (by decide) (fun c_1 => ?_) (fun c_1 => ?_)
  · skip
    refine lv_iload_n hx hb dX6_apart_23 rfl (lv_at hl 0 rfl) ?_
    exact hret _ _ (nI ((n0 + 12 - n1) % 12)) () _ _ hP hD hS rfl (by rw [← ap_mod h0 h1]; (first | rw [if_pos (by omega)] | rw [if_neg (by omega)])) dX6_apart_24
  · skip
    refine lv_bipush (v := nI 12) hx hb dX6_apart_16 (by decide) ?_
    refine lv_iload_n hx hb dX6_apart_18 rfl (lv_at hl 0 rfl) ?_
    refine nv_isub hx hb (by omega) dX6_apart_19 ?_
    refine lv_goto (tgt := 24) hx hb dX6_apart_20 (by decide) ?_
    exact hret _ _ (nI (12 - ((n0 + 12 - n1) % 12))) () _ _ hP hD hS rfl (by rw [← ap_mod h0 h1]; (first | rw [if_pos (by omega)] | rw [if_neg (by omega)])) dX6_apart_24
abbrev rm_X6_isClash : Room := { frames := 1, cells := 0, slots := 0, locals := 22 }
set_option maxHeartbeats 4000000 in
set_option maxRecDepth 100000 in
theorem c_X6_isClash (l : Launch) (E : EE) (sz : Nat) (n0 n1 : Nat) (h0 : n0 ≤ 11) (h1 : n1 ≤ 11) : MI l yX6_isClash cX6_isClash 2 .boolean rm_X6_isClash [.int (nI n0), .int (nI n1)] E sz [] (fun (r : Int32) (_ : Unit) => r = bI (decide (ap n0 n1 = 1 ∨ ap n0 n1 = 6))) (fun _ => []) 0 0 := by
  refine mi_go (by decide) (Nat.le_of_ble_eq_true rfl) ?_
  intro p e s m below meth c A Q ls hx hb hml hown hts hK hZ hA hsz hP hD hl hret
  have hS : va_S A s.heap s.heap [] := va_S.rf
  have hl : lv_has ls 2 [(0, .int (nI n0)), (1, .int (nI n1))] := hl
  skip
  have hap := ap_le h0 h1
  refine lv_iload_n hx hb dX6_isClash_0 rfl (lv_at hl 0 rfl) ?_
  refine lv_iload_n hx hb dX6_isClash_1 rfl (lv_at hl 1 rfl) ?_
  refine run_i (S := Unit) (run_S (As := [.int (nI n0), .int (nI n1)]) (rest := []) (bs := []) (cb := []) hx hb hml hown hts hK hZ hA (c_X6_apart l E _ n0 n1 (by omega) (by omega)) l_X6_61 rfl ⟨⟨rfl, rfl⟩, Nat.le_of_ble_eq_true rfl, Nat.le_of_ble_eq_true rfl⟩ [] rfl (by decide) hP hD hS hl.1 rfl (Nat.le_of_ble_eq_true rfl) dX6_isClash_2 ⟨Nat.zero_le _, Nat.zero_le _⟩) hA hP hD hS (isC := []) rfl [] [] (br := []) (bs2 := fun _ => []) rfl (by decide) (fun _ => rfl) (by decide) (fun r u H locs hw hP hD hS => ?_)
  subst hw
  refine lv_iconst (v := nI 1) hx hb dX6_isClash_5 (by decide) ?_
  refine nv_icmp_eq (X := ((ap n0 n1 : Nat) : Int)) (Y := ((1 : Nat) : Int)) hx hb (nI_toInt (by omega)) (nI_toInt (by omega)) (tgt := 19) dX6_isClash_6 (by decide) (fun c_1 => ?_) (fun c_1 => ?_)
  · skip
    refine lv_iconst (v := nI 1) hx hb dX6_isClash_19 (by decide) ?_
    refine lv_goto (tgt := 24) hx hb dX6_isClash_20 (by decide) ?_
    exact hret _ _ (nI 1) () _ _ hP hD hS (by decide) (bt_of (by omega)) dX6_isClash_24
  · skip
    refine lv_iload_n hx hb dX6_isClash_9 rfl (lv_at hl 0 rfl) ?_
    refine lv_iload_n hx hb dX6_isClash_10 rfl (lv_at hl 1 rfl) ?_
    refine run_i (S := Unit) (run_S (As := [.int (nI n0), .int (nI n1)]) (rest := []) (bs := []) (cb := []) hx hb hml hown hts hK hZ hA (c_X6_apart l E _ n0 n1 (by omega) (by omega)) l_X6_61 rfl ⟨⟨rfl, rfl⟩, Nat.le_of_ble_eq_true rfl, Nat.le_of_ble_eq_true rfl⟩ [] rfl (by decide) hP hD hS hl.1 rfl (Nat.le_of_ble_eq_true rfl) dX6_isClash_11 ⟨Nat.zero_le _, Nat.zero_le _⟩) hA hP hD hS (isC := []) rfl [] [] (br := []) (bs2 := fun _ => []) rfl (by decide) (fun _ => rfl) (by decide) (fun r u H locs hw hP hD hS => ?_)
    subst hw
    refine lv_bipush (v := nI 6) hx hb dX6_isClash_14 (by decide) ?_
    refine nv_icmp_ne (X := ((ap n0 n1 : Nat) : Int)) (Y := ((6 : Nat) : Int)) hx hb (nI_toInt (by omega)) (nI_toInt (by omega)) (tgt := 23) dX6_isClash_16 (by decide) (fun c_2 => ?_) (fun c_2 => ?_)
    · skip
      refine lv_iconst (v := nI 0) hx hb dX6_isClash_23 (by decide) ?_
      exact hret _ _ (nI 0) () _ _ hP hD hS (by decide) (bf_of (by omega)) dX6_isClash_24
    · skip
      refine lv_iconst (v := nI 1) hx hb dX6_isClash_19 (by decide) ?_
      refine lv_goto (tgt := 24) hx hb dX6_isClash_20 (by decide) ?_
      exact hret _ _ (nI 1) () _ _ hP hD hS (by decide) (bt_of (by omega)) dX6_isClash_24
abbrev rm_X6_isMember : Room := { frames := 1, cells := 0, slots := 0, locals := 22 }
set_option maxHeartbeats 4000000 in
set_option maxRecDepth 100000 in
theorem c_X6_isMember (l : Launch) (E : EE) (sz : Nat) (b : Nat → Nat) (z : Nat → Nat) (g : GG) (gs : Nat → GG) (ar : GG) (p0 : Int32) (hm : g 8 0 ≤ 8) : MI l yX6_isMember cX6_isMember 2 .boolean rm_X6_isMember [.ref (b 0), .int p0] E sz [moC E b z g gs ar] (fun (r : Int32) (_ : Unit) => r = bI (hasM g p0)) (fun _ => [moC E b z g gs ar]) 0 0 := by
  refine mi_go (by decide) (Nat.le_of_ble_eq_true rfl) ?_
  intro p e s m below meth c A Q ls hx hb hml hown hts hK hZ hA hsz hP hD hl hret
  have hS : va_S A s.heap s.heap [] := va_S.rf
  have hl : lv_has ls 2 [(0, .ref (b 0)), (1, .int p0)] := hl
  skip
  refine lv_iload_n hx hb dX6_isMember_0 rfl (lv_at hl 1 rfl) ?_
  refine lv_iconst (v := nI 0) hx hb dX6_isMember_1 (by decide) ?_
  refine lv_aload_n hx hb dX6_isMember_2 rfl (lv_at hl 0 rfl) ?_
  refine va_get (D := E.1) (ci := 10) (v := .ref (b 1)) (C := RX6) (T := TX6) (N := 20) hx hb hts inX6 hown hK hP 0 rfl rfl 1 (by decide) (hts _ q1435) (fun _ h9 => h9) rfl dX6_isMember_3 ?_
  refine lv_iconst (v := nI 0) hx hb dX6_isMember_6 (by decide) ?_
  refine nv_iald (f := (flat g)) (i := 0) (n := 74) hx hb hK hP 1 0 rfl rfl (by omega) (by decide) dX6_isMember_7 ?_
  refine tp_i (show nI ((flat g) 0) = nI (g 8 0) from rfl) ?_
  refine lv_iconst (v := nI 1) hx hb dX6_isMember_8 (by decide) ?_
  refine lv_isub hx hb dX6_isMember_9 ?_
  refine run_i (S := Unit) (run_S (As := [.int p0, .int (nI 0), .int (nI (g 8 0) - nI 1)]) (rest := []) (bs := [moC E b z g gs ar]) (cb := []) hx hb hml hown hts hK hZ hA (c_X6_in l E _ p0 (nI 0) (nI (g 8 0) - nI 1) p0.toInt ((0 : Nat) : Int) ((g 8 0 : Int) - 1) rfl (nI_toInt (by omega)) (isub_t (nI_toInt (by omega)) (nI_toInt (by omega)) (by omega) (by omega))) l_X6_57 rfl ⟨⟨rfl, rfl⟩, Nat.le_of_ble_eq_true rfl, Nat.le_of_ble_eq_true rfl⟩ [] rfl (by decide) hP hD hS hl.1 rfl (Nat.le_of_ble_eq_true rfl) dX6_isMember_10 ⟨Nat.zero_le _, Nat.zero_le _⟩) hA hP hD hS (isC := []) rfl [0] [0] (br := [moC E b z g gs ar]) (bs2 := fun _ => [moC E b z g gs ar]) rfl (by decide) (fun _ => rfl) (by decide) (fun r u H locs hw hP hD hS => ?_)
  subst hw
  exact hret _ _ (bI (decide (((0 : Nat) : Int) ≤ p0.toInt ∧ p0.toInt ≤ ((g 8 0 : Int) - 1)))) () _ _ hP hD hS (bI_nar _) (congrArg bI (decide_eq_decide.mpr (by omega))) dX6_isMember_13
abbrev rm_X6_isDue : Room := { frames := 1, cells := 0, slots := 0, locals := 22 }
set_option maxHeartbeats 4000000 in
set_option maxRecDepth 100000 in
theorem c_X6_isDue (l : Launch) (E : EE) (sz : Nat) (b : Nat → Nat) (z : Nat → Nat) (g : GG) (gs : Nat → GG) (ar : GG) (m0 b0 : Nat) (hm : m0 < 8) (h0 : 0 < g 1 m0) (h1 : g 1 m0 ≤ 12) (h2 : g 2 m0 ≤ 12) (h3 : b0 < 1000000) : MI l yX6_isDue cX6_isDue 3 .boolean rm_X6_isDue [.ref (b 0), .int (nI m0), .int (nI b0)] E sz [moC E b z g gs ar] (fun (r : Int32) (_ : Unit) => r = bI (dueB g m0 b0)) (fun _ => [moC E b z g gs ar]) 0 0 := by
  refine mi_go (by decide) (Nat.le_of_ble_eq_true rfl) ?_
  intro p e s m below meth c A Q ls hx hb hml hown hts hK hZ hA hsz hP hD hl hret
  have hS : va_S A s.heap s.heap [] := va_S.rf
  have hl : lv_has ls 3 [(0, .ref (b 0)), (1, .int (nI m0)), (2, .int (nI b0))] := hl
  skip
  refine lv_iload_n hx hb dX6_isDue_0 rfl (lv_at hl 2 rfl) ?_
  refine lv_aload_n hx hb dX6_isDue_1 rfl (lv_at hl 0 rfl) ?_
  refine lv_iload_n hx hb dX6_isDue_2 rfl (lv_at hl 1 rfl) ?_
  refine lv_iconst (v := nI 2) hx hb dX6_isDue_3 (by decide) ?_
  refine run_i (S := Unit) (run_V (As := [.int (nI m0), .int (nI 2)]) (rest := [.int (nI b0)]) (bs := [moC E b z g gs ar]) (cb := [moC E b z g gs ar]) hx hb hml hown hts hK hZ hA (c_X6_of l E _ b z g gs ar  m0 2 (by omega) (by decide)) l_X6_65 rfl ⟨⟨rfl, rfl⟩, Nat.le_of_ble_eq_true rfl, Nat.le_of_ble_eq_true rfl⟩ 10 rfl [0] rfl (by decide) rfl hP hD hS hl.1 rfl (Nat.le_of_ble_eq_true rfl) dX6_isDue_4 ⟨Nat.zero_le _, Nat.zero_le _⟩) hA hP hD hS (isC := [0]) rfl [] [0] (br := []) (bs2 := fun _ => [moC E b z g gs ar]) rfl (by decide) (fun _ => rfl) (by decide) (fun r u H locs hw hP hD hS => ?_)
  subst hw
  refine lv_isub hx hb dX6_isDue_7 ?_
  refine lv_aload_n hx hb dX6_isDue_8 rfl (lv_at hl 0 rfl) ?_
  refine lv_iload_n hx hb dX6_isDue_9 rfl (lv_at hl 1 rfl) ?_
  refine lv_iconst (v := nI 1) hx hb dX6_isDue_10 (by decide) ?_
  refine run_i (S := Unit) (run_V (As := [.int (nI m0), .int (nI 1)]) (rest := [.int (nI b0 - nI (g 2 m0))]) (bs := [moC E b z g gs ar]) (cb := [moC E b z g gs ar]) hx hb hml hown hts hK hZ hA (c_X6_of l E _ b z g gs ar  m0 1 (by omega) (by decide)) l_X6_65 rfl ⟨⟨rfl, rfl⟩, Nat.le_of_ble_eq_true rfl, Nat.le_of_ble_eq_true rfl⟩ 10 rfl [0] rfl (by decide) rfl hP hD hS hl.1 rfl (Nat.le_of_ble_eq_true rfl) dX6_isDue_11 ⟨Nat.zero_le _, Nat.zero_le _⟩) hA hP hD hS (isC := [0]) rfl [] [0] (br := []) (bs2 := fun _ => [moC E b z g gs ar]) rfl (by decide) (fun _ => rfl) (by decide) (fun r u H locs hw hP hD hS => ?_)
  subst hw
  refine lv_irem hx hb dX6_isDue_14 (nI_ne0 (by omega) (by omega)) ?_
  refine nv_if_ne (X := ((b0 : Int) - (g 2 m0 : Int)).tmod (g 1 m0 : Int)) hx hb (irem_t (isub_t (nI_toInt (by omega)) (nI_toInt (by omega)) (by omega) (by omega)) (nI_toInt (by omega)) (by omega) (by omega) (by omega) (by omega)) (tgt := 22) dX6_isDue_15 (by decide) (fun c_1 => ?_) (fun c_1 => ?_)
  · skip
    have c_1 : ¬ (g 1 m0 : Int) ∣ ((b0 : Int) - (g 2 m0 : Int)) := fun q => c_1 (Int.dvd_iff_tmod_eq_zero.mp q)
    refine lv_iconst (v := nI 0) hx hb dX6_isDue_22 (by decide) ?_
    exact hret _ _ (nI 0) () _ _ hP hD hS (by decide) (bf_of (fun q => c_1 q.2)) dX6_isDue_23
  · skip
    have c_1 := Int.dvd_iff_tmod_eq_zero.mpr c_1
    refine lv_iconst (v := nI 1) hx hb dX6_isDue_18 (by decide) ?_
    refine lv_goto (tgt := 23) hx hb dX6_isDue_19 (by decide) ?_
    exact hret _ _ (nI 1) () _ _ hP hD hS (by decide) (bt_of ⟨by omega, c_1⟩) dX6_isDue_23
abbrev rm_X6_allShares : Room := { frames := 1, cells := 0, slots := 0, locals := 22 }
set_option maxHeartbeats 4000000 in
set_option maxRecDepth 100000 in
theorem c_X6_allShares (l : Launch) (E : EE) (sz : Nat) (b : Nat → Nat) (z : Nat → Nat) (g : GG) (gs : Nat → GG) (ar : GG) (hm : g 8 0 ≤ 8) : MI l yX6_allShares cX6_allShares 3 .int rm_X6_allShares [.ref (b 0)] E sz [moC E b z g gs ar] (fun (r : Int32) (_ : Unit) => r = nI (allSh g)) (fun _ => [moC E b z g gs ar]) 0 0 := by
  refine mi_go (by decide) (Nat.le_of_ble_eq_true rfl) ?_
  intro p e s m below meth c A Q ls hx hb hml hown hts hK hZ hA hsz hP hD hl hret
  have hS : va_S A s.heap s.heap [] := va_S.rf
  have hl : lv_has ls 3 [(0, .ref (b 0))] := hl
  skip
  refine lv_iconst (v := nI 0) hx hb dX6_allShares_0 (by decide) ?_
  refine lv_istore_n (lv' := [(1, .int (nI 0)), (0, .ref (b 0))]) hx hb dX6_allShares_1 rfl hl (by decide) rfl (fun ls hl => ?_)
  refine lv_iconst (v := nI 0) hx hb dX6_allShares_2 (by decide) ?_
  refine lv_istore_n (lv' := [(2, .int (nI 0)), (1, .int (nI 0)), (0, .ref (b 0))]) hx hb dX6_allShares_3 rfl hl (by decide) rfl (fun ls hl => ?_)
  have loop4 : ∀ (n : Nat) (i : Nat), (i ≤ g 8 0) → g 8 0 - i < n → ∀ (H : Heap) (locs : List Loc) (ls : Array Slot), va_P E.1 vwCl ([moC E b z g gs ar] : List va_W).flatten H → va_D A ([moC E b z g gs ar] : List va_W).flatten → va_S A s.heap H locs → lv_has ls 3 [(0, .ref (b 0)), (1, .int (nI (sm (g 0) i))), (2, .int (nI i))] → W p l e rm_X6_allShares s m ([.ref (b 0)] : List Value).toArray below meth c H locs 0 0 Q (F0 m 4 ls []) := by
    intro n4
    induction n4 with
    | zero => intro i hi hn4; exact absurd hn4 (Nat.not_lt_zero _)
    | succ n4 ih4 =>
      intro i hi hn4 H locs ls hP hD hS hl
      refine lv_iload_n hx hb dX6_allShares_4 rfl (lv_at hl 2 rfl) ?_
      refine lv_aload_n hx hb dX6_allShares_5 rfl (lv_at hl 0 rfl) ?_
      refine va_get (D := E.1) (ci := 10) (v := .ref (b 1)) (C := RX6) (T := TX6) (N := 20) hx hb hts inX6 hown hK hP 0 rfl rfl 1 (by decide) (hts _ q1435) (fun _ h9 => h9) rfl dX6_allShares_6 ?_
      refine lv_iconst (v := nI 0) hx hb dX6_allShares_9 (by decide) ?_
      refine nv_iald (f := (flat g)) (i := 0) (n := 74) hx hb hK hP 1 0 rfl rfl (by omega) (by decide) dX6_allShares_10 ?_
      refine tp_i (show nI ((flat g) 0) = nI (g 8 0) from rfl) ?_
      refine nv_icmp_ge (X := ((i : Nat) : Int)) (Y := ((g 8 0 : Nat) : Int)) hx hb (nI_toInt (by omega)) (nI_toInt (by omega)) (tgt := 29) dX6_allShares_11 (by decide) (fun c_1 => ?_) (fun c_1 => ?_)
      · skip
        refine lv_iload_n hx hb dX6_allShares_29 rfl (lv_at hl 1 rfl) ?_
        exact hret _ _ (nI (sm (g 0) i)) () _ _ hP hD hS rfl (by rw [show i = g 8 0 by omega]; rfl) dX6_allShares_30
      · skip
        refine lv_iload_n hx hb dX6_allShares_14 rfl (lv_at hl 1 rfl) ?_
        refine lv_aload_n hx hb dX6_allShares_15 rfl (lv_at hl 0 rfl) ?_
        refine lv_iload_n hx hb dX6_allShares_16 rfl (lv_at hl 2 rfl) ?_
        refine lv_iconst (v := nI 0) hx hb dX6_allShares_17 (by decide) ?_
        refine run_i (S := Unit) (run_V (As := [.int (nI i), .int (nI 0)]) (rest := [.int (nI (sm (g 0) i))]) (bs := [moC E b z g gs ar]) (cb := [moC E b z g gs ar]) hx hb hml hown hts hK hZ hA (c_X6_of l E _ b z g gs ar  i 0 (by omega) (by decide)) l_X6_65 rfl ⟨⟨rfl, rfl⟩, Nat.le_of_ble_eq_true rfl, Nat.le_of_ble_eq_true rfl⟩ 10 rfl [0] rfl (by decide) rfl hP hD hS hl.1 rfl (Nat.le_of_ble_eq_true rfl) dX6_allShares_18 ⟨Nat.zero_le _, Nat.zero_le _⟩) hA hP hD hS (isC := [0]) rfl [] [0] (br := []) (bs2 := fun _ => [moC E b z g gs ar]) rfl (by decide) (fun _ => rfl) (by decide) (fun r u H locs hw hP hD hS => ?_)
        subst hw
        refine nv_iadd hx hb dX6_allShares_21 ?_
        refine lv_istore_n (lv' := [(1, .int (nI (sm (g 0) i + (g 0 i)))), (0, .ref (b 0)), (2, .int (nI i))]) hx hb dX6_allShares_22 rfl hl (by decide) rfl (fun ls hl => ?_)
        refine lv_iinc (v := nI (i + 1)) (lv' := [(2, .int (nI (i + 1))), (1, .int (nI (sm (g 0) i + (g 0 i)))), (0, .ref (b 0))]) hx hb dX6_allShares_23 hl (k := 2) rfl (nI_add i 1) (by decide) rfl (fun ls hl => ?_)
        refine lv_goto (tgt := 4) hx hb dX6_allShares_26 (by decide) ?_
        exact ih4 (i + 1) (by omega) (by omega) _ _ _ hP hD hS (lv_sub hl [2, 1, 0] rfl)
  exact loop4 _ 0 (by omega) (Nat.lt_succ_self _) _ _ _ hP hD hS (lv_sub hl [2, 1, 0] rfl)
abbrev rm_X6_purses : Room := { frames := 1, cells := 0, slots := 0, locals := 22 }
set_option maxHeartbeats 4000000 in
set_option maxRecDepth 100000 in
theorem c_X6_purses (l : Launch) (E : EE) (sz : Nat) (b : Nat → Nat) (z : Nat → Nat) (g : GG) (gs : Nat → GG) (ar : GG) (hm : g 8 0 ≤ 8) : MI l yX6_purses cX6_purses 3 .int rm_X6_purses [.ref (b 0)] E sz [moC E b z g gs ar] (fun (r : Int32) (_ : Unit) => r = nI (pursN g)) (fun _ => [moC E b z g gs ar]) 0 0 := by
  refine mi_go (by decide) (Nat.le_of_ble_eq_true rfl) ?_
  intro p e s m below meth c A Q ls hx hb hml hown hts hK hZ hA hsz hP hD hl hret
  have hS : va_S A s.heap s.heap [] := va_S.rf
  have hl : lv_has ls 3 [(0, .ref (b 0))] := hl
  skip
  refine lv_iconst (v := nI 0) hx hb dX6_purses_0 (by decide) ?_
  refine lv_istore_n (lv' := [(1, .int (nI 0)), (0, .ref (b 0))]) hx hb dX6_purses_1 rfl hl (by decide) rfl (fun ls hl => ?_)
  refine lv_iconst (v := nI 0) hx hb dX6_purses_2 (by decide) ?_
  refine lv_istore_n (lv' := [(2, .int (nI 0)), (1, .int (nI 0)), (0, .ref (b 0))]) hx hb dX6_purses_3 rfl hl (by decide) rfl (fun ls hl => ?_)
  have loop4 : ∀ (n : Nat) (i : Nat), (i ≤ g 8 0) → g 8 0 - i < n → ∀ (H : Heap) (locs : List Loc) (ls : Array Slot), va_P E.1 vwCl ([moC E b z g gs ar] : List va_W).flatten H → va_D A ([moC E b z g gs ar] : List va_W).flatten → va_S A s.heap H locs → lv_has ls 3 [(0, .ref (b 0)), (1, .int (nI (sm (g 5) i))), (2, .int (nI i))] → W p l e rm_X6_purses s m ([.ref (b 0)] : List Value).toArray below meth c H locs 0 0 Q (F0 m 4 ls []) := by
    intro n4
    induction n4 with
    | zero => intro i hi hn4; exact absurd hn4 (Nat.not_lt_zero _)
    | succ n4 ih4 =>
      intro i hi hn4 H locs ls hP hD hS hl
      refine lv_iload_n hx hb dX6_purses_4 rfl (lv_at hl 2 rfl) ?_
      refine lv_aload_n hx hb dX6_purses_5 rfl (lv_at hl 0 rfl) ?_
      refine va_get (D := E.1) (ci := 10) (v := .ref (b 1)) (C := RX6) (T := TX6) (N := 20) hx hb hts inX6 hown hK hP 0 rfl rfl 1 (by decide) (hts _ q1435) (fun _ h9 => h9) rfl dX6_purses_6 ?_
      refine lv_iconst (v := nI 0) hx hb dX6_purses_9 (by decide) ?_
      refine nv_iald (f := (flat g)) (i := 0) (n := 74) hx hb hK hP 1 0 rfl rfl (by omega) (by decide) dX6_purses_10 ?_
      refine tp_i (show nI ((flat g) 0) = nI (g 8 0) from rfl) ?_
      refine nv_icmp_ge (X := ((i : Nat) : Int)) (Y := ((g 8 0 : Nat) : Int)) hx hb (nI_toInt (by omega)) (nI_toInt (by omega)) (tgt := 29) dX6_purses_11 (by decide) (fun c_1 => ?_) (fun c_1 => ?_)
      · skip
        refine lv_iload_n hx hb dX6_purses_29 rfl (lv_at hl 1 rfl) ?_
        exact hret _ _ (nI (sm (g 5) i)) () _ _ hP hD hS rfl (by rw [show i = g 8 0 by omega]; rfl) dX6_purses_30
      · skip
        refine lv_iload_n hx hb dX6_purses_14 rfl (lv_at hl 1 rfl) ?_
        refine lv_aload_n hx hb dX6_purses_15 rfl (lv_at hl 0 rfl) ?_
        refine lv_iload_n hx hb dX6_purses_16 rfl (lv_at hl 2 rfl) ?_
        refine lv_iconst (v := nI 5) hx hb dX6_purses_17 (by decide) ?_
        refine run_i (S := Unit) (run_V (As := [.int (nI i), .int (nI 5)]) (rest := [.int (nI (sm (g 5) i))]) (bs := [moC E b z g gs ar]) (cb := [moC E b z g gs ar]) hx hb hml hown hts hK hZ hA (c_X6_of l E _ b z g gs ar  i 5 (by omega) (by decide)) l_X6_65 rfl ⟨⟨rfl, rfl⟩, Nat.le_of_ble_eq_true rfl, Nat.le_of_ble_eq_true rfl⟩ 10 rfl [0] rfl (by decide) rfl hP hD hS hl.1 rfl (Nat.le_of_ble_eq_true rfl) dX6_purses_18 ⟨Nat.zero_le _, Nat.zero_le _⟩) hA hP hD hS (isC := [0]) rfl [] [0] (br := []) (bs2 := fun _ => [moC E b z g gs ar]) rfl (by decide) (fun _ => rfl) (by decide) (fun r u H locs hw hP hD hS => ?_)
        subst hw
        refine nv_iadd hx hb dX6_purses_21 ?_
        refine lv_istore_n (lv' := [(1, .int (nI (sm (g 5) i + (g 5 i)))), (0, .ref (b 0)), (2, .int (nI i))]) hx hb dX6_purses_22 rfl hl (by decide) rfl (fun ls hl => ?_)
        refine lv_iinc (v := nI (i + 1)) (lv' := [(2, .int (nI (i + 1))), (1, .int (nI (sm (g 5) i + (g 5 i)))), (0, .ref (b 0))]) hx hb dX6_purses_23 hl (k := 2) rfl (nI_add i 1) (by decide) rfl (fun ls hl => ?_)
        refine lv_goto (tgt := 4) hx hb dX6_purses_26 (by decide) ?_
        exact ih4 (i + 1) (by omega) (by omega) _ _ _ hP hD hS (lv_sub hl [2, 1, 0] rfl)
  exact loop4 _ 0 (by omega) (Nat.lt_succ_self _) _ _ _ hP hD hS (lv_sub hl [2, 1, 0] rfl)
abbrev rm_X6_most : Room := { frames := 2, cells := 0, slots := 0, locals := 44 }
set_option maxHeartbeats 4000000 in
set_option maxRecDepth 100000 in
theorem c_X6_most (l : Launch) (E : EE) (sz : Nat) (b : Nat → Nat) (z : Nat → Nat) (g : GG) (gs : Nat → GG) (ar : GG) (B : Nat) (hI : IB B g)  : MI l yX6_most cX6_most 1 .int rm_X6_most [.ref (b 0)] E sz [moC E b z g gs ar] (fun (r : Int32) (_ : Unit) => r = nI (quo g)) (fun _ => [moC E b z g gs ar]) 0 0 := by
  refine mi_go (by decide) (Nat.le_of_ble_eq_true rfl) ?_
  intro p e s m below meth c A Q ls hx hb hml hown hts hK hZ hA hsz hP hD hl hret
  have hS : va_S A s.heap s.heap [] := va_S.rf
  have hl : lv_has ls 1 [(0, .ref (b 0))] := hl
  skip
  have hmc := hI.mc
  have hbu := hI.bud
  have hsh : allSh g ≤ 50 * g 8 0 := hI.shs (Nat.le_refl _)
  refine lv_aload_n hx hb dX6_most_0 rfl (lv_at hl 0 rfl) ?_
  refine run_i (S := Unit) (run_V (As := []) (rest := []) (bs := [moC E b z g gs ar]) (cb := [moC E b z g gs ar]) hx hb hml hown hts hK hZ hA (c_X6_allShares l E _ b z g gs ar   hmc) l_X6_68 rfl ⟨⟨rfl, rfl⟩, Nat.le_of_ble_eq_true rfl, Nat.le_of_ble_eq_true rfl⟩ 10 rfl [0] rfl (by decide) rfl hP hD hS hl.1 rfl (Nat.le_of_ble_eq_true rfl) dX6_most_1 ⟨Nat.zero_le _, Nat.zero_le _⟩) hA hP hD hS (isC := [0]) rfl [] [0] (br := []) (bs2 := fun _ => [moC E b z g gs ar]) rfl (by decide) (fun _ => rfl) (by decide) (fun r u H locs hw hP hD hS => ?_)
  subst hw
  refine lv_iconst (v := nI 2) hx hb dX6_most_4 (by decide) ?_
  refine nv_idiv hx hb (by omega) (by omega) (by omega) dX6_most_5 ?_
  refine lv_iconst (v := nI 1) hx hb dX6_most_6 (by decide) ?_
  refine nv_iadd hx hb dX6_most_7 ?_
  exact hret _ _ (nI (((allSh g) / 2) + 1)) () _ _ hP hD hS rfl rfl dX6_most_8
abbrev rm_X6_favour : Room := { frames := 1, cells := 0, slots := 0, locals := 22 }
set_option maxHeartbeats 4000000 in
set_option maxRecDepth 100000 in
theorem c_X6_favour (l : Launch) (E : EE) (sz : Nat) (b : Nat → Nat) (z : Nat → Nat) (g : GG) (gs : Nat → GG) (ar : GG) (B : Nat) (hI : IB B g) (t0 k0 : Nat) (h2 : t0 ≤ 11) (h3 : k0 ≤ 6) : MI l yX6_favour cX6_favour 5 .int rm_X6_favour [.ref (b 0), .int (nI t0), .int (nI k0)] E sz [moC E b z g gs ar] (fun (r : Int32) (_ : Unit) => r = nI (favN g t0 k0)) (fun _ => [moC E b z g gs ar]) 0 0 := by
  refine mi_go (by decide) (Nat.le_of_ble_eq_true rfl) ?_
  intro p e s m below meth c A Q ls hx hb hml hown hts hK hZ hA hsz hP hD hl hret
  have hS : va_S A s.heap s.heap [] := va_S.rf
  have hl : lv_has ls 5 [(0, .ref (b 0)), (1, .int (nI t0)), (2, .int (nI k0))] := hl
  skip
  have hmc := hI.mc
  have hbu := hI.bud
  refine lv_iconst (v := nI 0) hx hb dX6_favour_0 (by decide) ?_
  refine lv_istore_n (lv' := [(3, .int (nI 0)), (0, .ref (b 0)), (1, .int (nI t0)), (2, .int (nI k0))]) hx hb dX6_favour_1 rfl hl (by decide) rfl (fun ls hl => ?_)
  refine lv_iconst (v := nI 0) hx hb dX6_favour_2 (by decide) ?_
  refine lv_istore (lv' := [(4, .int (nI 0)), (3, .int (nI 0)), (0, .ref (b 0)), (1, .int (nI t0)), (2, .int (nI k0))]) hx hb dX6_favour_3 hl (by decide) rfl (fun ls hl => ?_)
  have loop5 : ∀ (n : Nat) (i : Nat), (i ≤ g 8 0) → g 8 0 - i < n → ∀ (H : Heap) (locs : List Loc) (ls : Array Slot), va_P E.1 vwCl ([moC E b z g gs ar] : List va_W).flatten H → va_D A ([moC E b z g gs ar] : List va_W).flatten → va_S A s.heap H locs → lv_has ls 5 [(0, .ref (b 0)), (1, .int (nI t0)), (2, .int (nI k0)), (3, .int (nI (sm (fun m => if inF g m t0 k0 then g 0 m else 0) i))), (4, .int (nI i))] → W p l e rm_X6_favour s m ([.ref (b 0), .int (nI t0), .int (nI k0)] : List Value).toArray below meth c H locs 0 0 Q (F0 m 5 ls []) := by
    intro n5
    induction n5 with
    | zero => intro i hi hn5; exact absurd hn5 (Nat.not_lt_zero _)
    | succ n5 ih5 =>
      intro i hi hn5 H locs ls hP hD hS hl
      refine lv_iload hx hb dX6_favour_5 (lv_at hl 4 rfl) ?_
      refine lv_aload_n hx hb dX6_favour_7 rfl (lv_at hl 0 rfl) ?_
      refine va_get (D := E.1) (ci := 10) (v := .ref (b 1)) (C := RX6) (T := TX6) (N := 20) hx hb hts inX6 hown hK hP 0 rfl rfl 1 (by decide) (hts _ q1435) (fun _ h9 => h9) rfl dX6_favour_8 ?_
      refine lv_iconst (v := nI 0) hx hb dX6_favour_11 (by decide) ?_
      refine nv_iald (f := (flat g)) (i := 0) (n := 74) hx hb hK hP 1 0 rfl rfl (by omega) (by decide) dX6_favour_12 ?_
      refine tp_i (show nI ((flat g) 0) = nI (g 8 0) from rfl) ?_
      refine nv_icmp_ge (X := ((i : Nat) : Int)) (Y := ((g 8 0 : Nat) : Int)) hx hb (nI_toInt (by omega)) (nI_toInt (by omega)) (tgt := 51) dX6_favour_13 (by decide) (fun c_1 => ?_) (fun c_1 => ?_)
      · skip
        refine lv_iload_n hx hb dX6_favour_51 rfl (lv_at hl 3 rfl) ?_
        exact hret _ _ (nI (sm (fun m => if inF g m t0 k0 then g 0 m else 0) i)) () _ _ hP hD hS rfl (by rw [show i = g 8 0 by omega]; rfl) dX6_favour_52
      · skip
        have hmb := hI.mem (m := i) (by omega)
        have hq3 : g 3 i ≤ 11 := hmb.2.2.1
        have hap := ap_le (y := t0) hq3 (by omega)
        refine lv_iload_n hx hb dX6_favour_16 rfl (lv_at hl 3 rfl) ?_
        refine lv_aload_n hx hb dX6_favour_17 rfl (lv_at hl 0 rfl) ?_
        refine lv_iload hx hb dX6_favour_18 (lv_at hl 4 rfl) ?_
        refine lv_iconst (v := nI 3) hx hb dX6_favour_20 (by decide) ?_
        refine run_i (S := Unit) (run_V (As := [.int (nI i), .int (nI 3)]) (rest := [.int (nI (sm (fun m => if inF g m t0 k0 then g 0 m else 0) i))]) (bs := [moC E b z g gs ar]) (cb := [moC E b z g gs ar]) hx hb hml hown hts hK hZ hA (c_X6_of l E _ b z g gs ar  i 3 (by omega) (by decide)) l_X6_65 rfl ⟨⟨rfl, rfl⟩, Nat.le_of_ble_eq_true rfl, Nat.le_of_ble_eq_true rfl⟩ 10 rfl [0] rfl (by decide) rfl hP hD hS hl.1 rfl (Nat.le_of_ble_eq_true rfl) dX6_favour_21 ⟨Nat.zero_le _, Nat.zero_le _⟩) hA hP hD hS (isC := [0]) rfl [] [0] (br := []) (bs2 := fun _ => [moC E b z g gs ar]) rfl (by decide) (fun _ => rfl) (by decide) (fun r u H locs hw hP hD hS => ?_)
        subst hw
        refine lv_iload_n hx hb dX6_favour_24 rfl (lv_at hl 1 rfl) ?_
        refine run_i (S := Unit) (run_S (As := [.int (nI (g 3 i)), .int (nI t0)]) (rest := [.int (nI (sm (fun m => if inF g m t0 k0 then g 0 m else 0) i))]) (bs := [moC E b z g gs ar]) (cb := []) hx hb hml hown hts hK hZ hA (c_X6_apart l E _ (g 3 i) t0 (by omega) (by omega)) l_X6_61 rfl ⟨⟨rfl, rfl⟩, Nat.le_of_ble_eq_true rfl, Nat.le_of_ble_eq_true rfl⟩ [] rfl (by decide) hP hD hS hl.1 rfl (Nat.le_of_ble_eq_true rfl) dX6_favour_25 ⟨Nat.zero_le _, Nat.zero_le _⟩) hA hP hD hS (isC := []) rfl [0] [0] (br := [moC E b z g gs ar]) (bs2 := fun _ => [moC E b z g gs ar]) rfl (by decide) (fun _ => rfl) (by decide) (fun r u H locs hw hP hD hS => ?_)
        subst hw
        refine lv_iload_n hx hb dX6_favour_28 rfl (lv_at hl 2 rfl) ?_
        refine nv_icmp_gt (X := ((ap (g 3 i) t0 : Nat) : Int)) (Y := ((k0 : Nat) : Int)) hx hb (nI_toInt (by omega)) (nI_toInt (by omega)) (tgt := 42) dX6_favour_29 (by decide) (fun c_2 => ?_) (fun c_2 => ?_)
        · skip
          have hif : inF g i t0 k0 = false := decide_eq_false (by omega)
          refine lv_iconst (v := nI 0) hx hb dX6_favour_42 (by decide) ?_
          refine nv_iadd hx hb dX6_favour_43 ?_
          refine lv_istore_n (lv' := [(3, .int (nI (sm (fun m => if inF g m t0 k0 then g 0 m else 0) i + 0))), (0, .ref (b 0)), (1, .int (nI t0)), (2, .int (nI k0)), (4, .int (nI i))]) hx hb dX6_favour_44 rfl hl (by decide) rfl (fun ls hl => ?_)
          have hl : lv_has ls 5 [(3, .int (nI (sm (fun m => if inF g m t0 k0 then g 0 m else 0) (i + 1)))), (0, .ref (b 0)), (1, .int (nI t0)), (2, .int (nI k0)), (4, .int (nI i))] := by rw [show sm (fun m => if inF g m t0 k0 then g 0 m else 0) (i + 1) = sm (fun m => if inF g m t0 k0 then g 0 m else 0) i + 0 from (sm_if_f (q := fun m => inF g m t0 k0) (f := g 0) hif).symm]; exact hl
          refine lv_iinc (v := nI (i + 1)) (lv' := [(4, .int (nI (i + 1))), (3, .int (nI (sm (fun m => if inF g m t0 k0 then g 0 m else 0) (i + 1)))), (0, .ref (b 0)), (1, .int (nI t0)), (2, .int (nI k0))]) hx hb dX6_favour_45 hl (k := 4) rfl (nI_add i 1) (by decide) rfl (fun ls hl => ?_)
          refine lv_goto (tgt := 5) hx hb dX6_favour_48 (by decide) ?_
          exact ih5 (i + 1) (by omega) (by omega) _ _ _ hP hD hS (lv_sub hl [2, 3, 4, 1, 0] rfl)
        · skip
          have hif : inF g i t0 k0 = true := decide_eq_true (by omega)
          refine lv_aload_n hx hb dX6_favour_32 rfl (lv_at hl 0 rfl) ?_
          refine lv_iload hx hb dX6_favour_33 (lv_at hl 4 rfl) ?_
          refine lv_iconst (v := nI 0) hx hb dX6_favour_35 (by decide) ?_
          refine run_i (S := Unit) (run_V (As := [.int (nI i), .int (nI 0)]) (rest := [.int (nI (sm (fun m => if inF g m t0 k0 then g 0 m else 0) i))]) (bs := [moC E b z g gs ar]) (cb := [moC E b z g gs ar]) hx hb hml hown hts hK hZ hA (c_X6_of l E _ b z g gs ar  i 0 (by omega) (by decide)) l_X6_65 rfl ⟨⟨rfl, rfl⟩, Nat.le_of_ble_eq_true rfl, Nat.le_of_ble_eq_true rfl⟩ 10 rfl [0] rfl (by decide) rfl hP hD hS hl.1 rfl (Nat.le_of_ble_eq_true rfl) dX6_favour_36 ⟨Nat.zero_le _, Nat.zero_le _⟩) hA hP hD hS (isC := [0]) rfl [] [0] (br := []) (bs2 := fun _ => [moC E b z g gs ar]) rfl (by decide) (fun _ => rfl) (by decide) (fun r u H locs hw hP hD hS => ?_)
          subst hw
          refine lv_goto (tgt := 43) hx hb dX6_favour_39 (by decide) ?_
          refine nv_iadd hx hb dX6_favour_43 ?_
          refine lv_istore_n (lv' := [(3, .int (nI (sm (fun m => if inF g m t0 k0 then g 0 m else 0) i + (g 0 i)))), (0, .ref (b 0)), (1, .int (nI t0)), (2, .int (nI k0)), (4, .int (nI i))]) hx hb dX6_favour_44 rfl hl (by decide) rfl (fun ls hl => ?_)
          have hl : lv_has ls 5 [(3, .int (nI (sm (fun m => if inF g m t0 k0 then g 0 m else 0) (i + 1)))), (0, .ref (b 0)), (1, .int (nI t0)), (2, .int (nI k0)), (4, .int (nI i))] := by rw [show sm (fun m => if inF g m t0 k0 then g 0 m else 0) (i + 1) = sm (fun m => if inF g m t0 k0 then g 0 m else 0) i + (g 0 i) from (sm_if_t (q := fun m => inF g m t0 k0) (f := g 0) hif).symm]; exact hl
          refine lv_iinc (v := nI (i + 1)) (lv' := [(4, .int (nI (i + 1))), (3, .int (nI (sm (fun m => if inF g m t0 k0 then g 0 m else 0) (i + 1)))), (0, .ref (b 0)), (1, .int (nI t0)), (2, .int (nI k0))]) hx hb dX6_favour_45 hl (k := 4) rfl (nI_add i 1) (by decide) rfl (fun ls hl => ?_)
          refine lv_goto (tgt := 5) hx hb dX6_favour_48 (by decide) ?_
          exact ih5 (i + 1) (by omega) (by omega) _ _ _ hP hD hS (lv_sub hl [2, 3, 4, 1, 0] rfl)
  exact loop5 _ 0 (by omega) (Nat.lt_succ_self _) _ _ _ hP hD hS (lv_sub hl [2, 3, 4, 1, 0] rfl)
abbrev rm_X6_sharesOf : Room := { frames := 1, cells := 0, slots := 0, locals := 22 }
set_option maxHeartbeats 4000000 in
set_option maxRecDepth 100000 in
theorem c_X6_sharesOf (l : Launch) (E : EE) (sz : Nat) (b : Nat → Nat) (z : Nat → Nat) (g : GG) (gs : Nat → GG) (ar : GG) (B : Nat) (hI : IB B g) (n0 : Nat) (h0 : n0 < 256) : MI l yX6_sharesOf cX6_sharesOf 4 .int rm_X6_sharesOf [.ref (b 0), .int (nI n0)] E sz [moC E b z g gs ar] (fun (r : Int32) (_ : Unit) => r = nI (sG g n0)) (fun _ => [moC E b z g gs ar]) 0 0 := by
  refine mi_go (by decide) (Nat.le_of_ble_eq_true rfl) ?_
  intro p e s m below meth c A Q ls hx hb hml hown hts hK hZ hA hsz hP hD hl hret
  have hS : va_S A s.heap s.heap [] := va_S.rf
  have hl : lv_has ls 4 [(0, .ref (b 0)), (1, .int (nI n0))] := hl
  skip
  have hmc := hI.mc
  have hbu := hI.bud
  refine lv_iconst (v := nI 0) hx hb dX6_sharesOf_0 (by decide) ?_
  refine lv_istore_n (lv' := [(2, .int (nI 0)), (0, .ref (b 0)), (1, .int (nI n0))]) hx hb dX6_sharesOf_1 rfl hl (by decide) rfl (fun ls hl => ?_)
  refine lv_iconst (v := nI 0) hx hb dX6_sharesOf_2 (by decide) ?_
  refine lv_istore_n (lv' := [(3, .int (nI 0)), (2, .int (nI 0)), (0, .ref (b 0)), (1, .int (nI n0))]) hx hb dX6_sharesOf_3 rfl hl (by decide) rfl (fun ls hl => ?_)
  have loop4 : ∀ (n : Nat) (i : Nat), (i ≤ g 8 0) → g 8 0 - i < n → ∀ (H : Heap) (locs : List Loc) (ls : Array Slot), va_P E.1 vwCl ([moC E b z g gs ar] : List va_W).flatten H → va_D A ([moC E b z g gs ar] : List va_W).flatten → va_S A s.heap H locs → lv_has ls 4 [(0, .ref (b 0)), (1, .int (nI n0)), (2, .int (nI (sm (fun m => if n0.testBit m then g 0 m else 0) i))), (3, .int (nI i))] → W p l e rm_X6_sharesOf s m ([.ref (b 0), .int (nI n0)] : List Value).toArray below meth c H locs 0 0 Q (F0 m 4 ls []) := by
    intro n4
    induction n4 with
    | zero => intro i hi hn4; exact absurd hn4 (Nat.not_lt_zero _)
    | succ n4 ih4 =>
      intro i hi hn4 H locs ls hP hD hS hl
      refine lv_iload_n hx hb dX6_sharesOf_4 rfl (lv_at hl 3 rfl) ?_
      refine lv_aload_n hx hb dX6_sharesOf_5 rfl (lv_at hl 0 rfl) ?_
      refine va_get (D := E.1) (ci := 10) (v := .ref (b 1)) (C := RX6) (T := TX6) (N := 20) hx hb hts inX6 hown hK hP 0 rfl rfl 1 (by decide) (hts _ q1435) (fun _ h9 => h9) rfl dX6_sharesOf_6 ?_
      refine lv_iconst (v := nI 0) hx hb dX6_sharesOf_9 (by decide) ?_
      refine nv_iald (f := (flat g)) (i := 0) (n := 74) hx hb hK hP 1 0 rfl rfl (by omega) (by decide) dX6_sharesOf_10 ?_
      refine tp_i (show nI ((flat g) 0) = nI (g 8 0) from rfl) ?_
      refine nv_icmp_ge (X := ((i : Nat) : Int)) (Y := ((g 8 0 : Nat) : Int)) hx hb (nI_toInt (by omega)) (nI_toInt (by omega)) (tgt := 42) dX6_sharesOf_11 (by decide) (fun c_1 => ?_) (fun c_1 => ?_)
      · skip
        refine lv_iload_n hx hb dX6_sharesOf_42 rfl (lv_at hl 2 rfl) ?_
        exact hret _ _ (nI (sm (fun m => if n0.testBit m then g 0 m else 0) i)) () _ _ hP hD hS rfl (by rw [show i = g 8 0 by omega]; rfl) dX6_sharesOf_43
      · skip
        refine lv_iload_n hx hb dX6_sharesOf_14 rfl (lv_at hl 2 rfl) ?_
        refine lv_iload_n hx hb dX6_sharesOf_15 rfl (lv_at hl 1 rfl) ?_
        refine lv_iload_n hx hb dX6_sharesOf_16 rfl (lv_at hl 3 rfl) ?_
        refine nv_ishr hx hb (by omega) (by omega) dX6_sharesOf_17 ?_
        refine lv_iconst (v := nI 1) hx hb dX6_sharesOf_18 (by decide) ?_
        refine nv_iand hx hb dX6_sharesOf_19 ?_
        refine tp_i (congrArg nI bit1) ?_
        refine lv_iconst (v := nI 1) hx hb dX6_sharesOf_20 (by decide) ?_
        refine nv_icmp_ne (X := (((if n0.testBit i then 1 else 0) : Nat) : Int)) (Y := ((1 : Nat) : Int)) hx hb (nI_toInt (by split <;> omega)) (nI_toInt (by omega)) (tgt := 33) dX6_sharesOf_21 (by decide) (fun c_2 => ?_) (fun c_2 => ?_)
        · skip
          have hif : n0.testBit i = false := by cases hb9 : n0.testBit i with | false => rfl | true => rw [hb9] at c_2; exact absurd rfl c_2
          refine lv_iconst (v := nI 0) hx hb dX6_sharesOf_33 (by decide) ?_
          refine nv_iadd hx hb dX6_sharesOf_34 ?_
          refine lv_istore_n (lv' := [(2, .int (nI (sm (fun m => if n0.testBit m then g 0 m else 0) i + 0))), (0, .ref (b 0)), (1, .int (nI n0)), (3, .int (nI i))]) hx hb dX6_sharesOf_35 rfl hl (by decide) rfl (fun ls hl => ?_)
          have hl : lv_has ls 4 [(2, .int (nI (sm (fun m => if n0.testBit m then g 0 m else 0) (i + 1)))), (0, .ref (b 0)), (1, .int (nI n0)), (3, .int (nI i))] := by rw [show sm (fun m => if n0.testBit m then g 0 m else 0) (i + 1) = sm (fun m => if n0.testBit m then g 0 m else 0) i + 0 from (sm_if_f (q := fun m => n0.testBit m) (f := g 0) hif).symm]; exact hl
          refine lv_iinc (v := nI (i + 1)) (lv' := [(3, .int (nI (i + 1))), (2, .int (nI (sm (fun m => if n0.testBit m then g 0 m else 0) (i + 1)))), (0, .ref (b 0)), (1, .int (nI n0))]) hx hb dX6_sharesOf_36 hl (k := 3) rfl (nI_add i 1) (by decide) rfl (fun ls hl => ?_)
          refine lv_goto (tgt := 4) hx hb dX6_sharesOf_39 (by decide) ?_
          exact ih4 (i + 1) (by omega) (by omega) _ _ _ hP hD hS (lv_sub hl [2, 3, 1, 0] rfl)
        · skip
          have hif : n0.testBit i = true := by cases hb9 : n0.testBit i with | true => rfl | false => rw [hb9] at c_2; exact absurd c_2 (by decide)
          refine lv_aload_n hx hb dX6_sharesOf_24 rfl (lv_at hl 0 rfl) ?_
          refine lv_iload_n hx hb dX6_sharesOf_25 rfl (lv_at hl 3 rfl) ?_
          refine lv_iconst (v := nI 0) hx hb dX6_sharesOf_26 (by decide) ?_
          refine run_i (S := Unit) (run_V (As := [.int (nI i), .int (nI 0)]) (rest := [.int (nI (sm (fun m => if n0.testBit m then g 0 m else 0) i))]) (bs := [moC E b z g gs ar]) (cb := [moC E b z g gs ar]) hx hb hml hown hts hK hZ hA (c_X6_of l E _ b z g gs ar  i 0 (by omega) (by decide)) l_X6_65 rfl ⟨⟨rfl, rfl⟩, Nat.le_of_ble_eq_true rfl, Nat.le_of_ble_eq_true rfl⟩ 10 rfl [0] rfl (by decide) rfl hP hD hS hl.1 rfl (Nat.le_of_ble_eq_true rfl) dX6_sharesOf_27 ⟨Nat.zero_le _, Nat.zero_le _⟩) hA hP hD hS (isC := [0]) rfl [] [0] (br := []) (bs2 := fun _ => [moC E b z g gs ar]) rfl (by decide) (fun _ => rfl) (by decide) (fun r u H locs hw hP hD hS => ?_)
          subst hw
          refine lv_goto (tgt := 34) hx hb dX6_sharesOf_30 (by decide) ?_
          refine nv_iadd hx hb dX6_sharesOf_34 ?_
          refine lv_istore_n (lv' := [(2, .int (nI (sm (fun m => if n0.testBit m then g 0 m else 0) i + (g 0 i)))), (0, .ref (b 0)), (1, .int (nI n0)), (3, .int (nI i))]) hx hb dX6_sharesOf_35 rfl hl (by decide) rfl (fun ls hl => ?_)
          have hl : lv_has ls 4 [(2, .int (nI (sm (fun m => if n0.testBit m then g 0 m else 0) (i + 1)))), (0, .ref (b 0)), (1, .int (nI n0)), (3, .int (nI i))] := by rw [show sm (fun m => if n0.testBit m then g 0 m else 0) (i + 1) = sm (fun m => if n0.testBit m then g 0 m else 0) i + (g 0 i) from (sm_if_t (q := fun m => n0.testBit m) (f := g 0) hif).symm]; exact hl
          refine lv_iinc (v := nI (i + 1)) (lv' := [(3, .int (nI (i + 1))), (2, .int (nI (sm (fun m => if n0.testBit m then g 0 m else 0) (i + 1)))), (0, .ref (b 0)), (1, .int (nI n0))]) hx hb dX6_sharesOf_36 hl (k := 3) rfl (nI_add i 1) (by decide) rfl (fun ls hl => ?_)
          refine lv_goto (tgt := 4) hx hb dX6_sharesOf_39 (by decide) ?_
          exact ih4 (i + 1) (by omega) (by omega) _ _ _ hP hD hS (lv_sub hl [2, 3, 1, 0] rfl)
  exact loop4 _ 0 (by omega) (Nat.lt_succ_self _) _ _ _ hP hD hS (lv_sub hl [2, 3, 1, 0] rfl)
abbrev rm_X6_decisive : Room := { frames := 3, cells := 0, slots := 0, locals := 64 }
set_option maxHeartbeats 4000000 in
set_option maxRecDepth 100000 in
theorem c_X6_decisive (l : Launch) (E : EE) (sz : Nat) (b : Nat → Nat) (z : Nat → Nat) (g : GG) (gs : Nat → GG) (ar : GG) (B : Nat) (hI : IB B g) (m0 : Nat) (hm : m0 < g 8 0) : MI l yX6_decisive cX6_decisive 5 .int rm_X6_decisive [.ref (b 0), .int (nI m0)] E sz [moC E b z g gs ar] (fun (r : Int32) (_ : Unit) => r = nI (powN g m0)) (fun _ => [moC E b z g gs ar]) 0 0 := by
  refine mi_go (by decide) (Nat.le_of_ble_eq_true rfl) ?_
  intro p e s m below meth c A Q ls hx hb hml hown hts hK hZ hA hsz hP hD hl hret
  have hS : va_S A s.heap s.heap [] := va_S.rf
  have hl : lv_has ls 5 [(0, .ref (b 0)), (1, .int (nI m0))] := hl
  skip
  have hmc := hI.mc
  have hbu := hI.bud
  have hsh : allSh g ≤ 50 * g 8 0 := hI.shs (Nat.le_refl _)
  have hqd : quo g = allSh g / 2 + 1 := rfl
  have h256 := p256' hI (Nat.le_refl (g 8 0))
  have hmb := hI.mem hm
  refine lv_iconst (v := nI 0) hx hb dX6_decisive_0 (by decide) ?_
  refine lv_istore_n (lv' := [(2, .int (nI 0)), (0, .ref (b 0)), (1, .int (nI m0))]) hx hb dX6_decisive_1 rfl hl (by decide) rfl (fun ls hl => ?_)
  refine lv_iconst (v := nI 0) hx hb dX6_decisive_2 (by decide) ?_
  refine lv_istore_n (lv' := [(3, .int (nI 0)), (2, .int (nI 0)), (0, .ref (b 0)), (1, .int (nI m0))]) hx hb dX6_decisive_3 rfl hl (by decide) rfl (fun ls hl => ?_)
  have loop4 : ∀ (n : Nat) (i : Nat), (i ≤ 2 ^ g 8 0) → 2 ^ g 8 0 - i < n → ∀ (H : Heap) (locs : List Loc) (ls : Array Slot), va_P E.1 vwCl ([moC E b z g gs ar] : List va_W).flatten H → va_D A ([moC E b z g gs ar] : List va_W).flatten → va_S A s.heap H locs → lv_has ls 5 [(0, .ref (b 0)), (1, .int (nI m0)), (2, .int (nI (sm (fun q => if dcB g m0 q then 1 else 0) i))), (3, .int (nI i))] → W p l e rm_X6_decisive s m ([.ref (b 0), .int (nI m0)] : List Value).toArray below meth c H locs 0 0 Q (F0 m 4 ls []) := by
    intro n4
    induction n4 with
    | zero => intro i hi hn4; exact absurd hn4 (Nat.not_lt_zero _)
    | succ n4 ih4 =>
      intro i hi hn4 H locs ls hP hD hS hl
      refine lv_iload_n hx hb dX6_decisive_4 rfl (lv_at hl 3 rfl) ?_
      refine lv_iconst (v := nI 1) hx hb dX6_decisive_5 (by decide) ?_
      refine lv_aload_n hx hb dX6_decisive_6 rfl (lv_at hl 0 rfl) ?_
      refine va_get (D := E.1) (ci := 10) (v := .ref (b 1)) (C := RX6) (T := TX6) (N := 20) hx hb hts inX6 hown hK hP 0 rfl rfl 1 (by decide) (hts _ q1435) (fun _ h9 => h9) rfl dX6_decisive_7 ?_
      refine lv_iconst (v := nI 0) hx hb dX6_decisive_10 (by decide) ?_
      refine nv_iald (f := (flat g)) (i := 0) (n := 74) hx hb hK hP 1 0 rfl rfl (by omega) (by decide) dX6_decisive_11 ?_
      refine tp_i (show nI ((flat g) 0) = nI (g 8 0) from rfl) ?_
      refine nv_ishl hx hb (by omega) (by have := Nat.pow_le_pow_right (n := 2) (by decide) hmc; omega) dX6_decisive_12 ?_
      refine tp_i (congrArg nI (Nat.one_mul _)) ?_
      refine nv_icmp_ge (X := ((i : Nat) : Int)) (Y := ((2 ^ g 8 0 : Nat) : Int)) hx hb (nI_toInt (by omega)) (nI_toInt (by omega)) (tgt := 74) dX6_decisive_13 (by decide) (fun c_1 => ?_) (fun c_1 => ?_)
      · skip
        refine lv_iload_n hx hb dX6_decisive_74 rfl (lv_at hl 2 rfl) ?_
        exact hret _ _ (nI (sm (fun q => if dcB g m0 q then 1 else 0) i)) () _ _ hP hD hS rfl (by rw [show i = 2 ^ g 8 0 by omega]; rfl) dX6_decisive_75
      · skip
        have hsg : sG g i ≤ allSh g := sgi_le
        refine lv_iload_n hx hb dX6_decisive_16 rfl (lv_at hl 3 rfl) ?_
        refine lv_iload_n hx hb dX6_decisive_17 rfl (lv_at hl 1 rfl) ?_
        refine nv_ishr hx hb (by omega) (by omega) dX6_decisive_18 ?_
        refine lv_iconst (v := nI 1) hx hb dX6_decisive_19 (by decide) ?_
        refine nv_iand hx hb dX6_decisive_20 ?_
        refine tp_i (congrArg nI bit1) ?_
        refine lv_iconst (v := nI 1) hx hb dX6_decisive_21 (by decide) ?_
        refine nv_icmp_ne (X := (((if i.testBit m0 then 1 else 0) : Nat) : Int)) (Y := ((1 : Nat) : Int)) hx hb (nI_toInt (by split <;> omega)) (nI_toInt (by omega)) (tgt := 28) dX6_decisive_22 (by decide) (fun c_2 => ?_) (fun c_2 => ?_)
        · skip
          have hbt : i.testBit m0 = false := by cases hb9 : i.testBit m0 with | false => rfl | true => rw [hb9] at c_2; exact absurd rfl c_2
          refine lv_aload_n hx hb dX6_decisive_28 rfl (lv_at hl 0 rfl) ?_
          refine lv_iload_n hx hb dX6_decisive_29 rfl (lv_at hl 3 rfl) ?_
          refine run_i (S := Unit) (run_V (As := [.int (nI i)]) (rest := []) (bs := [moC E b z g gs ar]) (cb := [moC E b z g gs ar]) hx hb hml hown hts hK hZ hA (c_X6_sharesOf l E _ b z g gs ar _ hI i (by omega)) l_X6_83 rfl ⟨⟨rfl, rfl⟩, Nat.le_of_ble_eq_true rfl, Nat.le_of_ble_eq_true rfl⟩ 10 rfl [0] rfl (by decide) rfl hP hD hS hl.1 rfl (Nat.le_of_ble_eq_true rfl) dX6_decisive_30 ⟨Nat.zero_le _, Nat.zero_le _⟩) hA hP hD hS (isC := [0]) rfl [] [0] (br := []) (bs2 := fun _ => [moC E b z g gs ar]) rfl (by decide) (fun _ => rfl) (by decide) (fun r u H locs hw hP hD hS => ?_)
          subst hw
          refine lv_istore (lv' := [(4, .int (nI (sG g i))), (0, .ref (b 0)), (1, .int (nI m0)), (2, .int (nI (sm (fun q => if dcB g m0 q then 1 else 0) i))), (3, .int (nI i))]) hx hb dX6_decisive_33 hl (by decide) rfl (fun ls hl => ?_)
          refine lv_iload_n hx hb dX6_decisive_35 rfl (lv_at hl 3 rfl) ?_
          refine lv_iload hx hb dX6_decisive_36 (lv_at hl 0 rfl) ?_
          refine lv_aload_n hx hb dX6_decisive_38 rfl (lv_at hl 1 rfl) ?_
          refine run_i (S := Unit) (run_V (As := []) (rest := [.int (nI (sG g i)), .int (nI (sm (fun q => if dcB g m0 q then 1 else 0) i))]) (bs := [moC E b z g gs ar]) (cb := [moC E b z g gs ar]) hx hb hml hown hts hK hZ hA (c_X6_most l E _ b z g gs ar _ hI  ) l_X6_86 rfl ⟨⟨rfl, rfl⟩, Nat.le_of_ble_eq_true rfl, Nat.le_of_ble_eq_true rfl⟩ 10 rfl [0] rfl (by decide) rfl hP hD hS hl.1 rfl (Nat.le_of_ble_eq_true rfl) dX6_decisive_39 ⟨Nat.zero_le _, Nat.zero_le _⟩) hA hP hD hS (isC := [0]) rfl [] [0] (br := []) (bs2 := fun _ => [moC E b z g gs ar]) rfl (by decide) (fun _ => rfl) (by decide) (fun r u H locs hw hP hD hS => ?_)
          subst hw
          refine nv_icmp_ge (X := ((sG g i : Nat) : Int)) (Y := ((quo g : Nat) : Int)) hx hb (nI_toInt (by omega)) (nI_toInt (by omega)) (tgt := 65) dX6_decisive_42 (by decide) (fun c_3 => ?_) (fun c_3 => ?_)
          · skip
            have hif : dcB g m0 i = false := by unfold dcB; rw [decide_eq_false (by omega), Bool.and_false]
            refine lv_iconst (v := nI 0) hx hb dX6_decisive_65 (by decide) ?_
            refine nv_iadd hx hb dX6_decisive_66 ?_
            refine lv_istore_n (lv' := [(2, .int (nI (sm (fun q => if dcB g m0 q then 1 else 0) i + 0))), (4, .int (nI (sG g i))), (0, .ref (b 0)), (1, .int (nI m0)), (3, .int (nI i))]) hx hb dX6_decisive_67 rfl hl (by decide) rfl (fun ls hl => ?_)
            have hl : lv_has ls 5 [(2, .int (nI (sm (fun q => if dcB g m0 q then 1 else 0) (i + 1)))), (4, .int (nI (sG g i))), (0, .ref (b 0)), (1, .int (nI m0)), (3, .int (nI i))] := by rw [show sm (fun q => if dcB g m0 q then 1 else 0) (i + 1) = sm (fun q => if dcB g m0 q then 1 else 0) i + 0 from (sm_if_f (q := dcB g m0) (f := fun _ => 1) hif).symm]; exact hl
            refine lv_iinc (v := nI (i + 1)) (lv' := [(3, .int (nI (i + 1))), (2, .int (nI (sm (fun q => if dcB g m0 q then 1 else 0) (i + 1)))), (4, .int (nI (sG g i))), (0, .ref (b 0)), (1, .int (nI m0))]) hx hb dX6_decisive_68 hl (k := 4) rfl (nI_add i 1) (by decide) rfl (fun ls hl => ?_)
            refine lv_goto (tgt := 4) hx hb dX6_decisive_71 (by decide) ?_
            exact ih4 (i + 1) (by omega) (by omega) _ _ _ hP hD hS (lv_sub hl [3, 4, 1, 0] rfl)
          · skip
            refine lv_iload hx hb dX6_decisive_45 (lv_at hl 0 rfl) ?_
            refine lv_aload_n hx hb dX6_decisive_47 rfl (lv_at hl 1 rfl) ?_
            refine lv_iload_n hx hb dX6_decisive_48 rfl (lv_at hl 2 rfl) ?_
            refine lv_iconst (v := nI 0) hx hb dX6_decisive_49 (by decide) ?_
            refine run_i (S := Unit) (run_V (As := [.int (nI m0), .int (nI 0)]) (rest := [.int (nI (sG g i)), .int (nI (sm (fun q => if dcB g m0 q then 1 else 0) i))]) (bs := [moC E b z g gs ar]) (cb := [moC E b z g gs ar]) hx hb hml hown hts hK hZ hA (c_X6_of l E _ b z g gs ar  m0 0 (by omega) (by decide)) l_X6_65 rfl ⟨⟨rfl, rfl⟩, Nat.le_of_ble_eq_true rfl, Nat.le_of_ble_eq_true rfl⟩ 10 rfl [0] rfl (by decide) rfl hP hD hS hl.1 rfl (Nat.le_of_ble_eq_true rfl) dX6_decisive_50 ⟨Nat.zero_le _, Nat.zero_le _⟩) hA hP hD hS (isC := [0]) rfl [] [0] (br := []) (bs2 := fun _ => [moC E b z g gs ar]) rfl (by decide) (fun _ => rfl) (by decide) (fun r u H locs hw hP hD hS => ?_)
            subst hw
            refine nv_iadd hx hb dX6_decisive_53 ?_
            refine lv_aload_n hx hb dX6_decisive_54 rfl (lv_at hl 1 rfl) ?_
            refine run_i (S := Unit) (run_V (As := []) (rest := [.int (nI (sG g i + (g 0 m0))), .int (nI (sm (fun q => if dcB g m0 q then 1 else 0) i))]) (bs := [moC E b z g gs ar]) (cb := [moC E b z g gs ar]) hx hb hml hown hts hK hZ hA (c_X6_most l E _ b z g gs ar _ hI  ) l_X6_86 rfl ⟨⟨rfl, rfl⟩, Nat.le_of_ble_eq_true rfl, Nat.le_of_ble_eq_true rfl⟩ 10 rfl [0] rfl (by decide) rfl hP hD hS hl.1 rfl (Nat.le_of_ble_eq_true rfl) dX6_decisive_55 ⟨Nat.zero_le _, Nat.zero_le _⟩) hA hP hD hS (isC := [0]) rfl [] [0] (br := []) (bs2 := fun _ => [moC E b z g gs ar]) rfl (by decide) (fun _ => rfl) (by decide) (fun r u H locs hw hP hD hS => ?_)
            subst hw
            refine nv_icmp_lt (X := ((sG g i + (g 0 m0) : Nat) : Int)) (Y := ((quo g : Nat) : Int)) hx hb (nI_toInt (by omega)) (nI_toInt (by omega)) (tgt := 65) dX6_decisive_58 (by decide) (fun c_4 => ?_) (fun c_4 => ?_)
            · skip
              have hif : dcB g m0 i = false := by unfold dcB; rw [decide_eq_false (by omega), Bool.and_false]
              refine lv_iconst (v := nI 0) hx hb dX6_decisive_65 (by decide) ?_
              refine nv_iadd hx hb dX6_decisive_66 ?_
              refine lv_istore_n (lv' := [(2, .int (nI (sm (fun q => if dcB g m0 q then 1 else 0) i + 0))), (4, .int (nI (sG g i))), (0, .ref (b 0)), (1, .int (nI m0)), (3, .int (nI i))]) hx hb dX6_decisive_67 rfl hl (by decide) rfl (fun ls hl => ?_)
              have hl : lv_has ls 5 [(2, .int (nI (sm (fun q => if dcB g m0 q then 1 else 0) (i + 1)))), (4, .int (nI (sG g i))), (0, .ref (b 0)), (1, .int (nI m0)), (3, .int (nI i))] := by rw [show sm (fun q => if dcB g m0 q then 1 else 0) (i + 1) = sm (fun q => if dcB g m0 q then 1 else 0) i + 0 from (sm_if_f (q := dcB g m0) (f := fun _ => 1) hif).symm]; exact hl
              refine lv_iinc (v := nI (i + 1)) (lv' := [(3, .int (nI (i + 1))), (2, .int (nI (sm (fun q => if dcB g m0 q then 1 else 0) (i + 1)))), (4, .int (nI (sG g i))), (0, .ref (b 0)), (1, .int (nI m0))]) hx hb dX6_decisive_68 hl (k := 4) rfl (nI_add i 1) (by decide) rfl (fun ls hl => ?_)
              refine lv_goto (tgt := 4) hx hb dX6_decisive_71 (by decide) ?_
              exact ih4 (i + 1) (by omega) (by omega) _ _ _ hP hD hS (lv_sub hl [3, 4, 1, 0] rfl)
            · skip
              have hif : dcB g m0 i = true := by unfold dcB; rw [hbt, decide_eq_true (by omega)]; rfl
              refine lv_iconst (v := nI 1) hx hb dX6_decisive_61 (by decide) ?_
              refine lv_goto (tgt := 66) hx hb dX6_decisive_62 (by decide) ?_
              refine nv_iadd hx hb dX6_decisive_66 ?_
              refine lv_istore_n (lv' := [(2, .int (nI (sm (fun q => if dcB g m0 q then 1 else 0) i + 1))), (4, .int (nI (sG g i))), (0, .ref (b 0)), (1, .int (nI m0)), (3, .int (nI i))]) hx hb dX6_decisive_67 rfl hl (by decide) rfl (fun ls hl => ?_)
              have hl : lv_has ls 5 [(2, .int (nI (sm (fun q => if dcB g m0 q then 1 else 0) (i + 1)))), (4, .int (nI (sG g i))), (0, .ref (b 0)), (1, .int (nI m0)), (3, .int (nI i))] := by rw [show sm (fun q => if dcB g m0 q then 1 else 0) (i + 1) = sm (fun q => if dcB g m0 q then 1 else 0) i + 1 from (sm_if_t (q := dcB g m0) (f := fun _ => 1) hif).symm]; exact hl
              refine lv_iinc (v := nI (i + 1)) (lv' := [(3, .int (nI (i + 1))), (2, .int (nI (sm (fun q => if dcB g m0 q then 1 else 0) (i + 1)))), (4, .int (nI (sG g i))), (0, .ref (b 0)), (1, .int (nI m0))]) hx hb dX6_decisive_68 hl (k := 4) rfl (nI_add i 1) (by decide) rfl (fun ls hl => ?_)
              refine lv_goto (tgt := 4) hx hb dX6_decisive_71 (by decide) ?_
              exact ih4 (i + 1) (by omega) (by omega) _ _ _ hP hD hS (lv_sub hl [3, 4, 1, 0] rfl)
        · skip
          have hbt : i.testBit m0 = true := by cases hb9 : i.testBit m0 with | true => rfl | false => rw [hb9] at c_2; exact absurd c_2 (by decide)
          rw [show sm (fun q => if dcB g m0 q then 1 else 0) i = sm (fun q => if dcB g m0 q then 1 else 0) (i + 1) from sm_if_f (q := dcB g m0) (f := fun _ => 1) (by unfold dcB; rw [hbt]; rfl)] at hl
          refine lv_goto (tgt := 68) hx hb dX6_decisive_25 (by decide) ?_
          refine lv_iinc (v := nI (i + 1)) (lv' := [(3, .int (nI (i + 1))), (0, .ref (b 0)), (1, .int (nI m0)), (2, .int (nI (sm (fun q => if dcB g m0 q then 1 else 0) (i + 1))))]) hx hb dX6_decisive_68 hl (k := 3) rfl (nI_add i 1) (by decide) rfl (fun ls hl => ?_)
          refine lv_goto (tgt := 4) hx hb dX6_decisive_71 (by decide) ?_
          exact ih4 (i + 1) (by omega) (by omega) _ _ _ hP hD hS (lv_sub hl [1, 2, 3, 0] rfl)
  exact loop4 _ 0 (Nat.zero_le _) (Nat.lt_succ_self _) _ _ _ hP hD hS (lv_sub hl [2, 3, 1, 0] rfl)
abbrev rm_X6_due : Room := { frames := 2, cells := 0, slots := 0, locals := 44 }
set_option maxHeartbeats 4000000 in
set_option maxRecDepth 100000 in
theorem c_X6_due (l : Launch) (E : EE) (sz : Nat) (b : Nat → Nat) (z : Nat → Nat) (g : GG) (gs : Nat → GG) (ar : GG) (hC : IC g) (m0 : Nat) (hm : m0 < g 8 0) : MI l yX6_due cX6_due 8 .int rm_X6_due [.ref (b 0), .int (nI m0)] E sz [moC E b z g gs ar] (fun (r : Int32) (_ : Unit) => r = nI (dv g m0)) (fun _ => [moC E b z g gs ar]) 0 0 := by
  refine mi_go (by decide) (Nat.le_of_ble_eq_true rfl) ?_
  intro p e s m below meth c A Q ls hx hb hml hown hts hK hZ hA hsz hP hD hl hret
  have hS : va_S A s.heap s.heap [] := va_S.rf
  have hl : lv_has ls 8 [(0, .ref (b 0)), (1, .int (nI m0))] := hl
  skip
  have hmc := hC.1.1
  have hbu := hC.1.2
  have hT := hC.pos (show 0 < g 8 0 by omega)
  have hsh : allSh g ≤ 50 * g 8 0 := hC.shs (Nat.le_refl _)
  have hmb := hC.2 m0 hm
  have hpr : g 8 2 * g 0 m0 ≤ 300000 * 50 := Nat.mul_le_mul (by omega) (by omega)
  have hdr : ∀ m, dr g m < 1000 := fun m => Nat.lt_of_lt_of_le (dr_lt hT) (by omega)
  have hdq := hC.dqb hT hm
  refine lv_aload_n hx hb dX6_due_0 rfl (lv_at hl 0 rfl) ?_
  refine run_i (S := Unit) (run_V (As := []) (rest := []) (bs := [moC E b z g gs ar]) (cb := [moC E b z g gs ar]) hx hb hml hown hts hK hZ hA (c_X6_allShares l E _ b z g gs ar   hmc) l_X6_68 rfl ⟨⟨rfl, rfl⟩, Nat.le_of_ble_eq_true rfl, Nat.le_of_ble_eq_true rfl⟩ 10 rfl [0] rfl (by decide) rfl hP hD hS hl.1 rfl (Nat.le_of_ble_eq_true rfl) dX6_due_1 ⟨Nat.zero_le _, Nat.zero_le _⟩) hA hP hD hS (isC := [0]) rfl [] [0] (br := []) (bs2 := fun _ => [moC E b z g gs ar]) rfl (by decide) (fun _ => rfl) (by decide) (fun r u H locs hw hP hD hS => ?_)
  subst hw
  refine lv_istore_n (lv' := [(2, .int (nI (allSh g))), (0, .ref (b 0)), (1, .int (nI m0))]) hx hb dX6_due_4 rfl hl (by decide) rfl (fun ls hl => ?_)
  refine lv_aload_n hx hb dX6_due_5 rfl (lv_at hl 1 rfl) ?_
  refine va_get (D := E.1) (ci := 10) (v := .ref (b 1)) (C := RX6) (T := TX6) (N := 20) hx hb hts inX6 hown hK hP 0 rfl rfl 1 (by decide) (hts _ q1435) (fun _ h9 => h9) rfl dX6_due_6 ?_
  refine lv_iconst (v := nI 2) hx hb dX6_due_9 (by decide) ?_
  refine nv_iald (f := (flat g)) (i := 2) (n := 74) hx hb hK hP 1 0 rfl rfl (by omega) (by decide) dX6_due_10 ?_
  refine tp_i (show nI ((flat g) 2) = nI (g 8 2) from rfl) ?_
  refine lv_istore_n (lv' := [(3, .int (nI (g 8 2))), (2, .int (nI (allSh g))), (0, .ref (b 0)), (1, .int (nI m0))]) hx hb dX6_due_11 rfl hl (by decide) rfl (fun ls hl => ?_)
  refine lv_iconst (v := nI 0) hx hb dX6_due_12 (by decide) ?_
  refine lv_istore (lv' := [(4, .int (nI 0)), (3, .int (nI (g 8 2))), (2, .int (nI (allSh g))), (0, .ref (b 0)), (1, .int (nI m0))]) hx hb dX6_due_13 hl (by decide) rfl (fun ls hl => ?_)
  refine lv_aload_n hx hb dX6_due_15 rfl (lv_at hl 3 rfl) ?_
  refine va_get (D := E.1) (ci := 10) (v := .ref (b 1)) (C := RX6) (T := TX6) (N := 20) hx hb hts inX6 hown hK hP 0 rfl rfl 1 (by decide) (hts _ q1435) (fun _ h9 => h9) rfl dX6_due_16 ?_
  refine lv_iconst (v := nI 2) hx hb dX6_due_19 (by decide) ?_
  refine nv_iald (f := (flat g)) (i := 2) (n := 74) hx hb hK hP 1 0 rfl rfl (by omega) (by decide) dX6_due_20 ?_
  refine tp_i (show nI ((flat g) 2) = nI (g 8 2) from rfl) ?_
  refine lv_aload_n hx hb dX6_due_21 rfl (lv_at hl 3 rfl) ?_
  refine lv_iload_n hx hb dX6_due_22 rfl (lv_at hl 4 rfl) ?_
  refine lv_iconst (v := nI 0) hx hb dX6_due_23 (by decide) ?_
  refine run_i (S := Unit) (run_V (As := [.int (nI m0), .int (nI 0)]) (rest := [.int (nI (g 8 2))]) (bs := [moC E b z g gs ar]) (cb := [moC E b z g gs ar]) hx hb hml hown hts hK hZ hA (c_X6_of l E _ b z g gs ar  m0 0 (by omega) (by decide)) l_X6_65 rfl ⟨⟨rfl, rfl⟩, Nat.le_of_ble_eq_true rfl, Nat.le_of_ble_eq_true rfl⟩ 10 rfl [0] rfl (by decide) rfl hP hD hS hl.1 rfl (Nat.le_of_ble_eq_true rfl) dX6_due_24 ⟨Nat.zero_le _, Nat.zero_le _⟩) hA hP hD hS (isC := [0]) rfl [] [0] (br := []) (bs2 := fun _ => [moC E b z g gs ar]) rfl (by decide) (fun _ => rfl) (by decide) (fun r u H locs hw hP hD hS => ?_)
  subst hw
  refine nv_imul hx hb dX6_due_27 ?_
  refine lv_iload_n hx hb dX6_due_28 rfl (lv_at hl 2 rfl) ?_
  refine nv_irem hx hb (by omega) (by omega) (by omega) dX6_due_29 ?_
  refine lv_istore (lv' := [(5, .int (nI (((g 8 2) * (g 0 m0)) % (allSh g)))), (4, .int (nI 0)), (3, .int (nI (g 8 2))), (2, .int (nI (allSh g))), (0, .ref (b 0)), (1, .int (nI m0))]) hx hb dX6_due_30 hl (by decide) rfl (fun ls hl => ?_)
  refine lv_iconst (v := nI 0) hx hb dX6_due_32 (by decide) ?_
  refine lv_istore (lv' := [(6, .int (nI 0)), (5, .int (nI (((g 8 2) * (g 0 m0)) % (allSh g)))), (4, .int (nI 0)), (3, .int (nI (g 8 2))), (2, .int (nI (allSh g))), (0, .ref (b 0)), (1, .int (nI m0))]) hx hb dX6_due_33 hl (by decide) rfl (fun ls hl => ?_)
  have loop35 : ∀ (n : Nat) (i : Nat), (i ≤ g 8 0) → g 8 0 - i < n → ∀ (H : Heap) (locs : List Loc) (ls : Array Slot), va_P E.1 vwCl ([moC E b z g gs ar] : List va_W).flatten H → va_D A ([moC E b z g gs ar] : List va_W).flatten → va_S A s.heap H locs → lv_has ls 8 [(0, .ref (b 0)), (1, .int (nI m0)), (2, .int (nI (allSh g))), (3, .int (nI (g 8 2 - sm (dq g) i))), (4, .int (nI (sm (fun o => if bfr g o m0 then 1 else 0) i))), (5, .int (nI (dr g m0))), (6, .int (nI i))] → W p l e rm_X6_due s m ([.ref (b 0), .int (nI m0)] : List Value).toArray below meth c H locs 0 0 Q (F0 m 35 ls []) := by
    intro n35
    induction n35 with
    | zero => intro i hi hn35; exact absurd hn35 (Nat.not_lt_zero _)
    | succ n35 ih35 =>
      intro i hi hn35 H locs ls hP hD hS hl
      refine lv_iload hx hb dX6_due_35 (lv_at hl 6 rfl) ?_
      refine lv_aload_n hx hb dX6_due_37 rfl (lv_at hl 0 rfl) ?_
      refine va_get (D := E.1) (ci := 10) (v := .ref (b 1)) (C := RX6) (T := TX6) (N := 20) hx hb hts inX6 hown hK hP 0 rfl rfl 1 (by decide) (hts _ q1435) (fun _ h9 => h9) rfl dX6_due_38 ?_
      refine lv_iconst (v := nI 0) hx hb dX6_due_41 (by decide) ?_
      refine nv_iald (f := (flat g)) (i := 0) (n := 74) hx hb hK hP 1 0 rfl rfl (by omega) (by decide) dX6_due_42 ?_
      refine tp_i (show nI ((flat g) 0) = nI (g 8 0) from rfl) ?_
      refine nv_icmp_ge (X := ((i : Nat) : Int)) (Y := ((g 8 0 : Nat) : Int)) hx hb (nI_toInt (by omega)) (nI_toInt (by omega)) (tgt := 119) dX6_due_43 (by decide) (fun c_1 => ?_) (fun c_1 => ?_)
      · skip
        have hri : sm (fun o => if bfr g o m0 then 1 else 0) i = rnk g m0 := by rw [show i = g 8 0 by omega]; rfl
        have hrb2 := rnk_bd hm
        have hlf : g 8 2 - sm (dq g) i = lef g := by rw [show i = g 8 0 by omega]; rfl
        have hl1 := lef_lt hT (show 0 < g 8 0 by omega)
        rw [show sm (fun o => if bfr g o m0 then 1 else 0) i = rnk g m0 from hri] at hl
        rw [show g 8 2 - sm (dq g) i = lef g from hlf] at hl
        refine lv_aload_n hx hb dX6_due_119 rfl (lv_at hl 0 rfl) ?_
        refine va_get (D := E.1) (ci := 10) (v := .ref (b 1)) (C := RX6) (T := TX6) (N := 20) hx hb hts inX6 hown hK hP 0 rfl rfl 1 (by decide) (hts _ q1435) (fun _ h9 => h9) rfl dX6_due_120 ?_
        refine lv_iconst (v := nI 2) hx hb dX6_due_123 (by decide) ?_
        refine nv_iald (f := (flat g)) (i := 2) (n := 74) hx hb hK hP 1 0 rfl rfl (by omega) (by decide) dX6_due_124 ?_
        refine tp_i (show nI ((flat g) 2) = nI (g 8 2) from rfl) ?_
        refine lv_aload_n hx hb dX6_due_125 rfl (lv_at hl 0 rfl) ?_
        refine lv_iload_n hx hb dX6_due_126 rfl (lv_at hl 1 rfl) ?_
        refine lv_iconst (v := nI 0) hx hb dX6_due_127 (by decide) ?_
        refine run_i (S := Unit) (run_V (As := [.int (nI m0), .int (nI 0)]) (rest := [.int (nI (g 8 2))]) (bs := [moC E b z g gs ar]) (cb := [moC E b z g gs ar]) hx hb hml hown hts hK hZ hA (c_X6_of l E _ b z g gs ar  m0 0 (by omega) (by decide)) l_X6_65 rfl ⟨⟨rfl, rfl⟩, Nat.le_of_ble_eq_true rfl, Nat.le_of_ble_eq_true rfl⟩ 10 rfl [0] rfl (by decide) rfl hP hD hS hl.1 rfl (Nat.le_of_ble_eq_true rfl) dX6_due_128 ⟨Nat.zero_le _, Nat.zero_le _⟩) hA hP hD hS (isC := [0]) rfl [] [0] (br := []) (bs2 := fun _ => [moC E b z g gs ar]) rfl (by decide) (fun _ => rfl) (by decide) (fun r u H locs hw hP hD hS => ?_)
        subst hw
        refine nv_imul hx hb dX6_due_131 ?_
        refine lv_iload_n hx hb dX6_due_132 rfl (lv_at hl 2 rfl) ?_
        refine nv_idiv hx hb (by omega) (by omega) (by omega) dX6_due_133 ?_
        refine lv_iload hx hb dX6_due_134 (lv_at hl 4 rfl) ?_
        refine lv_iload_n hx hb dX6_due_136 rfl (lv_at hl 3 rfl) ?_
        refine nv_icmp_ge (X := ((rnk g m0 : Nat) : Int)) (Y := ((lef g : Nat) : Int)) hx hb (nI_toInt (by omega)) (nI_toInt (by omega)) (tgt := 144) dX6_due_137 (by decide) (fun c_2 => ?_) (fun c_2 => ?_)
        · skip
          refine lv_iconst (v := nI 0) hx hb dX6_due_144 (by decide) ?_
          refine nv_iadd hx hb dX6_due_145 ?_
          exact hret _ _ (nI ((((g 8 2) * (g 0 m0)) / (allSh g)) + 0)) () _ _ hP hD hS rfl (by show _ = nI (dv g m0); unfold dv dq; (first | rw [if_pos (by omega)] | rw [if_neg (by omega)])) dX6_due_146
        · skip
          refine lv_iconst (v := nI 1) hx hb dX6_due_140 (by decide) ?_
          refine lv_goto (tgt := 145) hx hb dX6_due_141 (by decide) ?_
          refine nv_iadd hx hb dX6_due_145 ?_
          exact hret _ _ (nI ((((g 8 2) * (g 0 m0)) / (allSh g)) + 1)) () _ _ hP hD hS rfl (by show _ = nI (dv g m0); unfold dv dq; (first | rw [if_pos (by omega)] | rw [if_neg (by omega)])) dX6_due_146
      · skip
        have hmi := hC.2 i (by omega)
        have hpi : g 8 2 * g 0 i ≤ 300000 * 50 := Nat.mul_le_mul (by omega) (by omega)
        have hds := dq_le hT (i := i + 1) (by omega)
        have hde : sm (dq g) (i + 1) = sm (dq g) i + dq g i := rfl
        have hdi : dq g i = g 8 2 * g 0 i / allSh g := rfl
        have hr1 := hdr i
        have hr2 := hdr m0
        refine lv_aload_n hx hb dX6_due_46 rfl (lv_at hl 0 rfl) ?_
        refine va_get (D := E.1) (ci := 10) (v := .ref (b 1)) (C := RX6) (T := TX6) (N := 20) hx hb hts inX6 hown hK hP 0 rfl rfl 1 (by decide) (hts _ q1435) (fun _ h9 => h9) rfl dX6_due_47 ?_
        refine lv_iconst (v := nI 2) hx hb dX6_due_50 (by decide) ?_
        refine nv_iald (f := (flat g)) (i := 2) (n := 74) hx hb hK hP 1 0 rfl rfl (by omega) (by decide) dX6_due_51 ?_
        refine tp_i (show nI ((flat g) 2) = nI (g 8 2) from rfl) ?_
        refine lv_aload_n hx hb dX6_due_52 rfl (lv_at hl 0 rfl) ?_
        refine lv_iload hx hb dX6_due_53 (lv_at hl 6 rfl) ?_
        refine lv_iconst (v := nI 0) hx hb dX6_due_55 (by decide) ?_
        refine run_i (S := Unit) (run_V (As := [.int (nI i), .int (nI 0)]) (rest := [.int (nI (g 8 2))]) (bs := [moC E b z g gs ar]) (cb := [moC E b z g gs ar]) hx hb hml hown hts hK hZ hA (c_X6_of l E _ b z g gs ar  i 0 (by omega) (by decide)) l_X6_65 rfl ⟨⟨rfl, rfl⟩, Nat.le_of_ble_eq_true rfl, Nat.le_of_ble_eq_true rfl⟩ 10 rfl [0] rfl (by decide) rfl hP hD hS hl.1 rfl (Nat.le_of_ble_eq_true rfl) dX6_due_56 ⟨Nat.zero_le _, Nat.zero_le _⟩) hA hP hD hS (isC := [0]) rfl [] [0] (br := []) (bs2 := fun _ => [moC E b z g gs ar]) rfl (by decide) (fun _ => rfl) (by decide) (fun r u H locs hw hP hD hS => ?_)
        subst hw
        refine nv_imul hx hb dX6_due_59 ?_
        refine lv_iload_n hx hb dX6_due_60 rfl (lv_at hl 2 rfl) ?_
        refine nv_irem hx hb (by omega) (by omega) (by omega) dX6_due_61 ?_
        refine lv_istore (lv' := [(7, .int (nI (((g 8 2) * (g 0 i)) % (allSh g)))), (0, .ref (b 0)), (1, .int (nI m0)), (2, .int (nI (allSh g))), (3, .int (nI (g 8 2 - sm (dq g) i))), (4, .int (nI (sm (fun o => if bfr g o m0 then 1 else 0) i))), (5, .int (nI (dr g m0))), (6, .int (nI i))]) hx hb dX6_due_62 hl (by decide) rfl (fun ls hl => ?_)
        have hl : lv_has ls 8 [(7, .int (nI (dr g i))), (0, .ref (b 0)), (1, .int (nI m0)), (2, .int (nI (allSh g))), (3, .int (nI (g 8 2 - sm (dq g) i))), (4, .int (nI (sm (fun o => if bfr g o m0 then 1 else 0) i))), (5, .int (nI (dr g m0))), (6, .int (nI i))] := by rw [show dr g i = ((g 8 2) * (g 0 i)) % (allSh g) from rfl]; exact hl
        refine lv_iload_n hx hb dX6_due_64 rfl (lv_at hl 4 rfl) ?_
        refine lv_aload_n hx hb dX6_due_65 rfl (lv_at hl 1 rfl) ?_
        refine va_get (D := E.1) (ci := 10) (v := .ref (b 1)) (C := RX6) (T := TX6) (N := 20) hx hb hts inX6 hown hK hP 0 rfl rfl 1 (by decide) (hts _ q1435) (fun _ h9 => h9) rfl dX6_due_66 ?_
        refine lv_iconst (v := nI 2) hx hb dX6_due_69 (by decide) ?_
        refine nv_iald (f := (flat g)) (i := 2) (n := 74) hx hb hK hP 1 0 rfl rfl (by omega) (by decide) dX6_due_70 ?_
        refine tp_i (show nI ((flat g) 2) = nI (g 8 2) from rfl) ?_
        refine lv_aload_n hx hb dX6_due_71 rfl (lv_at hl 1 rfl) ?_
        refine lv_iload hx hb dX6_due_72 (lv_at hl 7 rfl) ?_
        refine lv_iconst (v := nI 0) hx hb dX6_due_74 (by decide) ?_
        refine run_i (S := Unit) (run_V (As := [.int (nI i), .int (nI 0)]) (rest := [.int (nI (g 8 2)), .int (nI (g 8 2 - sm (dq g) i))]) (bs := [moC E b z g gs ar]) (cb := [moC E b z g gs ar]) hx hb hml hown hts hK hZ hA (c_X6_of l E _ b z g gs ar  i 0 (by omega) (by decide)) l_X6_65 rfl ⟨⟨rfl, rfl⟩, Nat.le_of_ble_eq_true rfl, Nat.le_of_ble_eq_true rfl⟩ 10 rfl [0] rfl (by decide) rfl hP hD hS hl.1 rfl (Nat.le_of_ble_eq_true rfl) dX6_due_75 ⟨Nat.zero_le _, Nat.zero_le _⟩) hA hP hD hS (isC := [0]) rfl [] [0] (br := []) (bs2 := fun _ => [moC E b z g gs ar]) rfl (by decide) (fun _ => rfl) (by decide) (fun r u H locs hw hP hD hS => ?_)
        subst hw
        refine nv_imul hx hb dX6_due_78 ?_
        refine lv_iload_n hx hb dX6_due_79 rfl (lv_at hl 3 rfl) ?_
        refine nv_idiv hx hb (by omega) (by omega) (by omega) dX6_due_80 ?_
        refine nv_isub hx hb (by omega) dX6_due_81 ?_
        refine lv_istore_n (lv' := [(3, .int (nI ((g 8 2 - sm (dq g) i) - (((g 8 2) * (g 0 i)) / (allSh g))))), (7, .int (nI (dr g i))), (0, .ref (b 0)), (1, .int (nI m0)), (2, .int (nI (allSh g))), (4, .int (nI (sm (fun o => if bfr g o m0 then 1 else 0) i))), (5, .int (nI (dr g m0))), (6, .int (nI i))]) hx hb dX6_due_82 rfl hl (by decide) rfl (fun ls hl => ?_)
        have hl : lv_has ls 8 [(3, .int (nI (g 8 2 - sm (dq g) (i + 1)))), (7, .int (nI (dr g i))), (0, .ref (b 0)), (1, .int (nI m0)), (2, .int (nI (allSh g))), (4, .int (nI (sm (fun o => if bfr g o m0 then 1 else 0) i))), (5, .int (nI (dr g m0))), (6, .int (nI i))] := by rw [show g 8 2 - sm (dq g) (i + 1) = (g 8 2 - sm (dq g) i) - (((g 8 2) * (g 0 i)) / (allSh g)) from by omega]; exact hl
        refine lv_iload hx hb dX6_due_83 (lv_at hl 5 rfl) ?_
        refine lv_iload hx hb dX6_due_85 (lv_at hl 1 rfl) ?_
        refine lv_iload hx hb dX6_due_87 (lv_at hl 6 rfl) ?_
        refine nv_icmp_gt (X := ((dr g i : Nat) : Int)) (Y := ((dr g m0 : Nat) : Int)) hx hb (nI_toInt (by omega)) (nI_toInt (by omega)) (tgt := 105) dX6_due_89 (by decide) (fun c_3 => ?_) (fun c_3 => ?_)
        · skip
          have hif : bfr g i m0 = true := decide_eq_true (by omega)
          refine lv_iconst (v := nI 1) hx hb dX6_due_105 (by decide) ?_
          refine lv_goto (tgt := 110) hx hb dX6_due_106 (by decide) ?_
          refine nv_iadd hx hb dX6_due_110 ?_
          refine lv_istore (lv' := [(4, .int (nI (sm (fun o => if bfr g o m0 then 1 else 0) i + 1))), (3, .int (nI (g 8 2 - sm (dq g) (i + 1)))), (7, .int (nI (dr g i))), (0, .ref (b 0)), (1, .int (nI m0)), (2, .int (nI (allSh g))), (5, .int (nI (dr g m0))), (6, .int (nI i))]) hx hb dX6_due_111 hl (by decide) rfl (fun ls hl => ?_)
          have hl : lv_has ls 8 [(4, .int (nI (sm (fun o => if bfr g o m0 then 1 else 0) (i + 1)))), (3, .int (nI (g 8 2 - sm (dq g) (i + 1)))), (7, .int (nI (dr g i))), (0, .ref (b 0)), (1, .int (nI m0)), (2, .int (nI (allSh g))), (5, .int (nI (dr g m0))), (6, .int (nI i))] := by rw [show sm (fun o => if bfr g o m0 then 1 else 0) (i + 1) = sm (fun o => if bfr g o m0 then 1 else 0) i + 1 from (sm_if_t (q := fun o => bfr g o m0) (f := fun _ => 1) hif).symm]; exact hl
          refine lv_iinc (v := nI (i + 1)) (lv' := [(6, .int (nI (i + 1))), (4, .int (nI (sm (fun o => if bfr g o m0 then 1 else 0) (i + 1)))), (3, .int (nI (g 8 2 - sm (dq g) (i + 1)))), (7, .int (nI (dr g i))), (0, .ref (b 0)), (1, .int (nI m0)), (2, .int (nI (allSh g))), (5, .int (nI (dr g m0)))]) hx hb dX6_due_113 hl (k := 7) rfl (nI_add i 1) (by decide) rfl (fun ls hl => ?_)
          refine lv_goto (tgt := 35) hx hb dX6_due_116 (by decide) ?_
          exact ih35 (i + 1) (by omega) (by omega) _ _ _ hP hD hS (lv_sub hl [4, 5, 6, 2, 1, 7, 0] rfl)
        · skip
          refine lv_iload hx hb dX6_due_92 (lv_at hl 1 rfl) ?_
          refine lv_iload hx hb dX6_due_94 (lv_at hl 6 rfl) ?_
          refine nv_icmp_ne (X := ((dr g i : Nat) : Int)) (Y := ((dr g m0 : Nat) : Int)) hx hb (nI_toInt (by omega)) (nI_toInt (by omega)) (tgt := 109) dX6_due_96 (by decide) (fun c_4 => ?_) (fun c_4 => ?_)
          · skip
            have hif : bfr g i m0 = false := decide_eq_false (by omega)
            refine lv_iconst (v := nI 0) hx hb dX6_due_109 (by decide) ?_
            refine nv_iadd hx hb dX6_due_110 ?_
            refine lv_istore (lv' := [(4, .int (nI (sm (fun o => if bfr g o m0 then 1 else 0) i + 0))), (3, .int (nI (g 8 2 - sm (dq g) (i + 1)))), (7, .int (nI (dr g i))), (0, .ref (b 0)), (1, .int (nI m0)), (2, .int (nI (allSh g))), (5, .int (nI (dr g m0))), (6, .int (nI i))]) hx hb dX6_due_111 hl (by decide) rfl (fun ls hl => ?_)
            have hl : lv_has ls 8 [(4, .int (nI (sm (fun o => if bfr g o m0 then 1 else 0) (i + 1)))), (3, .int (nI (g 8 2 - sm (dq g) (i + 1)))), (7, .int (nI (dr g i))), (0, .ref (b 0)), (1, .int (nI m0)), (2, .int (nI (allSh g))), (5, .int (nI (dr g m0))), (6, .int (nI i))] := by rw [show sm (fun o => if bfr g o m0 then 1 else 0) (i + 1) = sm (fun o => if bfr g o m0 then 1 else 0) i + 0 from (sm_if_f (q := fun o => bfr g o m0) (f := fun _ => 1) hif).symm]; exact hl
            refine lv_iinc (v := nI (i + 1)) (lv' := [(6, .int (nI (i + 1))), (4, .int (nI (sm (fun o => if bfr g o m0 then 1 else 0) (i + 1)))), (3, .int (nI (g 8 2 - sm (dq g) (i + 1)))), (7, .int (nI (dr g i))), (0, .ref (b 0)), (1, .int (nI m0)), (2, .int (nI (allSh g))), (5, .int (nI (dr g m0)))]) hx hb dX6_due_113 hl (k := 7) rfl (nI_add i 1) (by decide) rfl (fun ls hl => ?_)
            refine lv_goto (tgt := 35) hx hb dX6_due_116 (by decide) ?_
            exact ih35 (i + 1) (by omega) (by omega) _ _ _ hP hD hS (lv_sub hl [4, 5, 6, 2, 1, 7, 0] rfl)
          · skip
            refine lv_iload hx hb dX6_due_99 (lv_at hl 7 rfl) ?_
            refine lv_iload_n hx hb dX6_due_101 rfl (lv_at hl 3 rfl) ?_
            refine nv_icmp_ge (X := ((i : Nat) : Int)) (Y := ((m0 : Nat) : Int)) hx hb (nI_toInt (by omega)) (nI_toInt (by omega)) (tgt := 109) dX6_due_102 (by decide) (fun c_5 => ?_) (fun c_5 => ?_)
            · skip
              have hif : bfr g i m0 = false := decide_eq_false (by omega)
              refine lv_iconst (v := nI 0) hx hb dX6_due_109 (by decide) ?_
              refine nv_iadd hx hb dX6_due_110 ?_
              refine lv_istore (lv' := [(4, .int (nI (sm (fun o => if bfr g o m0 then 1 else 0) i + 0))), (3, .int (nI (g 8 2 - sm (dq g) (i + 1)))), (7, .int (nI (dr g i))), (0, .ref (b 0)), (1, .int (nI m0)), (2, .int (nI (allSh g))), (5, .int (nI (dr g m0))), (6, .int (nI i))]) hx hb dX6_due_111 hl (by decide) rfl (fun ls hl => ?_)
              have hl : lv_has ls 8 [(4, .int (nI (sm (fun o => if bfr g o m0 then 1 else 0) (i + 1)))), (3, .int (nI (g 8 2 - sm (dq g) (i + 1)))), (7, .int (nI (dr g i))), (0, .ref (b 0)), (1, .int (nI m0)), (2, .int (nI (allSh g))), (5, .int (nI (dr g m0))), (6, .int (nI i))] := by rw [show sm (fun o => if bfr g o m0 then 1 else 0) (i + 1) = sm (fun o => if bfr g o m0 then 1 else 0) i + 0 from (sm_if_f (q := fun o => bfr g o m0) (f := fun _ => 1) hif).symm]; exact hl
              refine lv_iinc (v := nI (i + 1)) (lv' := [(6, .int (nI (i + 1))), (4, .int (nI (sm (fun o => if bfr g o m0 then 1 else 0) (i + 1)))), (3, .int (nI (g 8 2 - sm (dq g) (i + 1)))), (7, .int (nI (dr g i))), (0, .ref (b 0)), (1, .int (nI m0)), (2, .int (nI (allSh g))), (5, .int (nI (dr g m0)))]) hx hb dX6_due_113 hl (k := 7) rfl (nI_add i 1) (by decide) rfl (fun ls hl => ?_)
              refine lv_goto (tgt := 35) hx hb dX6_due_116 (by decide) ?_
              exact ih35 (i + 1) (by omega) (by omega) _ _ _ hP hD hS (lv_sub hl [4, 5, 6, 2, 1, 7, 0] rfl)
            · skip
              have hif : bfr g i m0 = true := decide_eq_true (by omega)
              refine lv_iconst (v := nI 1) hx hb dX6_due_105 (by decide) ?_
              refine lv_goto (tgt := 110) hx hb dX6_due_106 (by decide) ?_
              refine nv_iadd hx hb dX6_due_110 ?_
              refine lv_istore (lv' := [(4, .int (nI (sm (fun o => if bfr g o m0 then 1 else 0) i + 1))), (3, .int (nI (g 8 2 - sm (dq g) (i + 1)))), (7, .int (nI (dr g i))), (0, .ref (b 0)), (1, .int (nI m0)), (2, .int (nI (allSh g))), (5, .int (nI (dr g m0))), (6, .int (nI i))]) hx hb dX6_due_111 hl (by decide) rfl (fun ls hl => ?_)
              have hl : lv_has ls 8 [(4, .int (nI (sm (fun o => if bfr g o m0 then 1 else 0) (i + 1)))), (3, .int (nI (g 8 2 - sm (dq g) (i + 1)))), (7, .int (nI (dr g i))), (0, .ref (b 0)), (1, .int (nI m0)), (2, .int (nI (allSh g))), (5, .int (nI (dr g m0))), (6, .int (nI i))] := by rw [show sm (fun o => if bfr g o m0 then 1 else 0) (i + 1) = sm (fun o => if bfr g o m0 then 1 else 0) i + 1 from (sm_if_t (q := fun o => bfr g o m0) (f := fun _ => 1) hif).symm]; exact hl
              refine lv_iinc (v := nI (i + 1)) (lv' := [(6, .int (nI (i + 1))), (4, .int (nI (sm (fun o => if bfr g o m0 then 1 else 0) (i + 1)))), (3, .int (nI (g 8 2 - sm (dq g) (i + 1)))), (7, .int (nI (dr g i))), (0, .ref (b 0)), (1, .int (nI m0)), (2, .int (nI (allSh g))), (5, .int (nI (dr g m0)))]) hx hb dX6_due_113 hl (k := 7) rfl (nI_add i 1) (by decide) rfl (fun ls hl => ?_)
              refine lv_goto (tgt := 35) hx hb dX6_due_116 (by decide) ?_
              exact ih35 (i + 1) (by omega) (by omega) _ _ _ hP hD hS (lv_sub hl [4, 5, 6, 2, 1, 7, 0] rfl)
  exact loop35 _ 0 (by omega) (Nat.lt_succ_self _) _ _ _ hP hD hS (lv_sub hl [5, 6, 4, 3, 2, 1, 0] rfl)
