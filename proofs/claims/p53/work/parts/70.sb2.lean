abbrev rm_J7_copyOf_9075b : Room := { frames := 1, cells := 1, slots := 34, locals := 120 }
set_option maxHeartbeats 4000000 in
set_option maxRecDepth 100000 in
theorem c_J7_copyOf_9075b (l : Launch) (E : EE) (sz : Nat) (v cp : Nat) (t : Nat → Nat) (ht : ∀ j, t j < 128) (n0 : Nat) (h : cp < n0) (h2 : n0 ≤ 34)  : MQ2 l yJ7_copyOf_9075b cJ7_copyOf_9075b 3 (.array .byte) rm_J7_copyOf_9075b [.ref v, .int (nI n0)] E sz [baC E v cp t] (fun (u : Nat) => True) (fun u => u) (fun u => [baC E v cp t, baC E u n0 (fun j => if j < cp then t j else 0)]) 1 34 := by
  refine mq_go (by decide) (Nat.le_of_ble_eq_true rfl) (Or.inr ⟨_, rfl⟩) ?_
  intro p e s m below meth c A Q ls hx hb hml hown hts hK hZ hA hsz hP hD hl hret
  have hS : va_S A s.heap s.heap [] := va_S.rf
  have hl : lv_has ls 3 [(0, .ref v), (1, .int (nI n0))] := hl
  skip
  refine lv_iload_n hx hb dJ7_copyOf_9075b_0 rfl (lv_at hl 1 rfl) ?_
  refine lv_aload_n hx hb dJ7_copyOf_9075b_1 rfl (lv_at hl 0 rfl) ?_
  refine va_alen hx hb hK hP 0 2 rfl rfl (v := nI cp) rfl dJ7_copyOf_9075b_2 ?_
  refine nv_icmp_ne (X := ((n0 : Nat) : Int)) (Y := ((cp : Nat) : Int)) hx hb (nI_toInt (by omega)) (nI_toInt (by omega)) (tgt := 14) dJ7_copyOf_9075b_3 (by decide) (fun c_1 => ?_) (fun c_1 => ?_)
  · skip
    refine lv_iload_n hx hb dJ7_copyOf_9075b_14 rfl (lv_at hl 1 rfl) ?_
    refine nv_newt (atype := .byte) hx hb (hts _ q245) rfl hK hP hD hS hA 2 (uq_byte hK) (n := n0) (fun _ => rfl) (by omega) (by show n0 * 1 ≤ _; omega) (by decide) (by show _ + n0 ≤ 34; omega) dJ7_copyOf_9075b_15 (fun q3 H hP hD hS => ?_)
    rw [flat_app] at hP hD
    refine W_widen (k := 1) (n := 34) (Nat.le_refl _) (by show 0 + n0 ≤ 34; omega) ?_
    have hP : va_P E.1 vwCl ([baC E v cp t, baC E q3 n0 (fun _ => 0)] : List va_W).flatten H := hP
    have hD : va_D A ([baC E v cp t, baC E q3 n0 (fun _ => 0)] : List va_W).flatten := hD
    refine lv_astore_n (lv' := [(2, .ref q3), (0, .ref v), (1, .int (nI n0))]) hx hb dJ7_copyOf_9075b_17 rfl hl (by decide) rfl (fun ls hl => ?_)
    refine lv_aload_n hx hb dJ7_copyOf_9075b_18 rfl (lv_at hl 1 rfl) ?_
    refine lv_iconst (v := nI 0) hx hb dJ7_copyOf_9075b_19 (by decide) ?_
    refine lv_aload_n hx hb dJ7_copyOf_9075b_20 rfl (lv_at hl 0 rfl) ?_
    refine lv_iconst (v := nI 0) hx hb dJ7_copyOf_9075b_21 (by decide) ?_
    refine lv_aload_n hx hb dJ7_copyOf_9075b_22 rfl (lv_at hl 1 rfl) ?_
    refine va_alen hx hb hK hP 0 2 rfl rfl (v := nI cp) rfl dJ7_copyOf_9075b_23 ?_
    refine lv_iload_n hx hb dJ7_copyOf_9075b_24 rfl (lv_at hl 2 rfl) ?_
    refine va_mmin hx hb (hml.trans hl.1.symm) hown (hts _ q751) (hts _ q502) (hts _ q39) (hts _ q503) (Nat.le_of_ble_eq_true rfl) (Nat.le_of_ble_eq_true rfl) (Nat.le_of_ble_eq_true rfl) (Nat.le_of_ble_eq_true rfl) dJ7_copyOf_9075b_25 ?_
    refine tp_i (nI_mn (a := cp) (b := n0) (by omega) (by omega)) ?_
    refine tp_i (congrArg nI (if_neg (by omega))) ?_
    refine nv_bcopy (f := t) (g := (fun _ => 0)) (n := cp) (n1 := n0) hx hb (hml.trans hl.1.symm) hown (hts _ q752) (hts _ q478) (hts _ q477) (hts _ q38) hK hP hD hS 0 1 2 rfl rfl rfl (by omega) (by omega) ht (Nat.le_of_ble_eq_true rfl) (by decide +kernel) dJ7_copyOf_9075b_28 (fun H locs hP hD hS => ?_)
    have hP : va_P E.1 vwCl ([baC E v cp t, baC E q3 n0 (fun j => if j < cp then t j else ((fun _ => 0)) j)] : List va_W).flatten H := hP
    have hD : va_D A ([baC E v cp t, baC E q3 n0 (fun j => if j < cp then t j else ((fun _ => 0)) j)] : List va_W).flatten := hD
    refine lv_aload_n hx hb dJ7_copyOf_9075b_31 rfl (lv_at hl 0 rfl) ?_
    exact hret _ _ q3 _ _ _ _ hP hD hS trivial dJ7_copyOf_9075b_32 (by omega) (by omega)
  · exact absurd c_1 (by omega)
abbrev rm_J5_ensureCapacityInternal_d00df : Room := { frames := 3, cells := 1, slots := 34, locals := 142 }
set_option maxHeartbeats 4000000 in
set_option maxRecDepth 100000 in
theorem c_J5_ensureCapacityInternal_d00df (l : Launch) (E : EE) (sz : Nat) (y : Nat → Nat) (v ml n cp : Nat) (t : Nat → Nat) (ht : ∀ j, t j < 128) (hm : cp = 16 ∨ cp = 34) (n0 : Nat) (h : n0 ≤ 34)  : MVx l yJ5_ensureCapacityInternal_d00df cJ5_ensureCapacityInternal_d00df 3 rm_J5_ensureCapacityInternal_d00df [.ref (y 0), .int (nI n0)] E sz [sbO E y v ml n, baC E v cp t] (fun (u : Nat × Nat × (Nat → Nat)) => n0 ≤ u.2.1 ∧ (u.2.1 = 16 ∨ u.2.1 = 34) ∧ (∀ j, u.2.2 j < 128) ∧ ∀ j, j < cp → u.2.2 j = t j) (fun u => [sbO E y u.1 ml n, baC E u.1 u.2.1 u.2.2]) 1 34 := by
  refine mv_gox (by decide) (Nat.le_of_ble_eq_true rfl) ?_
  intro p e s m below meth c A Q ls hx hb hml hown hts hK hZ hDD hA hsz hP hD hl hret hnm
  have hS : va_S A s.heap s.heap [] := va_S.rf
  have hl : lv_has ls 3 [(0, .ref (y 0)), (1, .int (nI n0))] := hl
  skip
  refine lv_aload_n hx hb dJ5_ensureCapacityInternal_d00df_0 rfl (lv_at hl 0 rfl) ?_
  refine va_get (D := E.1) (ci := 1) (v := .ref v) (C := RJ4) (T := TJ4) (N := 4) hx hb hts inJ4 hown hK hP 0 rfl rfl 0 (by decide) (hts _ q231) (fun _ h9 => h9) rfl dJ5_ensureCapacityInternal_d00df_1 ?_
  refine va_alen hx hb hK hP 1 2 rfl rfl (v := nI cp) rfl dJ5_ensureCapacityInternal_d00df_4 ?_
  refine lv_aload_n hx hb dJ5_ensureCapacityInternal_d00df_5 rfl (lv_at hl 0 rfl) ?_
  refine va_get (D := E.1) (ci := 1) (v := .int (nI 0)) (C := RJ4) (T := TJ4) (N := 4) hx hb hts inJ4 hown hK hP 0 rfl rfl 1 (by decide) (hts _ q232) (fun _ h9 => h9) rfl dJ5_ensureCapacityInternal_d00df_6 ?_
  refine nv_ishr hx hb (by omega) (by omega) dJ5_ensureCapacityInternal_d00df_9 ?_
  refine tp_i (congrArg nI (Nat.div_one _)) ?_
  refine lv_istore_n (lv' := [(2, .int (nI cp)), (0, .ref (y 0)), (1, .int (nI n0))]) hx hb dJ5_ensureCapacityInternal_d00df_10 rfl hl (by decide) rfl (fun ls hl => ?_)
  refine lv_iload_n hx hb dJ5_ensureCapacityInternal_d00df_11 rfl (lv_at hl 2 rfl) ?_
  refine lv_iload_n hx hb dJ5_ensureCapacityInternal_d00df_12 rfl (lv_at hl 0 rfl) ?_
  refine lv_isub hx hb dJ5_ensureCapacityInternal_d00df_13 ?_
  refine nv_if_le (X := (n0 : Int) - (cp : Int)) hx hb (isub_t (nI_toInt (by omega)) (nI_toInt (by omega)) (by omega) (by omega)) (tgt := 38) dJ5_ensureCapacityInternal_d00df_14 (by decide) (fun c_1 => ?_) (fun c_1 => ?_)
  · skip
    exact W_widen (by omega) (by omega) (hret _ _ (v, cp, t) _ _ hP hD hS ⟨by show n0 ≤ cp; omega, hm, ht, fun _ _ => rfl⟩ dJ5_ensureCapacityInternal_d00df_38)
  · skip
    obtain rfl : cp = 16 := by omega
    refine lv_aload_n hx hb dJ5_ensureCapacityInternal_d00df_17 rfl (lv_at hl 1 rfl) ?_
    refine lv_aload_n hx hb dJ5_ensureCapacityInternal_d00df_18 rfl (lv_at hl 1 rfl) ?_
    refine va_get (D := E.1) (ci := 1) (v := .ref v) (C := RJ4) (T := TJ4) (N := 4) hx hb hts inJ4 hown hK hP 0 rfl rfl 0 (by decide) (hts _ q231) (fun _ h9 => h9) rfl dJ5_ensureCapacityInternal_d00df_19 ?_
    refine lv_aload_n hx hb dJ5_ensureCapacityInternal_d00df_22 rfl (lv_at hl 1 rfl) ?_
    refine lv_iload_n hx hb dJ5_ensureCapacityInternal_d00df_23 rfl (lv_at hl 2 rfl) ?_
    refine run_i (S := Unit) (run_P (As := [.int (nI n0)]) (rest := [.ref v, .ref (y 0)]) (bs := [sbO E y v ml n, baC E v 16 t]) (cb := [sbO E y v ml n, baC E v 16 t]) hx hb hml hown hts hK hZ hA (c_J5_newCapacity_0f7a4 l E _ y v ml n t n0 (by omega) (by omega)) l_J5_104 (hDD.sel (List.mem_cons_of_mem _ List.mem_cons_self)) rfl ⟨⟨rfl, rfl⟩, Nat.le_of_ble_eq_true rfl, Nat.le_of_ble_eq_true rfl⟩ [0, 1] rfl (by decide) rfl hP hD hS hl.1 rfl (Nat.le_of_ble_eq_true rfl) dJ5_ensureCapacityInternal_d00df_24 ⟨Nat.zero_le _, Nat.zero_le _⟩) hA hP hD hS (isC := [0, 1]) rfl [] [0, 1] (br := []) (bs2 := fun _ => [sbO E y v ml n, baC E v 16 t]) rfl (by decide) (fun _ => rfl) (by decide) (fun r u H locs hw hP hD hS => ?_)
    subst hw
    refine lv_aload_n hx hb dJ5_ensureCapacityInternal_d00df_27 rfl (lv_at hl 1 rfl) ?_
    refine va_get (D := E.1) (ci := 1) (v := .int (nI 0)) (C := RJ4) (T := TJ4) (N := 4) hx hb hts inJ4 hown hK hP 0 rfl rfl 1 (by decide) (hts _ q232) (fun _ h9 => h9) rfl dJ5_ensureCapacityInternal_d00df_28 ?_
    refine nv_ishl hx hb (by omega) (by omega) dJ5_ensureCapacityInternal_d00df_31 ?_
    refine tp_i (congrArg nI (Nat.mul_one _)) ?_
    refine run_q (S := Nat) (run_S (As := [.ref v, .int (nI 34)]) (rest := [.ref (y 0)]) (bs := [sbO E y v ml n, baC E v 16 t]) (cb := [baC E v 16 t]) hx hb hml hown hts hK hZ hA (c_J7_copyOf_9075b l E _ v 16 t ht 34 (by omega) (by omega)) l_J5_108 rfl ⟨⟨rfl, rfl⟩, Nat.le_of_ble_eq_true rfl, Nat.le_of_ble_eq_true rfl⟩ [1] rfl (by decide) hP hD hS hl.1 rfl (Nat.le_of_ble_eq_true rfl) dJ5_ensureCapacityInternal_d00df_32 ⟨Nat.le_of_ble_eq_true rfl, Nat.le_of_ble_eq_true rfl⟩) hA hP hD hS (isC := [1]) rfl [0] [0, 1, 2] (br := [sbO E y v ml n]) (bs2 := fun u => [sbO E y v ml n, baC E v 16 t, baC E u 34 (fun j => if j < 16 then t j else 0)]) rfl (by decide) (fun _ => rfl) (by decide) (fun q3 H locs hw hP hD hS => ?_)
    refine va_put (D := E.1) (ci := 1) (v := .ref q3) (ty := .array .byte) (C := RJ4) (T := TJ4) (N := 4) hx hb hts inJ4 tyJ4 tyJ4_ok nmJ4 hown hK hP hD hS 0 rfl rfl 0 (by decide) (hts _ q231) (fun _ h9 => h9) rfl (by decide +kernel) rfl rfl (Nat.le_of_ble_eq_true rfl) dJ5_ensureCapacityInternal_d00df_35 (fun H locs hP hD hS => ?_)
    have hP : va_P E.1 vwCl ([sbO E y q3 ml n, baC E v 16 t, baC E q3 34 (fun j => if j < 16 then t j else 0)] : List va_W).flatten H := hP
    have hD : va_D A ([sbO E y q3 ml n, baC E v 16 t, baC E q3 34 (fun j => if j < 16 then t j else 0)] : List va_W).flatten := hD
    have hP : va_P E.1 vwCl ([sbO E y q3 ml n, baC E q3 34 (fun j => if j < 16 then t j else 0)] : List va_W).flatten H := bk_P (ks := [0, 2]) rfl hP
    have hD : va_D A ([sbO E y q3 ml n, baC E q3 34 (fun j => if j < 16 then t j else 0)] : List va_W).flatten := bk_pick (ks := [0, 2]) rfl (by decide) hD
    exact W_widen (by omega) (by omega) (hret _ _ (q3, 34, (fun j => if j < 16 then t j else 0)) _ _ hP hD hS ⟨h, Or.inr rfl, fun j => by show (if j < 16 then t j else 0) < 128; split; exact ht j; decide, fun j hj => if_pos hj⟩ dJ5_ensureCapacityInternal_d00df_38)
