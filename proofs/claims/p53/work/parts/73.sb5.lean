theorem dgs_2le {n : Nat} (h : n ≤ 99) : (dgs n).length ≤ 2 := by
  by_cases c : n ≤ 9
  · rw [dgs_1 c]; exact Nat.le_of_ble_eq_true rfl
  · rw [dgs_2 (by omega) h]; exact Nat.le_of_ble_eq_true rfl
theorem and255 {x : Nat} (h : x < 128) : x &&& 255 = x := by rw [show (255 : Nat) = 2 ^ 8 - 1 from rfl, Nat.and_two_pow_sub_one_eq_mod, Nat.mod_eq_of_lt (by omega)]
abbrev rm_J5_append_c97b9 : Room := { frames := 4, cells := 1, slots := 34, locals := 164 }
set_option maxHeartbeats 4000000 in
set_option maxRecDepth 100000 in
theorem c_J5_append_c97b9 (l : Launch) (E : EE) (sz : Nat) (y : Nat → Nat) (v ml cp : Nat) (t : Nat → Nat) (L : List Nat) (ht : ∀ j, t j < 128) (hm : cp = 16 ∨ cp = 34) (hL : TX t L) (hn : L.length ≤ cp) (n0 : Nat) (hv : n0 < 1000000) (h34 : L.length + (dgs n0).length ≤ 34)  : MQx l yJ5_append_c97b9 cJ5_append_c97b9 4 (.object "java/lang/AbstractStringBuilder") rm_J5_append_c97b9 [.ref (y 0), .int (nI n0)] E sz [sbO E y v ml L.length, baC E v cp t] (fun (u : Nat × Nat × (Nat → Nat)) => TX u.2.2 (L ++ dgs n0) ∧ (L ++ dgs n0).length ≤ u.2.1 ∧ (u.2.1 = 16 ∨ u.2.1 = 34) ∧ (∀ j, u.2.2 j < 128)) (fun u => y 0) (fun u => [sbO E y u.1 ml (L ++ dgs n0).length, baC E u.1 u.2.1 u.2.2]) 1 34 := by
  refine mq_gox (by decide) (Nat.le_of_ble_eq_true rfl) (Or.inl ⟨_, rfl⟩) ?_
  intro p e s m below meth c A Q ls hx hb hml hown hts hK hZ hDD hA hsz hP hD hl hret
  have hS : va_S A s.heap s.heap [] := va_S.rf
  have hl : lv_has ls 4 [(0, .ref (y 0)), (1, .int (nI n0))] := hl
  skip
  refine lv_aload_n hx hb dJ5_append_c97b9_0 rfl (lv_at hl 0 rfl) ?_
  refine va_get (D := E.1) (ci := 1) (v := .int (nI L.length)) (C := RJ4) (T := TJ4) (N := 4) hx hb hts inJ4 hown hK hP 0 rfl rfl 3 (by decide) (hts _ q235) (fun _ h9 => h9) rfl dJ5_append_c97b9_1 ?_
  refine lv_istore_n (lv' := [(2, .int (nI L.length)), (0, .ref (y 0)), (1, .int (nI n0))]) hx hb dJ5_append_c97b9_4 rfl hl (by decide) rfl (fun ls hl => ?_)
  refine lv_iload_n hx hb dJ5_append_c97b9_5 rfl (lv_at hl 0 rfl) ?_
  refine lv_iload_n hx hb dJ5_append_c97b9_6 rfl (lv_at hl 2 rfl) ?_
  refine run_i (S := Unit) (run_S (As := [.int (nI n0)]) (rest := [.int (nI L.length)]) (bs := [sbO E y v ml L.length, baC E v cp t]) (cb := []) hx hb hml hown hts hK hZ hA (c_J6_stringSize_0f7a4 l E _ n0 (by omega)) l_J5_245 rfl ⟨⟨rfl, rfl⟩, Nat.le_of_ble_eq_true rfl, Nat.le_of_ble_eq_true rfl⟩ [] rfl (by decide) hP hD hS hl.1 rfl (Nat.le_of_ble_eq_true rfl) dJ5_append_c97b9_7 ⟨Nat.zero_le _, Nat.zero_le _⟩) hA hP hD hS (isC := []) rfl [0, 1] [0, 1] (br := [sbO E y v ml L.length, baC E v cp t]) (bs2 := fun _ => [sbO E y v ml L.length, baC E v cp t]) rfl (by decide) (fun _ => rfl) (by decide) (fun r u H locs hw hP hD hS => ?_)
  subst hw
  have hdl6 := dgs_len (n := n0)
  refine nv_iadd hx hb dJ5_append_c97b9_10 ?_
  refine lv_istore_n (lv' := [(3, .int (nI (L.length + ((dgs n0).length)))), (2, .int (nI L.length)), (0, .ref (y 0)), (1, .int (nI n0))]) hx hb dJ5_append_c97b9_11 rfl hl (by decide) rfl (fun ls hl => ?_)
  refine lv_aload_n hx hb dJ5_append_c97b9_12 rfl (lv_at hl 2 rfl) ?_
  refine lv_iload_n hx hb dJ5_append_c97b9_13 rfl (lv_at hl 0 rfl) ?_
  refine run_v (S := Nat × Nat × (Nat → Nat)) (run_Px (As := [.int (nI (L.length + ((dgs n0).length)))]) (rest := []) (bs := [sbO E y v ml L.length, baC E v cp t]) (cb := [sbO E y v ml L.length, baC E v cp t]) hx hb hml hown hts hK hZ hDD hA (c_J5_ensureCapacityInternal_d00df l E _ y v ml L.length cp t ht hm (L.length + ((dgs n0).length)) (by omega)) l_J5_100 (hDD.sel List.mem_cons_self) rfl ⟨⟨rfl, rfl⟩, Nat.le_of_ble_eq_true rfl, Nat.le_of_ble_eq_true rfl⟩ [0, 1] rfl (by decide) rfl hP hD hS hl.1 rfl (Nat.le_of_ble_eq_true rfl) dJ5_append_c97b9_14 ⟨Nat.le_of_ble_eq_true rfl, Nat.le_of_ble_eq_true rfl⟩) hA hP hD hS (isC := [0, 1]) rfl [] [0, 1] (br := []) (bs2 := fun u => [sbO E y u.1 ml L.length, baC E u.1 u.2.1 u.2.2]) rfl (by decide) (fun _ => rfl) (by decide) (fun u H locs hw hP hD hS => ?_)
  obtain ⟨v_1, cp_2, t_3⟩ := u
  obtain ⟨he1, he2, he3, he4⟩ := hw
  have he1 : (L.length + ((dgs n0).length)) ≤ cp_2 := he1
  have he2 : cp_2 = 16 ∨ cp_2 = 34 := he2
  have he3 : ∀ j, t_3 j < 128 := he3
  have he4 : ∀ j, j < cp → t_3 j = t j := he4
  have hP : va_P E.1 vwCl ([sbO E y v_1 ml L.length, baC E v_1 cp_2 t_3] : List va_W).flatten H := hP
  have hD : va_D A ([sbO E y v_1 ml L.length, baC E v_1 cp_2 t_3] : List va_W).flatten := hD
  refine lv_aload_n hx hb dJ5_append_c97b9_17 rfl (lv_at hl 2 rfl) ?_
  refine run_i (S := Unit) (run_P (As := []) (rest := []) (bs := [sbO E y v_1 ml L.length, baC E v_1 cp_2 t_3]) (cb := [sbO E y v_1 ml L.length]) hx hb hml hown hts hK hZ hA (c_J5_isLatin1_aae02 l E _ y v_1 ml L.length) l_J5_83 (hts _ q756) rfl ⟨⟨rfl, rfl⟩, Nat.le_of_ble_eq_true rfl, Nat.le_of_ble_eq_true rfl⟩ [0] rfl (by decide) rfl hP hD hS hl.1 rfl (Nat.le_of_ble_eq_true rfl) dJ5_append_c97b9_18 ⟨Nat.le_of_ble_eq_true rfl, Nat.le_of_ble_eq_true rfl⟩) hA hP hD hS (isC := [0]) rfl [1] [1, 0] (br := [baC E v_1 cp_2 t_3]) (bs2 := fun _ => [sbO E y v_1 ml L.length, baC E v_1 cp_2 t_3]) rfl (by decide) (fun _ => rfl) (by decide) (fun r u H locs hw hP hD hS => ?_)
  subst hw
  refine bv_if_eq hx hb (tgt := 37) dJ5_append_c97b9_21 (by decide) (fun c_4 => ?_) (fun c_4 => ?_)
  · exact absurd c_4 (by decide)
  · skip
    refine lv_iload_n hx hb dJ5_append_c97b9_24 rfl (lv_at hl 3 rfl) ?_
    refine lv_iload_n hx hb dJ5_append_c97b9_25 rfl (lv_at hl 0 rfl) ?_
    refine lv_aload_n hx hb dJ5_append_c97b9_26 rfl (lv_at hl 2 rfl) ?_
    refine va_get (D := E.1) (ci := 1) (v := .ref v_1) (C := RJ4) (T := TJ4) (N := 4) hx hb hts inJ4 hown hK hP 0 rfl rfl 0 (by decide) (hts _ q231) (fun _ h9 => h9) rfl dJ5_append_c97b9_27 ?_
    refine run_i (S := Nat → Nat) (run_S (As := [.int (nI n0), .int (nI (L.length + ((dgs n0).length))), .ref v_1]) (rest := []) (bs := [sbO E y v_1 ml L.length, baC E v_1 cp_2 t_3]) (cb := [baC E v_1 cp_2 t_3]) hx hb hml hown hts hK hZ hA (c_J6_getChars_ba4f3 l E _ v_1 cp_2 t_3 he3 n0 (L.length + ((dgs n0).length)) hv (by omega) (by omega) (by omega)) l_J5_248 rfl ⟨⟨rfl, rfl⟩, Nat.le_of_ble_eq_true rfl, Nat.le_of_ble_eq_true rfl⟩ [1] rfl (by decide) hP hD hS hl.1 rfl (Nat.le_of_ble_eq_true rfl) dJ5_append_c97b9_30 ⟨Nat.le_of_ble_eq_true rfl, Nat.le_of_ble_eq_true rfl⟩) hA hP hD hS (isC := [1]) rfl [0] [0, 1] (br := [sbO E y v_1 ml L.length]) (bs2 := fun u => [sbO E y v_1 ml L.length, baC E v_1 cp_2 u]) rfl (by decide) (fun _ => rfl) (by decide) (fun r t_5 H locs hw hP hD hS => ?_)
    obtain ⟨hr9, hg1, hg2, hg3⟩ := hw
    subst hr9
    have hP : va_P E.1 vwCl ([sbO E y v_1 ml L.length, baC E v_1 cp_2 t_5] : List va_W).flatten H := hP
    have hD : va_D A ([sbO E y v_1 ml L.length, baC E v_1 cp_2 t_5] : List va_W).flatten := hD
    refine lv_pop hx hb dJ5_append_c97b9_33 rfl ?_
    refine lv_goto (tgt := 48) hx hb dJ5_append_c97b9_34 (by decide) ?_
    refine lv_aload_n hx hb dJ5_append_c97b9_48 rfl (lv_at hl 2 rfl) ?_
    refine lv_iload_n hx hb dJ5_append_c97b9_49 rfl (lv_at hl 0 rfl) ?_
    refine va_put (D := E.1) (ci := 1) (v := .int (nI (L.length + ((dgs n0).length)))) (ty := .int) (C := RJ4) (T := TJ4) (N := 4) hx hb hts inJ4 tyJ4 tyJ4_ok nmJ4 hown hK hP hD hS 0 rfl rfl 3 (by decide) (hts _ q235) (fun _ h9 => h9) rfl (by decide +kernel) rfl rfl (Nat.le_of_ble_eq_true rfl) dJ5_append_c97b9_50 (fun H locs hP hD hS => ?_)
    have hP : va_P E.1 vwCl ([sbO E y v_1 ml (L.length + ((dgs n0).length)), baC E v_1 cp_2 t_5] : List va_W).flatten H := hP
    have hD : va_D A ([sbO E y v_1 ml (L.length + ((dgs n0).length)), baC E v_1 cp_2 t_5] : List va_W).flatten := hD
    refine lv_aload_n hx hb dJ5_append_c97b9_53 rfl (lv_at hl 2 rfl) ?_
    rw [show sbO E y v_1 ml (L.length + ((dgs n0).length)) = sbO E y v_1 ml ((L ++ dgs n0).length) from by rw [List.length_append]] at hP hD
    exact hret _ _ (v_1, cp_2, t_5) _ _ _ _ hP hD hS ⟨TX_app (fun j hj => (hg2 j (by omega)).trans ((he4 j (by omega)).trans (hL j hj))) (fun i hi => by have h9 := hg1 i hi; rw [show L.length + (dgs n0).length - (dgs n0).length = L.length by omega] at h9; exact h9), by rw [List.length_append]; exact he1, he2, hg3⟩ dJ5_append_c97b9_54 (by omega) (by omega)
abbrev rm_J4_append_bf812 : Room := { frames := 5, cells := 1, slots := 34, locals := 187 }
set_option maxHeartbeats 4000000 in
set_option maxRecDepth 100000 in
theorem c_J4_append_bf812 (l : Launch) (E : EE) (sz : Nat) (y : Nat → Nat) (v ml cp : Nat) (t : Nat → Nat) (L : List Nat) (ht : ∀ j, t j < 128) (hm : cp = 16 ∨ cp = 34) (hL : TX t L) (hn : L.length ≤ cp) (n0 : Nat) (hv : n0 < 1000000) (h34 : L.length + (dgs n0).length ≤ 34)  : MQx l yJ4_append_bf812 cJ4_append_bf812 2 (.object "java/lang/StringBuilder") rm_J4_append_bf812 [.ref (y 0), .int (nI n0)] E sz [sbO E y v ml L.length, baC E v cp t] (fun (u : Nat × Nat × (Nat → Nat)) => TX u.2.2 (L ++ dgs n0) ∧ (L ++ dgs n0).length ≤ u.2.1 ∧ (u.2.1 = 16 ∨ u.2.1 = 34) ∧ (∀ j, u.2.2 j < 128)) (fun u => y 0) (fun u => [sbO E y u.1 ml (L ++ dgs n0).length, baC E u.1 u.2.1 u.2.2]) 1 34 := by
  refine mq_gox (by decide) (Nat.le_of_ble_eq_true rfl) (Or.inl ⟨_, rfl⟩) ?_
  intro p e s m below meth c A Q ls hx hb hml hown hts hK hZ hDD hA hsz hP hD hl hret
  have hS : va_S A s.heap s.heap [] := va_S.rf
  have hl : lv_has ls 2 [(0, .ref (y 0)), (1, .int (nI n0))] := hl
  skip
  refine lv_aload_n hx hb dJ4_append_bf812_0 rfl (lv_at hl 0 rfl) ?_
  refine lv_iload_n hx hb dJ4_append_bf812_1 rfl (lv_at hl 1 rfl) ?_
  refine run_q (S := Nat × Nat × (Nat → Nat)) (run_SUx (As := [.int (nI n0)]) (rest := []) (bs := [sbO E y v ml L.length, baC E v cp t]) (cb := [sbO E y v ml L.length, baC E v cp t]) hx hb hml hown hts hK hZ hDD hA (c_J5_append_c97b9 l E _ y v ml cp t L ht hm hL hn n0 hv h34) l_J4_53 rfl ⟨⟨rfl, rfl⟩, Nat.le_of_ble_eq_true rfl, Nat.le_of_ble_eq_true rfl⟩ [0, 1] rfl (by decide) rfl hP hD hS hl.1 rfl (Nat.le_of_ble_eq_true rfl) dJ4_append_bf812_2 ⟨Nat.le_of_ble_eq_true rfl, Nat.le_of_ble_eq_true rfl⟩) hA hP hD hS (isC := [0, 1]) rfl [] [0, 1] (br := []) (bs2 := fun u => [sbO E y u.1 ml ((L ++ dgs n0).length), baC E u.1 u.2.1 u.2.2]) rfl (by decide) (fun _ => rfl) (by decide) (fun ⟨v_1, cp_2, t_3⟩ H locs hw hP hD hS => ?_)
  obtain ⟨hLq_4, hnq_4, hmq_4, htq_4⟩ := hw
  have hnq_4 : (L ++ dgs n0).length ≤ cp_2 := hnq_4
  have hmq_4 : cp_2 = 16 ∨ cp_2 = 34 := hmq_4
  have htq_4 : ∀ j, t_3 j < 128 := htq_4
  have hLq_4 : TX t_3 (L ++ dgs n0) := hLq_4
  have hP : va_P E.1 vwCl ([sbO E y v_1 ml ((L ++ dgs n0).length), baC E v_1 cp_2 t_3] : List va_W).flatten H := hP
  have hD : va_D A ([sbO E y v_1 ml ((L ++ dgs n0).length), baC E v_1 cp_2 t_3] : List va_W).flatten := hD
  refine lv_pop hx hb dJ4_append_bf812_5 rfl ?_
  refine lv_aload_n hx hb dJ4_append_bf812_6 rfl (lv_at hl 0 rfl) ?_
  exact hret _ _ (v_1, cp_2, t_3) _ _ _ _ hP hD hS ⟨hLq_4, hnq_4, hmq_4, htq_4⟩ dJ4_append_bf812_7 (by omega) (by omega)
abbrev rm_J5_setLength_d00df : Room := { frames := 4, cells := 1, slots := 34, locals := 164 }
set_option maxHeartbeats 4000000 in
set_option maxRecDepth 100000 in
theorem c_J5_setLength_d00df (l : Launch) (E : EE) (sz : Nat) (y : Nat → Nat) (v ml n cp : Nat) (t : Nat → Nat) (ht : ∀ j, t j < 128) (hm : cp = 16 ∨ cp = 34) (hn9 : n ≤ 34)  : MVx l yJ5_setLength_d00df cJ5_setLength_d00df 2 rm_J5_setLength_d00df [.ref (y 0), .int (nI 0)] E sz [sbO E y v ml n, baC E v cp t] (fun (u : Nat × Nat × Nat × (Nat → Nat)) => (u.2.2.1 = 16 ∨ u.2.2.1 = 34) ∧ ∀ j, u.2.2.2 j < 128) (fun u => [sbO E y u.1 u.2.1 0, baC E u.1 u.2.2.1 u.2.2.2]) 1 34 := by
  refine mv_gox (by decide) (Nat.le_of_ble_eq_true rfl) ?_
  intro p e s m below meth c A Q ls hx hb hml hown hts hK hZ hDD hA hsz hP hD hl hret hnm
  have hS : va_S A s.heap s.heap [] := va_S.rf
  have hl : lv_has ls 2 [(0, .ref (y 0)), (1, .int (nI 0))] := hl
  skip
  refine lv_iload_n hx hb dJ5_setLength_d00df_0 rfl (lv_at hl 1 rfl) ?_
  refine nv_if_ge (X := ((0 : Nat) : Int)) hx hb (nI_toInt (by omega)) (tgt := 13) dJ5_setLength_d00df_1 (by decide) (fun c_1 => ?_) (fun c_1 => ?_)
  · skip
    refine lv_aload_n hx hb dJ5_setLength_d00df_13 rfl (lv_at hl 0 rfl) ?_
    refine lv_iload_n hx hb dJ5_setLength_d00df_14 rfl (lv_at hl 1 rfl) ?_
    refine run_v (S := Nat × Nat × (Nat → Nat)) (run_Px (As := [.int (nI 0)]) (rest := []) (bs := [sbO E y v ml n, baC E v cp t]) (cb := [sbO E y v ml n, baC E v cp t]) hx hb hml hown hts hK hZ hDD hA (c_J5_ensureCapacityInternal_d00df l E _ y v ml n cp t ht hm 0 (by omega)) l_J5_100 (hDD.sel List.mem_cons_self) rfl ⟨⟨rfl, rfl⟩, Nat.le_of_ble_eq_true rfl, Nat.le_of_ble_eq_true rfl⟩ [0, 1] rfl (by decide) rfl hP hD hS hl.1 rfl (Nat.le_of_ble_eq_true rfl) dJ5_setLength_d00df_15 ⟨Nat.le_of_ble_eq_true rfl, Nat.le_of_ble_eq_true rfl⟩) hA hP hD hS (isC := [0, 1]) rfl [] [0, 1] (br := []) (bs2 := fun u => [sbO E y u.1 ml n, baC E u.1 u.2.1 u.2.2]) rfl (by decide) (fun _ => rfl) (by decide) (fun u H locs hw hP hD hS => ?_)
    obtain ⟨v_2, cp_3, t_4⟩ := u
    obtain ⟨he1, he2, he3, he4⟩ := hw
    have he1 : 0 ≤ cp_3 := he1
    have he2 : cp_3 = 16 ∨ cp_3 = 34 := he2
    have he3 : ∀ j, t_4 j < 128 := he3
    have he4 : ∀ j, j < cp → t_4 j = t j := he4
    have hP : va_P E.1 vwCl ([sbO E y v_2 ml n, baC E v_2 cp_3 t_4] : List va_W).flatten H := hP
    have hD : va_D A ([sbO E y v_2 ml n, baC E v_2 cp_3 t_4] : List va_W).flatten := hD
    refine lv_aload_n hx hb dJ5_setLength_d00df_18 rfl (lv_at hl 0 rfl) ?_
    refine va_get (D := E.1) (ci := 1) (v := .int (nI n)) (C := RJ4) (T := TJ4) (N := 4) hx hb hts inJ4 hown hK hP 0 rfl rfl 3 (by decide) (hts _ q235) (fun _ h9 => h9) rfl dJ5_setLength_d00df_19 ?_
    refine lv_iload_n hx hb dJ5_setLength_d00df_22 rfl (lv_at hl 1 rfl) ?_
    refine nv_icmp_ge (X := ((n : Nat) : Int)) (Y := ((0 : Nat) : Int)) hx hb (nI_toInt (by omega)) (nI_toInt (by omega)) (tgt := 63) dJ5_setLength_d00df_23 (by decide) (fun c_5 => ?_) (fun c_5 => ?_)
    · skip
      refine lv_aload_n hx hb dJ5_setLength_d00df_63 rfl (lv_at hl 0 rfl) ?_
      refine va_get (D := E.1) (ci := 1) (v := .int (nI n)) (C := RJ4) (T := TJ4) (N := 4) hx hb hts inJ4 hown hK hP 0 rfl rfl 3 (by decide) (hts _ q235) (fun _ h9 => h9) rfl dJ5_setLength_d00df_64 ?_
      refine lv_iload_n hx hb dJ5_setLength_d00df_67 rfl (lv_at hl 1 rfl) ?_
      refine nv_icmp_le (X := ((n : Nat) : Int)) (Y := ((0 : Nat) : Int)) hx hb (nI_toInt (by omega)) (nI_toInt (by omega)) (tgt := 76) dJ5_setLength_d00df_68 (by decide) (fun c_6 => ?_) (fun c_6 => ?_)
      · skip
        refine lv_aload_n hx hb dJ5_setLength_d00df_76 rfl (lv_at hl 0 rfl) ?_
        refine lv_iload_n hx hb dJ5_setLength_d00df_77 rfl (lv_at hl 1 rfl) ?_
        refine va_put (D := E.1) (ci := 1) (v := .int (nI 0)) (ty := .int) (C := RJ4) (T := TJ4) (N := 4) hx hb hts inJ4 tyJ4 tyJ4_ok nmJ4 hown hK hP hD hS 0 rfl rfl 3 (by decide) (hts _ q235) (fun _ h9 => h9) rfl (by decide +kernel) rfl rfl (Nat.le_of_ble_eq_true rfl) dJ5_setLength_d00df_78 (fun H locs hP hD hS => ?_)
        have hP : va_P E.1 vwCl ([sbO E y v_2 ml 0, baC E v_2 cp_3 t_4] : List va_W).flatten H := hP
        have hD : va_D A ([sbO E y v_2 ml 0, baC E v_2 cp_3 t_4] : List va_W).flatten := hD
        exact W_widen (by omega) (by omega) (hret _ _ (v_2, ml, cp_3, t_4) _ _ hP hD hS ⟨he2, he3⟩ dJ5_setLength_d00df_81)
      · skip
        refine lv_aload_n hx hb dJ5_setLength_d00df_71 rfl (lv_at hl 0 rfl) ?_
        refine lv_iconst (v := nI 1) hx hb dJ5_setLength_d00df_72 (by decide) ?_
        refine va_put (D := E.1) (ci := 1) (v := .int (nI 1)) (ty := .boolean) (C := RJ4) (T := TJ4) (N := 4) hx hb hts inJ4 tyJ4 tyJ4_ok nmJ4 hown hK hP hD hS 0 rfl rfl 2 (by decide) (hts _ q233) (fun _ h9 => h9) rfl (by decide +kernel) (by decide) rfl (Nat.le_of_ble_eq_true rfl) dJ5_setLength_d00df_73 (fun H locs hP hD hS => ?_)
        have hP : va_P E.1 vwCl ([sbO E y v_2 1 n, baC E v_2 cp_3 t_4] : List va_W).flatten H := hP
        have hD : va_D A ([sbO E y v_2 1 n, baC E v_2 cp_3 t_4] : List va_W).flatten := hD
        refine lv_aload_n hx hb dJ5_setLength_d00df_76 rfl (lv_at hl 0 rfl) ?_
        refine lv_iload_n hx hb dJ5_setLength_d00df_77 rfl (lv_at hl 1 rfl) ?_
        refine va_put (D := E.1) (ci := 1) (v := .int (nI 0)) (ty := .int) (C := RJ4) (T := TJ4) (N := 4) hx hb hts inJ4 tyJ4 tyJ4_ok nmJ4 hown hK hP hD hS 0 rfl rfl 3 (by decide) (hts _ q235) (fun _ h9 => h9) rfl (by decide +kernel) rfl rfl (Nat.le_of_ble_eq_true rfl) dJ5_setLength_d00df_78 (fun H locs hP hD hS => ?_)
        have hP : va_P E.1 vwCl ([sbO E y v_2 1 0, baC E v_2 cp_3 t_4] : List va_W).flatten H := hP
        have hD : va_D A ([sbO E y v_2 1 0, baC E v_2 cp_3 t_4] : List va_W).flatten := hD
        exact W_widen (by omega) (by omega) (hret _ _ (v_2, 1, cp_3, t_4) _ _ hP hD hS ⟨he2, he3⟩ dJ5_setLength_d00df_81)
    · exact absurd c_5 (by omega)
  · exact absurd c_1 (by omega)
abbrev rm_J4_setLength_d00df : Room := { frames := 5, cells := 1, slots := 34, locals := 185 }
set_option maxHeartbeats 4000000 in
set_option maxRecDepth 100000 in
theorem c_J4_setLength_d00df (l : Launch) (E : EE) (sz : Nat) (y : Nat → Nat) (v ml n cp : Nat) (t : Nat → Nat) (ht : ∀ j, t j < 128) (hm : cp = 16 ∨ cp = 34) (hn9 : n ≤ 34)  : MVx l yJ4_setLength_d00df cJ4_setLength_d00df 2 rm_J4_setLength_d00df [.ref (y 0), .int (nI 0)] E sz [sbO E y v ml n, baC E v cp t] (fun (u : Nat × Nat × Nat × (Nat → Nat)) => (u.2.2.1 = 16 ∨ u.2.2.1 = 34) ∧ ∀ j, u.2.2.2 j < 128) (fun u => [sbO E y u.1 u.2.1 0, baC E u.1 u.2.2.1 u.2.2.2]) 1 34 := by
  refine mv_gox (by decide) (Nat.le_of_ble_eq_true rfl) ?_
  intro p e s m below meth c A Q ls hx hb hml hown hts hK hZ hDD hA hsz hP hD hl hret hnm
  have hS : va_S A s.heap s.heap [] := va_S.rf
  have hl : lv_has ls 2 [(0, .ref (y 0)), (1, .int (nI 0))] := hl
  skip
  refine lv_aload_n hx hb dJ4_setLength_d00df_0 rfl (lv_at hl 0 rfl) ?_
  refine lv_iload_n hx hb dJ4_setLength_d00df_1 rfl (lv_at hl 1 rfl) ?_
  refine run_v (S := Nat × Nat × Nat × (Nat → Nat)) (run_SUx (As := [.int (nI 0)]) (rest := []) (bs := [sbO E y v ml n, baC E v cp t]) (cb := [sbO E y v ml n, baC E v cp t]) hx hb hml hown hts hK hZ hDD hA (c_J5_setLength_d00df l E _ y v ml n cp t ht hm hn9) l_J4_333 rfl ⟨⟨rfl, rfl⟩, Nat.le_of_ble_eq_true rfl, Nat.le_of_ble_eq_true rfl⟩ [0, 1] rfl (by decide) rfl hP hD hS hl.1 rfl (Nat.le_of_ble_eq_true rfl) dJ4_setLength_d00df_2 ⟨Nat.le_of_ble_eq_true rfl, Nat.le_of_ble_eq_true rfl⟩) hA hP hD hS (isC := [0, 1]) rfl [] [0, 1] (br := []) (bs2 := fun u => [sbO E y u.1 u.2.1 0, baC E u.1 u.2.2.1 u.2.2.2]) rfl (by decide) (fun _ => rfl) (by decide) (fun u H locs hw hP hD hS => ?_)
  obtain ⟨v_1, ml_2, cp_3, t_4⟩ := u
  obtain ⟨hmq_5, htq_5⟩ := hw
  have hmq_5 : cp_3 = 16 ∨ cp_3 = 34 := hmq_5
  have htq_5 : ∀ j, t_4 j < 128 := htq_5
  have hP : va_P E.1 vwCl ([sbO E y v_1 ml_2 0, baC E v_1 cp_3 t_4] : List va_W).flatten H := hP
  have hD : va_D A ([sbO E y v_1 ml_2 0, baC E v_1 cp_3 t_4] : List va_W).flatten := hD
  exact W_widen (by omega) (by omega) (hret _ _ (v_1, ml_2, cp_3, t_4) _ _ hP hD hS ⟨hmq_5, htq_5⟩ dJ4_setLength_d00df_5)
abbrev rm_J5_length_8abf5 : Room := { frames := 0, cells := 0, slots := 0, locals := 0 }
set_option maxHeartbeats 4000000 in
set_option maxRecDepth 100000 in
theorem c_J5_length_8abf5 (l : Launch) (E : EE) (sz : Nat) (y : Nat → Nat) (v ml n : Nat)  : MI l yJ5_length_8abf5 cJ5_length_8abf5 1 .int rm_J5_length_8abf5 [.ref (y 0)] E sz [sbO E y v ml n] (fun (r : Int32) (_ : Unit) => r = nI n) (fun _ => [sbO E y v ml n]) 0 0 := by
  refine mi_go (by decide) (Nat.le_of_ble_eq_true rfl) ?_
  intro p e s m below meth c A Q ls hx hb hml hown hts hK hZ hA hsz hP hD hl hret
  have hS : va_S A s.heap s.heap [] := va_S.rf
  have hl : lv_has ls 1 [(0, .ref (y 0))] := hl
  skip
  refine lv_aload_n hx hb dJ5_length_8abf5_0 rfl (lv_at hl 0 rfl) ?_
  refine va_get (D := E.1) (ci := 1) (v := .int (nI n)) (C := RJ4) (T := TJ4) (N := 4) hx hb hts inJ4 hown hK hP 0 rfl rfl 3 (by decide) (hts _ q235) (fun _ h9 => h9) rfl dJ5_length_8abf5_1 ?_
  exact hret _ _ (nI n) () _ _ hP hD hS rfl rfl dJ5_length_8abf5_4
abbrev rm_J4_length_8abf5 : Room := { frames := 1, cells := 0, slots := 0, locals := 20 }
set_option maxHeartbeats 4000000 in
set_option maxRecDepth 100000 in
theorem c_J4_length_8abf5 (l : Launch) (E : EE) (sz : Nat) (y : Nat → Nat) (v ml n : Nat)  : MI l yJ4_length_8abf5 cJ4_length_8abf5 1 .int rm_J4_length_8abf5 [.ref (y 0)] E sz [sbO E y v ml n] (fun (r : Int32) (_ : Unit) => r = nI n) (fun _ => [sbO E y v ml n]) 0 0 := by
  refine mi_go (by decide) (Nat.le_of_ble_eq_true rfl) ?_
  intro p e s m below meth c A Q ls hx hb hml hown hts hK hZ hA hsz hP hD hl hret
  have hS : va_S A s.heap s.heap [] := va_S.rf
  have hl : lv_has ls 1 [(0, .ref (y 0))] := hl
  skip
  refine lv_aload_n hx hb dJ4_length_8abf5_0 rfl (lv_at hl 0 rfl) ?_
  refine run_i (S := Unit) (run_SU (As := []) (rest := []) (bs := [sbO E y v ml n]) (cb := [sbO E y v ml n]) hx hb hml hown hts hK hZ hA (c_J5_length_8abf5 l E _ y v ml n) l_J4_343 rfl ⟨⟨rfl, rfl⟩, Nat.le_of_ble_eq_true rfl, Nat.le_of_ble_eq_true rfl⟩ [0] rfl (by decide) rfl hP hD hS hl.1 rfl (Nat.le_of_ble_eq_true rfl) dJ4_length_8abf5_1 ⟨Nat.zero_le _, Nat.zero_le _⟩) hA hP hD hS (isC := [0]) rfl [] [0] (br := []) (bs2 := fun _ => [sbO E y v ml n]) rfl (by decide) (fun _ => rfl) (by decide) (fun r u H locs hw hP hD hS => ?_)
  subst hw
  exact hret _ _ (nI n) () _ _ hP hD hS rfl rfl dJ4_length_8abf5_4
abbrev rm_J5_charAt_5068e : Room := { frames := 2, cells := 0, slots := 0, locals := 43 }
abbrev rm_J4_charAt_5068e : Room := { frames := 3, cells := 0, slots := 0, locals := 67 }
abbrev rm_X5_writeMember : Room := { frames := 7, cells := 13, slots := 414, locals := 208 }
set_option maxHeartbeats 4000000 in
set_option maxRecDepth 100000 in
theorem c_X5_writeMember (l : Launch) (hst : l.stackTraces = false) (E : EE) (sz : Nat) (x a a2 a3 b d k pa y w : Nat → Nat) (g : GG) (B : Nat) (hI : IB B g) (v ml n cp : Nat) (t : Nat → Nat) (ht : ∀ j, t j < 128) (hm : cp = 16 ∨ cp = 34) (hn9 : n ≤ 34) (p0 : Int32) : XI l yX5_writeMember cX5_writeMember 2 .int rm_X5_writeMember [.ref (x 0), .int p0] E sz [coC E x a a2 a3 b d k pa y w, stC E a g, sbO E y v ml n, baC E v cp t] (fun (r : Int32) (u : Nat × Nat × Nat × (Nat → Nat)) => hasM g p0 = true ∧ r = nI (memL g (tn p0)).length ∧ TX u.2.2.2 (memL g (tn p0)) ∧ (memL g (tn p0)).length ≤ u.2.2.1 ∧ (u.2.2.1 = 16 ∨ u.2.2.1 = 34) ∧ ∀ j, u.2.2.2 j < 128) (fun u => [coC E x a a2 a3 b d k pa y w, stC E a g, sbO E y u.1 u.2.1 (memL g (tn p0)).length, baC E u.1 u.2.2.1 u.2.2.2]) (fun (Ex : String) (_ : Unit) => Ex = IOX ∧ hasM g p0 = false) (fun _ => [coC E x a a2 a3 b d k pa y w, stC E a g, sbO E y v ml n, baC E v cp t]) 13 414 := by
  refine xi_go hst (by decide) rfl (Nat.le_of_ble_eq_true rfl) ?_
  intro p e s m below meth c A Q ls hx hb hml hown hts hK hZ hDD hA hsz hP hD hl hret hprop hthr
  have hS : va_S A s.heap s.heap [] := va_S.rf
  have hl : lv_has ls 2 [(0, .ref (x 0)), (1, .int p0)] := hl
  skip
  have hmc := hI.mc
  have hbu := hI.bud
  refine lv_aload_n hx hb dX5_writeMember_0 rfl (lv_at hl 0 rfl) ?_
  refine lv_iload_n hx hb dX5_writeMember_1 rfl (lv_at hl 1 rfl) ?_
  refine run_xv (S := Unit) (SX := Unit) (run_XV (As := [.int p0]) (rest := []) (bs := [coC E x a a2 a3 b d k pa y w, stC E a g, sbO E y v ml n, baC E v cp t]) (cb := [coC E x a a2 a3 b d k pa y w, stC E a g]) hx hb hml hown hts hK hZ hDD hA (c_X5_needMember l hst E _ x a a2 a3 b d k pa y w g _ hI p0) l_X5_127 rfl ⟨⟨rfl, rfl⟩, Nat.le_of_ble_eq_true rfl, Nat.le_of_ble_eq_true rfl⟩ 9 rfl [0, 1] rfl (by decide) rfl hP hD hS hl.1 rfl (Nat.le_of_ble_eq_true rfl) dX5_writeMember_2 ⟨Nat.le_of_ble_eq_true rfl, Nat.le_of_ble_eq_true rfl⟩) hA hP hD hS (isC := [0, 1]) rfl [2, 3] [2, 3, 0, 1] (br := [sbO E y v ml n, baC E v cp t]) (bs2 := fun _ => [coC E x a a2 a3 b d k pa y w, stC E a g, sbO E y v ml n, baC E v cp t]) (bx2 := fun _ => [coC E x a a2 a3 b d k pa y w, stC E a g, sbO E y v ml n, baC E v cp t]) rfl (by decide) (fun _ => rfl) (fun _ => rfl) (by decide) (fun Ex ce q3 ux H locs hw hP hD hS hc1 hc2 hc3 => ?_) (fun u H locs hw hP hD hS => ?_)
  · exact hprop _ _ _ () _ _ _ _ _ _ _ hw hP hD hS hc1 hc2 hc3 (by omega) (by omega)
  have hw : hasM g p0 = true := hw
  have hhp0 := hw
  have hmp0 := hasM_t hw
  have htp0 : ((tn p0 : Nat) : Int) = p0.toInt := tn_t (by omega)
  have hbp0 := hI.mem (m := tn p0) (by omega)
  have hnil0 : ([] : List Nat).length = 0 := rfl
  have hpu := hI.pu (m := tn p0) (by omega)
  have hd0 := dgs_2le (n := g 0 (tn p0)) (by omega)
  have hd1 := dgs_2le (n := g 1 (tn p0)) (by omega)
  have hd2 := dgs_2le (n := g 2 (tn p0)) (by omega)
  have hd3 := dgs_2le (n := g 3 (tn p0)) (by omega)
  have hd4 := dgs_2le (n := g 4 (tn p0)) (by omega)
  have hd5 := dgs_len (n := g 5 (tn p0))
  have hl : lv_has ls 2 [(0, .ref (x 0)), (1, .int (nI (tn p0)))] := by rw [tn_n (x := p0) (by omega)]; exact hl
  refine lv_aload_n hx hb dX5_writeMember_5 rfl (lv_at hl 0 rfl) ?_
  refine va_get (D := E.1) (ci := 9) (v := .ref (y 0)) (C := RX5) (T := TX5) (N := 11) hx hb hts inX5 hown hK hP 0 rfl rfl 7 (by decide) (hts _ q253) (fun _ h9 => h9) rfl dX5_writeMember_6 ?_
  refine lv_iconst (v := nI 0) hx hb dX5_writeMember_9 (by decide) ?_
  refine run_v (S := Nat × Nat × Nat × (Nat → Nat)) (run_Vx (As := [.int (nI 0)]) (rest := []) (bs := [coC E x a a2 a3 b d k pa y w, stC E a g, sbO E y v ml n, baC E v cp t]) (cb := [sbO E y v ml n, baC E v cp t]) hx hb hml hown hts hK hZ hDD hA (c_J4_setLength_d00df l E _ y v ml n cp t ht hm hn9) l_X5_298 rfl ⟨⟨rfl, rfl⟩, Nat.le_of_ble_eq_true rfl, Nat.le_of_ble_eq_true rfl⟩ 1 rfl [2, 3] rfl (by decide) rfl hP hD hS hl.1 rfl (Nat.le_of_ble_eq_true rfl) dX5_writeMember_10 ⟨Nat.le_of_ble_eq_true rfl, Nat.le_of_ble_eq_true rfl⟩) hA hP hD hS (isC := [2, 3]) rfl [0, 1] [0, 1, 2, 3] (br := [coC E x a a2 a3 b d k pa y w, stC E a g]) (bs2 := fun u => [coC E x a a2 a3 b d k pa y w, stC E a g, sbO E y u.1 u.2.1 0, baC E u.1 u.2.2.1 u.2.2.2]) rfl (by decide) (fun _ => rfl) (by decide) (fun u H locs hw hP hD hS => ?_)
  obtain ⟨v_1, ml_2, cp_3, t_4⟩ := u
  obtain ⟨hmq_5, htq_5⟩ := hw
  have hmq_5 : cp_3 = 16 ∨ cp_3 = 34 := hmq_5
  have htq_5 : ∀ j, t_4 j < 128 := htq_5
  have hP : va_P E.1 vwCl ([coC E x a a2 a3 b d k pa y w, stC E a g, sbO E y v_1 ml_2 0, baC E v_1 cp_3 t_4] : List va_W).flatten H := hP
  have hD : va_D A ([coC E x a a2 a3 b d k pa y w, stC E a g, sbO E y v_1 ml_2 0, baC E v_1 cp_3 t_4] : List va_W).flatten := hD
  refine lv_aload_n hx hb dX5_writeMember_13 rfl (lv_at hl 0 rfl) ?_
  refine va_get (D := E.1) (ci := 9) (v := .ref (y 0)) (C := RX5) (T := TX5) (N := 11) hx hb hts inX5 hown hK hP 0 rfl rfl 7 (by decide) (hts _ q253) (fun _ h9 => h9) rfl dX5_writeMember_14 ?_
  refine lv_aload_n hx hb dX5_writeMember_17 rfl (lv_at hl 0 rfl) ?_
  refine va_get (D := E.1) (ci := 9) (v := .ref (a 0)) (C := RX5) (T := TX5) (N := 11) hx hb hts inX5 hown hK hP 0 rfl rfl 0 (by decide) (hts _ q246) (fun _ h9 => h9) rfl dX5_writeMember_18 ?_
  refine va_get (D := E.1) (ci := 8) (v := .ref (a 1)) (C := RX4) (T := TX4) (N := 16) hx hb hts inX4 hown hK hP 1 rfl rfl 0 (by decide) (hts _ q69) (fun _ h9 => h9) rfl dX5_writeMember_21 ?_
  refine lv_iload_n hx hb dX5_writeMember_24 rfl (lv_at hl 1 rfl) ?_
  refine nv_iald (f := (g 0)) (i := tn p0) (n := 8) hx hb hK hP 2 0 rfl rfl (by omega) (by decide) dX5_writeMember_25 ?_
  refine run_q (S := Nat × Nat × (Nat → Nat)) (run_Vx (As := [.int (nI (g 0 (tn p0)))]) (rest := []) (bs := [coC E x a a2 a3 b d k pa y w, stC E a g, sbO E y v_1 ml_2 0, baC E v_1 cp_3 t_4]) (cb := [sbO E y v_1 ml_2 0, baC E v_1 cp_3 t_4]) hx hb hml hown hts hK hZ hDD hA (c_J4_append_bf812 l E _ y v_1 ml_2 cp_3 t_4 ([] : List Nat) htq_5 hmq_5 TX_0 (Nat.zero_le _) (g 0 (tn p0)) (by omega) (by omega)) l_X5_301 rfl ⟨⟨rfl, rfl⟩, Nat.le_of_ble_eq_true rfl, Nat.le_of_ble_eq_true rfl⟩ 1 rfl [2, 3] rfl (by decide) rfl hP hD hS hl.1 rfl (Nat.le_of_ble_eq_true rfl) dX5_writeMember_26 ⟨Nat.le_of_ble_eq_true rfl, Nat.le_of_ble_eq_true rfl⟩) hA hP hD hS (isC := [2, 3]) rfl [0, 1] [0, 1, 2, 3] (br := [coC E x a a2 a3 b d k pa y w, stC E a g]) (bs2 := fun u => [coC E x a a2 a3 b d k pa y w, stC E a g, sbO E y u.1 ml_2 ((([] : List Nat) ++ dgs (g 0 (tn p0))).length), baC E u.1 u.2.1 u.2.2]) rfl (by decide) (fun _ => rfl) (by decide) (fun ⟨v_6, cp_7, t_8⟩ H locs hw hP hD hS => ?_)
  obtain ⟨hLq_9, hnq_9, hmq_9, htq_9⟩ := hw
  have hnq_9 : (([] : List Nat) ++ dgs (g 0 (tn p0))).length ≤ cp_7 := hnq_9
  have hmq_9 : cp_7 = 16 ∨ cp_7 = 34 := hmq_9
  have htq_9 : ∀ j, t_8 j < 128 := htq_9
  have hLq_9 : TX t_8 (([] : List Nat) ++ dgs (g 0 (tn p0))) := hLq_9
  obtain ⟨Lq_9, eq_9⟩ : ∃ L9, L9 = (([] : List Nat) ++ dgs (g 0 (tn p0))) := ⟨_, rfl⟩
  have lq_9 : Lq_9.length = 0 + (dgs (g 0 (tn p0))).length := by rw [eq_9, List.length_append] <;> rfl
  rw [← eq_9] at hLq_9 hnq_9 hP hD
  have hP : va_P E.1 vwCl ([coC E x a a2 a3 b d k pa y w, stC E a g, sbO E y v_6 ml_2 Lq_9.length, baC E v_6 cp_7 t_8] : List va_W).flatten H := hP
  have hD : va_D A ([coC E x a a2 a3 b d k pa y w, stC E a g, sbO E y v_6 ml_2 Lq_9.length, baC E v_6 cp_7 t_8] : List va_W).flatten := hD
  refine lv_bipush (v := nI 37) hx hb dX5_writeMember_29 (by decide) ?_
  refine run_q (S := Nat × Nat × (Nat → Nat)) (run_Vx (As := [.int (nI 37)]) (rest := []) (bs := [coC E x a a2 a3 b d k pa y w, stC E a g, sbO E y v_6 ml_2 Lq_9.length, baC E v_6 cp_7 t_8]) (cb := [sbO E y v_6 ml_2 Lq_9.length, baC E v_6 cp_7 t_8]) hx hb hml hown hts hK hZ hDD hA (c_J4_append_cf468 l E _ y v_6 ml_2 cp_7 t_8 Lq_9 htq_9 hmq_9 hLq_9 hnq_9 37 (by decide) (by omega)) l_X5_305 rfl ⟨⟨rfl, rfl⟩, Nat.le_of_ble_eq_true rfl, Nat.le_of_ble_eq_true rfl⟩ 1 rfl [2, 3] rfl (by decide) rfl hP hD hS hl.1 rfl (Nat.le_of_ble_eq_true rfl) dX5_writeMember_31 ⟨Nat.le_of_ble_eq_true rfl, Nat.le_of_ble_eq_true rfl⟩) hA hP hD hS (isC := [2, 3]) rfl [0, 1] [0, 1, 2, 3] (br := [coC E x a a2 a3 b d k pa y w, stC E a g]) (bs2 := fun u => [coC E x a a2 a3 b d k pa y w, stC E a g, sbO E y u.1 ml_2 ((Lq_9 ++ [37]).length), baC E u.1 u.2.1 u.2.2]) rfl (by decide) (fun _ => rfl) (by decide) (fun ⟨v_10, cp_11, t_12⟩ H locs hw hP hD hS => ?_)
  obtain ⟨hLq_13, hnq_13, hmq_13, htq_13⟩ := hw
  have hnq_13 : (Lq_9 ++ [37]).length ≤ cp_11 := hnq_13
  have hmq_13 : cp_11 = 16 ∨ cp_11 = 34 := hmq_13
  have htq_13 : ∀ j, t_12 j < 128 := htq_13
  have hLq_13 : TX t_12 (Lq_9 ++ [37]) := hLq_13
  obtain ⟨Lq_13, eq_13⟩ : ∃ L9, L9 = (Lq_9 ++ [37]) := ⟨_, rfl⟩
  have lq_13 : Lq_13.length = Lq_9.length + 1 := by rw [eq_13, List.length_append] <;> rfl
  rw [← eq_13] at hLq_13 hnq_13 hP hD
  have hP : va_P E.1 vwCl ([coC E x a a2 a3 b d k pa y w, stC E a g, sbO E y v_10 ml_2 Lq_13.length, baC E v_10 cp_11 t_12] : List va_W).flatten H := hP
  have hD : va_D A ([coC E x a a2 a3 b d k pa y w, stC E a g, sbO E y v_10 ml_2 Lq_13.length, baC E v_10 cp_11 t_12] : List va_W).flatten := hD
  refine lv_aload_n hx hb dX5_writeMember_34 rfl (lv_at hl 0 rfl) ?_
  refine va_get (D := E.1) (ci := 9) (v := .ref (a 0)) (C := RX5) (T := TX5) (N := 11) hx hb hts inX5 hown hK hP 0 rfl rfl 0 (by decide) (hts _ q246) (fun _ h9 => h9) rfl dX5_writeMember_35 ?_
  refine va_get (D := E.1) (ci := 8) (v := .ref (a 2)) (C := RX4) (T := TX4) (N := 16) hx hb hts inX4 hown hK hP 1 rfl rfl 1 (by decide) (hts _ q71) (fun _ h9 => h9) rfl dX5_writeMember_38 ?_
  refine lv_iload_n hx hb dX5_writeMember_41 rfl (lv_at hl 1 rfl) ?_
  refine nv_iald (f := (g 1)) (i := tn p0) (n := 8) hx hb hK hP 3 0 rfl rfl (by omega) (by decide) dX5_writeMember_42 ?_
  refine run_q (S := Nat × Nat × (Nat → Nat)) (run_Vx (As := [.int (nI (g 1 (tn p0)))]) (rest := []) (bs := [coC E x a a2 a3 b d k pa y w, stC E a g, sbO E y v_10 ml_2 Lq_13.length, baC E v_10 cp_11 t_12]) (cb := [sbO E y v_10 ml_2 Lq_13.length, baC E v_10 cp_11 t_12]) hx hb hml hown hts hK hZ hDD hA (c_J4_append_bf812 l E _ y v_10 ml_2 cp_11 t_12 Lq_13 htq_13 hmq_13 hLq_13 hnq_13 (g 1 (tn p0)) (by omega) (by omega)) l_X5_301 rfl ⟨⟨rfl, rfl⟩, Nat.le_of_ble_eq_true rfl, Nat.le_of_ble_eq_true rfl⟩ 1 rfl [2, 3] rfl (by decide) rfl hP hD hS hl.1 rfl (Nat.le_of_ble_eq_true rfl) dX5_writeMember_43 ⟨Nat.le_of_ble_eq_true rfl, Nat.le_of_ble_eq_true rfl⟩) hA hP hD hS (isC := [2, 3]) rfl [0, 1] [0, 1, 2, 3] (br := [coC E x a a2 a3 b d k pa y w, stC E a g]) (bs2 := fun u => [coC E x a a2 a3 b d k pa y w, stC E a g, sbO E y u.1 ml_2 ((Lq_13 ++ dgs (g 1 (tn p0))).length), baC E u.1 u.2.1 u.2.2]) rfl (by decide) (fun _ => rfl) (by decide) (fun ⟨v_14, cp_15, t_16⟩ H locs hw hP hD hS => ?_)
  obtain ⟨hLq_17, hnq_17, hmq_17, htq_17⟩ := hw
  have hnq_17 : (Lq_13 ++ dgs (g 1 (tn p0))).length ≤ cp_15 := hnq_17
  have hmq_17 : cp_15 = 16 ∨ cp_15 = 34 := hmq_17
  have htq_17 : ∀ j, t_16 j < 128 := htq_17
  have hLq_17 : TX t_16 (Lq_13 ++ dgs (g 1 (tn p0))) := hLq_17
  obtain ⟨Lq_17, eq_17⟩ : ∃ L9, L9 = (Lq_13 ++ dgs (g 1 (tn p0))) := ⟨_, rfl⟩
  have lq_17 : Lq_17.length = Lq_13.length + (dgs (g 1 (tn p0))).length := by rw [eq_17, List.length_append] <;> rfl
  rw [← eq_17] at hLq_17 hnq_17 hP hD
  have hP : va_P E.1 vwCl ([coC E x a a2 a3 b d k pa y w, stC E a g, sbO E y v_14 ml_2 Lq_17.length, baC E v_14 cp_15 t_16] : List va_W).flatten H := hP
  have hD : va_D A ([coC E x a a2 a3 b d k pa y w, stC E a g, sbO E y v_14 ml_2 Lq_17.length, baC E v_14 cp_15 t_16] : List va_W).flatten := hD
  refine lv_pop hx hb dX5_writeMember_46 rfl ?_
  refine lv_aload_n hx hb dX5_writeMember_47 rfl (lv_at hl 0 rfl) ?_
  refine va_get (D := E.1) (ci := 9) (v := .ref (y 0)) (C := RX5) (T := TX5) (N := 11) hx hb hts inX5 hown hK hP 0 rfl rfl 7 (by decide) (hts _ q253) (fun _ h9 => h9) rfl dX5_writeMember_48 ?_
  refine lv_bipush (v := nI 43) hx hb dX5_writeMember_51 (by decide) ?_
  refine run_q (S := Nat × Nat × (Nat → Nat)) (run_Vx (As := [.int (nI 43)]) (rest := []) (bs := [coC E x a a2 a3 b d k pa y w, stC E a g, sbO E y v_14 ml_2 Lq_17.length, baC E v_14 cp_15 t_16]) (cb := [sbO E y v_14 ml_2 Lq_17.length, baC E v_14 cp_15 t_16]) hx hb hml hown hts hK hZ hDD hA (c_J4_append_cf468 l E _ y v_14 ml_2 cp_15 t_16 Lq_17 htq_17 hmq_17 hLq_17 hnq_17 43 (by decide) (by omega)) l_X5_305 rfl ⟨⟨rfl, rfl⟩, Nat.le_of_ble_eq_true rfl, Nat.le_of_ble_eq_true rfl⟩ 1 rfl [2, 3] rfl (by decide) rfl hP hD hS hl.1 rfl (Nat.le_of_ble_eq_true rfl) dX5_writeMember_53 ⟨Nat.le_of_ble_eq_true rfl, Nat.le_of_ble_eq_true rfl⟩) hA hP hD hS (isC := [2, 3]) rfl [0, 1] [0, 1, 2, 3] (br := [coC E x a a2 a3 b d k pa y w, stC E a g]) (bs2 := fun u => [coC E x a a2 a3 b d k pa y w, stC E a g, sbO E y u.1 ml_2 ((Lq_17 ++ [43]).length), baC E u.1 u.2.1 u.2.2]) rfl (by decide) (fun _ => rfl) (by decide) (fun ⟨v_18, cp_19, t_20⟩ H locs hw hP hD hS => ?_)
  obtain ⟨hLq_21, hnq_21, hmq_21, htq_21⟩ := hw
  have hnq_21 : (Lq_17 ++ [43]).length ≤ cp_19 := hnq_21
  have hmq_21 : cp_19 = 16 ∨ cp_19 = 34 := hmq_21
  have htq_21 : ∀ j, t_20 j < 128 := htq_21
  have hLq_21 : TX t_20 (Lq_17 ++ [43]) := hLq_21
  obtain ⟨Lq_21, eq_21⟩ : ∃ L9, L9 = (Lq_17 ++ [43]) := ⟨_, rfl⟩
  have lq_21 : Lq_21.length = Lq_17.length + 1 := by rw [eq_21, List.length_append] <;> rfl
  rw [← eq_21] at hLq_21 hnq_21 hP hD
  have hP : va_P E.1 vwCl ([coC E x a a2 a3 b d k pa y w, stC E a g, sbO E y v_18 ml_2 Lq_21.length, baC E v_18 cp_19 t_20] : List va_W).flatten H := hP
  have hD : va_D A ([coC E x a a2 a3 b d k pa y w, stC E a g, sbO E y v_18 ml_2 Lq_21.length, baC E v_18 cp_19 t_20] : List va_W).flatten := hD
  refine lv_aload_n hx hb dX5_writeMember_56 rfl (lv_at hl 0 rfl) ?_
  refine va_get (D := E.1) (ci := 9) (v := .ref (a 0)) (C := RX5) (T := TX5) (N := 11) hx hb hts inX5 hown hK hP 0 rfl rfl 0 (by decide) (hts _ q246) (fun _ h9 => h9) rfl dX5_writeMember_57 ?_
  refine va_get (D := E.1) (ci := 8) (v := .ref (a 3)) (C := RX4) (T := TX4) (N := 16) hx hb hts inX4 hown hK hP 1 rfl rfl 2 (by decide) (hts _ q73) (fun _ h9 => h9) rfl dX5_writeMember_60 ?_
  refine lv_iload_n hx hb dX5_writeMember_63 rfl (lv_at hl 1 rfl) ?_
  refine nv_iald (f := (g 2)) (i := tn p0) (n := 8) hx hb hK hP 4 0 rfl rfl (by omega) (by decide) dX5_writeMember_64 ?_
  refine run_q (S := Nat × Nat × (Nat → Nat)) (run_Vx (As := [.int (nI (g 2 (tn p0)))]) (rest := []) (bs := [coC E x a a2 a3 b d k pa y w, stC E a g, sbO E y v_18 ml_2 Lq_21.length, baC E v_18 cp_19 t_20]) (cb := [sbO E y v_18 ml_2 Lq_21.length, baC E v_18 cp_19 t_20]) hx hb hml hown hts hK hZ hDD hA (c_J4_append_bf812 l E _ y v_18 ml_2 cp_19 t_20 Lq_21 htq_21 hmq_21 hLq_21 hnq_21 (g 2 (tn p0)) (by omega) (by omega)) l_X5_301 rfl ⟨⟨rfl, rfl⟩, Nat.le_of_ble_eq_true rfl, Nat.le_of_ble_eq_true rfl⟩ 1 rfl [2, 3] rfl (by decide) rfl hP hD hS hl.1 rfl (Nat.le_of_ble_eq_true rfl) dX5_writeMember_65 ⟨Nat.le_of_ble_eq_true rfl, Nat.le_of_ble_eq_true rfl⟩) hA hP hD hS (isC := [2, 3]) rfl [0, 1] [0, 1, 2, 3] (br := [coC E x a a2 a3 b d k pa y w, stC E a g]) (bs2 := fun u => [coC E x a a2 a3 b d k pa y w, stC E a g, sbO E y u.1 ml_2 ((Lq_21 ++ dgs (g 2 (tn p0))).length), baC E u.1 u.2.1 u.2.2]) rfl (by decide) (fun _ => rfl) (by decide) (fun ⟨v_22, cp_23, t_24⟩ H locs hw hP hD hS => ?_)
  obtain ⟨hLq_25, hnq_25, hmq_25, htq_25⟩ := hw
  have hnq_25 : (Lq_21 ++ dgs (g 2 (tn p0))).length ≤ cp_23 := hnq_25
  have hmq_25 : cp_23 = 16 ∨ cp_23 = 34 := hmq_25
  have htq_25 : ∀ j, t_24 j < 128 := htq_25
  have hLq_25 : TX t_24 (Lq_21 ++ dgs (g 2 (tn p0))) := hLq_25
  obtain ⟨Lq_25, eq_25⟩ : ∃ L9, L9 = (Lq_21 ++ dgs (g 2 (tn p0))) := ⟨_, rfl⟩
  have lq_25 : Lq_25.length = Lq_21.length + (dgs (g 2 (tn p0))).length := by rw [eq_25, List.length_append] <;> rfl
  rw [← eq_25] at hLq_25 hnq_25 hP hD
  have hP : va_P E.1 vwCl ([coC E x a a2 a3 b d k pa y w, stC E a g, sbO E y v_22 ml_2 Lq_25.length, baC E v_22 cp_23 t_24] : List va_W).flatten H := hP
  have hD : va_D A ([coC E x a a2 a3 b d k pa y w, stC E a g, sbO E y v_22 ml_2 Lq_25.length, baC E v_22 cp_23 t_24] : List va_W).flatten := hD
  refine lv_bipush (v := nI 94) hx hb dX5_writeMember_68 (by decide) ?_
  refine run_q (S := Nat × Nat × (Nat → Nat)) (run_Vx (As := [.int (nI 94)]) (rest := []) (bs := [coC E x a a2 a3 b d k pa y w, stC E a g, sbO E y v_22 ml_2 Lq_25.length, baC E v_22 cp_23 t_24]) (cb := [sbO E y v_22 ml_2 Lq_25.length, baC E v_22 cp_23 t_24]) hx hb hml hown hts hK hZ hDD hA (c_J4_append_cf468 l E _ y v_22 ml_2 cp_23 t_24 Lq_25 htq_25 hmq_25 hLq_25 hnq_25 94 (by decide) (by omega)) l_X5_305 rfl ⟨⟨rfl, rfl⟩, Nat.le_of_ble_eq_true rfl, Nat.le_of_ble_eq_true rfl⟩ 1 rfl [2, 3] rfl (by decide) rfl hP hD hS hl.1 rfl (Nat.le_of_ble_eq_true rfl) dX5_writeMember_70 ⟨Nat.le_of_ble_eq_true rfl, Nat.le_of_ble_eq_true rfl⟩) hA hP hD hS (isC := [2, 3]) rfl [0, 1] [0, 1, 2, 3] (br := [coC E x a a2 a3 b d k pa y w, stC E a g]) (bs2 := fun u => [coC E x a a2 a3 b d k pa y w, stC E a g, sbO E y u.1 ml_2 ((Lq_25 ++ [94]).length), baC E u.1 u.2.1 u.2.2]) rfl (by decide) (fun _ => rfl) (by decide) (fun ⟨v_26, cp_27, t_28⟩ H locs hw hP hD hS => ?_)
  obtain ⟨hLq_29, hnq_29, hmq_29, htq_29⟩ := hw
  have hnq_29 : (Lq_25 ++ [94]).length ≤ cp_27 := hnq_29
  have hmq_29 : cp_27 = 16 ∨ cp_27 = 34 := hmq_29
  have htq_29 : ∀ j, t_28 j < 128 := htq_29
  have hLq_29 : TX t_28 (Lq_25 ++ [94]) := hLq_29
  obtain ⟨Lq_29, eq_29⟩ : ∃ L9, L9 = (Lq_25 ++ [94]) := ⟨_, rfl⟩
  have lq_29 : Lq_29.length = Lq_25.length + 1 := by rw [eq_29, List.length_append] <;> rfl
  rw [← eq_29] at hLq_29 hnq_29 hP hD
  have hP : va_P E.1 vwCl ([coC E x a a2 a3 b d k pa y w, stC E a g, sbO E y v_26 ml_2 Lq_29.length, baC E v_26 cp_27 t_28] : List va_W).flatten H := hP
  have hD : va_D A ([coC E x a a2 a3 b d k pa y w, stC E a g, sbO E y v_26 ml_2 Lq_29.length, baC E v_26 cp_27 t_28] : List va_W).flatten := hD
  refine lv_aload_n hx hb dX5_writeMember_73 rfl (lv_at hl 0 rfl) ?_
  refine va_get (D := E.1) (ci := 9) (v := .ref (a 0)) (C := RX5) (T := TX5) (N := 11) hx hb hts inX5 hown hK hP 0 rfl rfl 0 (by decide) (hts _ q246) (fun _ h9 => h9) rfl dX5_writeMember_74 ?_
  refine va_get (D := E.1) (ci := 8) (v := .ref (a 4)) (C := RX4) (T := TX4) (N := 16) hx hb hts inX4 hown hK hP 1 rfl rfl 3 (by decide) (hts _ q75) (fun _ h9 => h9) rfl dX5_writeMember_77 ?_
  refine lv_iload_n hx hb dX5_writeMember_80 rfl (lv_at hl 1 rfl) ?_
  refine nv_iald (f := (g 3)) (i := tn p0) (n := 8) hx hb hK hP 5 0 rfl rfl (by omega) (by decide) dX5_writeMember_81 ?_
  refine run_q (S := Nat × Nat × (Nat → Nat)) (run_Vx (As := [.int (nI (g 3 (tn p0)))]) (rest := []) (bs := [coC E x a a2 a3 b d k pa y w, stC E a g, sbO E y v_26 ml_2 Lq_29.length, baC E v_26 cp_27 t_28]) (cb := [sbO E y v_26 ml_2 Lq_29.length, baC E v_26 cp_27 t_28]) hx hb hml hown hts hK hZ hDD hA (c_J4_append_bf812 l E _ y v_26 ml_2 cp_27 t_28 Lq_29 htq_29 hmq_29 hLq_29 hnq_29 (g 3 (tn p0)) (by omega) (by omega)) l_X5_301 rfl ⟨⟨rfl, rfl⟩, Nat.le_of_ble_eq_true rfl, Nat.le_of_ble_eq_true rfl⟩ 1 rfl [2, 3] rfl (by decide) rfl hP hD hS hl.1 rfl (Nat.le_of_ble_eq_true rfl) dX5_writeMember_82 ⟨Nat.le_of_ble_eq_true rfl, Nat.le_of_ble_eq_true rfl⟩) hA hP hD hS (isC := [2, 3]) rfl [0, 1] [0, 1, 2, 3] (br := [coC E x a a2 a3 b d k pa y w, stC E a g]) (bs2 := fun u => [coC E x a a2 a3 b d k pa y w, stC E a g, sbO E y u.1 ml_2 ((Lq_29 ++ dgs (g 3 (tn p0))).length), baC E u.1 u.2.1 u.2.2]) rfl (by decide) (fun _ => rfl) (by decide) (fun ⟨v_30, cp_31, t_32⟩ H locs hw hP hD hS => ?_)
  obtain ⟨hLq_33, hnq_33, hmq_33, htq_33⟩ := hw
  have hnq_33 : (Lq_29 ++ dgs (g 3 (tn p0))).length ≤ cp_31 := hnq_33
  have hmq_33 : cp_31 = 16 ∨ cp_31 = 34 := hmq_33
  have htq_33 : ∀ j, t_32 j < 128 := htq_33
  have hLq_33 : TX t_32 (Lq_29 ++ dgs (g 3 (tn p0))) := hLq_33
  obtain ⟨Lq_33, eq_33⟩ : ∃ L9, L9 = (Lq_29 ++ dgs (g 3 (tn p0))) := ⟨_, rfl⟩
  have lq_33 : Lq_33.length = Lq_29.length + (dgs (g 3 (tn p0))).length := by rw [eq_33, List.length_append] <;> rfl
  rw [← eq_33] at hLq_33 hnq_33 hP hD
  have hP : va_P E.1 vwCl ([coC E x a a2 a3 b d k pa y w, stC E a g, sbO E y v_30 ml_2 Lq_33.length, baC E v_30 cp_31 t_32] : List va_W).flatten H := hP
  have hD : va_D A ([coC E x a a2 a3 b d k pa y w, stC E a g, sbO E y v_30 ml_2 Lq_33.length, baC E v_30 cp_31 t_32] : List va_W).flatten := hD
  refine lv_pop hx hb dX5_writeMember_85 rfl ?_
  refine lv_aload_n hx hb dX5_writeMember_86 rfl (lv_at hl 0 rfl) ?_
  refine va_get (D := E.1) (ci := 9) (v := .ref (y 0)) (C := RX5) (T := TX5) (N := 11) hx hb hts inX5 hown hK hP 0 rfl rfl 7 (by decide) (hts _ q253) (fun _ h9 => h9) rfl dX5_writeMember_87 ?_
  refine lv_bipush (v := nI 126) hx hb dX5_writeMember_90 (by decide) ?_
  refine run_q (S := Nat × Nat × (Nat → Nat)) (run_Vx (As := [.int (nI 126)]) (rest := []) (bs := [coC E x a a2 a3 b d k pa y w, stC E a g, sbO E y v_30 ml_2 Lq_33.length, baC E v_30 cp_31 t_32]) (cb := [sbO E y v_30 ml_2 Lq_33.length, baC E v_30 cp_31 t_32]) hx hb hml hown hts hK hZ hDD hA (c_J4_append_cf468 l E _ y v_30 ml_2 cp_31 t_32 Lq_33 htq_33 hmq_33 hLq_33 hnq_33 126 (by decide) (by omega)) l_X5_305 rfl ⟨⟨rfl, rfl⟩, Nat.le_of_ble_eq_true rfl, Nat.le_of_ble_eq_true rfl⟩ 1 rfl [2, 3] rfl (by decide) rfl hP hD hS hl.1 rfl (Nat.le_of_ble_eq_true rfl) dX5_writeMember_92 ⟨Nat.le_of_ble_eq_true rfl, Nat.le_of_ble_eq_true rfl⟩) hA hP hD hS (isC := [2, 3]) rfl [0, 1] [0, 1, 2, 3] (br := [coC E x a a2 a3 b d k pa y w, stC E a g]) (bs2 := fun u => [coC E x a a2 a3 b d k pa y w, stC E a g, sbO E y u.1 ml_2 ((Lq_33 ++ [126]).length), baC E u.1 u.2.1 u.2.2]) rfl (by decide) (fun _ => rfl) (by decide) (fun ⟨v_34, cp_35, t_36⟩ H locs hw hP hD hS => ?_)
  obtain ⟨hLq_37, hnq_37, hmq_37, htq_37⟩ := hw
  have hnq_37 : (Lq_33 ++ [126]).length ≤ cp_35 := hnq_37
  have hmq_37 : cp_35 = 16 ∨ cp_35 = 34 := hmq_37
  have htq_37 : ∀ j, t_36 j < 128 := htq_37
  have hLq_37 : TX t_36 (Lq_33 ++ [126]) := hLq_37
  obtain ⟨Lq_37, eq_37⟩ : ∃ L9, L9 = (Lq_33 ++ [126]) := ⟨_, rfl⟩
  have lq_37 : Lq_37.length = Lq_33.length + 1 := by rw [eq_37, List.length_append] <;> rfl
  rw [← eq_37] at hLq_37 hnq_37 hP hD
  have hP : va_P E.1 vwCl ([coC E x a a2 a3 b d k pa y w, stC E a g, sbO E y v_34 ml_2 Lq_37.length, baC E v_34 cp_35 t_36] : List va_W).flatten H := hP
  have hD : va_D A ([coC E x a a2 a3 b d k pa y w, stC E a g, sbO E y v_34 ml_2 Lq_37.length, baC E v_34 cp_35 t_36] : List va_W).flatten := hD
  refine lv_aload_n hx hb dX5_writeMember_95 rfl (lv_at hl 0 rfl) ?_
  refine va_get (D := E.1) (ci := 9) (v := .ref (a 0)) (C := RX5) (T := TX5) (N := 11) hx hb hts inX5 hown hK hP 0 rfl rfl 0 (by decide) (hts _ q246) (fun _ h9 => h9) rfl dX5_writeMember_96 ?_
  refine va_get (D := E.1) (ci := 8) (v := .ref (a 5)) (C := RX4) (T := TX4) (N := 16) hx hb hts inX4 hown hK hP 1 rfl rfl 4 (by decide) (hts _ q77) (fun _ h9 => h9) rfl dX5_writeMember_99 ?_
  refine lv_iload_n hx hb dX5_writeMember_102 rfl (lv_at hl 1 rfl) ?_
  refine nv_iald (f := (g 4)) (i := tn p0) (n := 8) hx hb hK hP 6 0 rfl rfl (by omega) (by decide) dX5_writeMember_103 ?_
  refine run_q (S := Nat × Nat × (Nat → Nat)) (run_Vx (As := [.int (nI (g 4 (tn p0)))]) (rest := []) (bs := [coC E x a a2 a3 b d k pa y w, stC E a g, sbO E y v_34 ml_2 Lq_37.length, baC E v_34 cp_35 t_36]) (cb := [sbO E y v_34 ml_2 Lq_37.length, baC E v_34 cp_35 t_36]) hx hb hml hown hts hK hZ hDD hA (c_J4_append_bf812 l E _ y v_34 ml_2 cp_35 t_36 Lq_37 htq_37 hmq_37 hLq_37 hnq_37 (g 4 (tn p0)) (by omega) (by omega)) l_X5_301 rfl ⟨⟨rfl, rfl⟩, Nat.le_of_ble_eq_true rfl, Nat.le_of_ble_eq_true rfl⟩ 1 rfl [2, 3] rfl (by decide) rfl hP hD hS hl.1 rfl (Nat.le_of_ble_eq_true rfl) dX5_writeMember_104 ⟨Nat.le_of_ble_eq_true rfl, Nat.le_of_ble_eq_true rfl⟩) hA hP hD hS (isC := [2, 3]) rfl [0, 1] [0, 1, 2, 3] (br := [coC E x a a2 a3 b d k pa y w, stC E a g]) (bs2 := fun u => [coC E x a a2 a3 b d k pa y w, stC E a g, sbO E y u.1 ml_2 ((Lq_37 ++ dgs (g 4 (tn p0))).length), baC E u.1 u.2.1 u.2.2]) rfl (by decide) (fun _ => rfl) (by decide) (fun ⟨v_38, cp_39, t_40⟩ H locs hw hP hD hS => ?_)
  obtain ⟨hLq_41, hnq_41, hmq_41, htq_41⟩ := hw
  have hnq_41 : (Lq_37 ++ dgs (g 4 (tn p0))).length ≤ cp_39 := hnq_41
  have hmq_41 : cp_39 = 16 ∨ cp_39 = 34 := hmq_41
  have htq_41 : ∀ j, t_40 j < 128 := htq_41
  have hLq_41 : TX t_40 (Lq_37 ++ dgs (g 4 (tn p0))) := hLq_41
  obtain ⟨Lq_41, eq_41⟩ : ∃ L9, L9 = (Lq_37 ++ dgs (g 4 (tn p0))) := ⟨_, rfl⟩
  have lq_41 : Lq_41.length = Lq_37.length + (dgs (g 4 (tn p0))).length := by rw [eq_41, List.length_append] <;> rfl
  rw [← eq_41] at hLq_41 hnq_41 hP hD
  have hP : va_P E.1 vwCl ([coC E x a a2 a3 b d k pa y w, stC E a g, sbO E y v_38 ml_2 Lq_41.length, baC E v_38 cp_39 t_40] : List va_W).flatten H := hP
  have hD : va_D A ([coC E x a a2 a3 b d k pa y w, stC E a g, sbO E y v_38 ml_2 Lq_41.length, baC E v_38 cp_39 t_40] : List va_W).flatten := hD
  refine lv_bipush (v := nI 36) hx hb dX5_writeMember_107 (by decide) ?_
  refine run_q (S := Nat × Nat × (Nat → Nat)) (run_Vx (As := [.int (nI 36)]) (rest := []) (bs := [coC E x a a2 a3 b d k pa y w, stC E a g, sbO E y v_38 ml_2 Lq_41.length, baC E v_38 cp_39 t_40]) (cb := [sbO E y v_38 ml_2 Lq_41.length, baC E v_38 cp_39 t_40]) hx hb hml hown hts hK hZ hDD hA (c_J4_append_cf468 l E _ y v_38 ml_2 cp_39 t_40 Lq_41 htq_41 hmq_41 hLq_41 hnq_41 36 (by decide) (by omega)) l_X5_305 rfl ⟨⟨rfl, rfl⟩, Nat.le_of_ble_eq_true rfl, Nat.le_of_ble_eq_true rfl⟩ 1 rfl [2, 3] rfl (by decide) rfl hP hD hS hl.1 rfl (Nat.le_of_ble_eq_true rfl) dX5_writeMember_109 ⟨Nat.le_of_ble_eq_true rfl, Nat.le_of_ble_eq_true rfl⟩) hA hP hD hS (isC := [2, 3]) rfl [0, 1] [0, 1, 2, 3] (br := [coC E x a a2 a3 b d k pa y w, stC E a g]) (bs2 := fun u => [coC E x a a2 a3 b d k pa y w, stC E a g, sbO E y u.1 ml_2 ((Lq_41 ++ [36]).length), baC E u.1 u.2.1 u.2.2]) rfl (by decide) (fun _ => rfl) (by decide) (fun ⟨v_42, cp_43, t_44⟩ H locs hw hP hD hS => ?_)
  obtain ⟨hLq_45, hnq_45, hmq_45, htq_45⟩ := hw
  have hnq_45 : (Lq_41 ++ [36]).length ≤ cp_43 := hnq_45
  have hmq_45 : cp_43 = 16 ∨ cp_43 = 34 := hmq_45
  have htq_45 : ∀ j, t_44 j < 128 := htq_45
  have hLq_45 : TX t_44 (Lq_41 ++ [36]) := hLq_45
  obtain ⟨Lq_45, eq_45⟩ : ∃ L9, L9 = (Lq_41 ++ [36]) := ⟨_, rfl⟩
  have lq_45 : Lq_45.length = Lq_41.length + 1 := by rw [eq_45, List.length_append] <;> rfl
  rw [← eq_45] at hLq_45 hnq_45 hP hD
  have hP : va_P E.1 vwCl ([coC E x a a2 a3 b d k pa y w, stC E a g, sbO E y v_42 ml_2 Lq_45.length, baC E v_42 cp_43 t_44] : List va_W).flatten H := hP
  have hD : va_D A ([coC E x a a2 a3 b d k pa y w, stC E a g, sbO E y v_42 ml_2 Lq_45.length, baC E v_42 cp_43 t_44] : List va_W).flatten := hD
  refine lv_aload_n hx hb dX5_writeMember_112 rfl (lv_at hl 0 rfl) ?_
  refine va_get (D := E.1) (ci := 9) (v := .ref (a 0)) (C := RX5) (T := TX5) (N := 11) hx hb hts inX5 hown hK hP 0 rfl rfl 0 (by decide) (hts _ q246) (fun _ h9 => h9) rfl dX5_writeMember_113 ?_
  refine va_get (D := E.1) (ci := 8) (v := .ref (a 6)) (C := RX4) (T := TX4) (N := 16) hx hb hts inX4 hown hK hP 1 rfl rfl 5 (by decide) (hts _ q80) (fun _ h9 => h9) rfl dX5_writeMember_116 ?_
  refine lv_iload_n hx hb dX5_writeMember_119 rfl (lv_at hl 1 rfl) ?_
  refine nv_iald (f := (g 5)) (i := tn p0) (n := 8) hx hb hK hP 7 0 rfl rfl (by omega) (by decide) dX5_writeMember_120 ?_
  refine run_q (S := Nat × Nat × (Nat → Nat)) (run_Vx (As := [.int (nI (g 5 (tn p0)))]) (rest := []) (bs := [coC E x a a2 a3 b d k pa y w, stC E a g, sbO E y v_42 ml_2 Lq_45.length, baC E v_42 cp_43 t_44]) (cb := [sbO E y v_42 ml_2 Lq_45.length, baC E v_42 cp_43 t_44]) hx hb hml hown hts hK hZ hDD hA (c_J4_append_bf812 l E _ y v_42 ml_2 cp_43 t_44 Lq_45 htq_45 hmq_45 hLq_45 hnq_45 (g 5 (tn p0)) (by omega) (by omega)) l_X5_301 rfl ⟨⟨rfl, rfl⟩, Nat.le_of_ble_eq_true rfl, Nat.le_of_ble_eq_true rfl⟩ 1 rfl [2, 3] rfl (by decide) rfl hP hD hS hl.1 rfl (Nat.le_of_ble_eq_true rfl) dX5_writeMember_121 ⟨Nat.le_of_ble_eq_true rfl, Nat.le_of_ble_eq_true rfl⟩) hA hP hD hS (isC := [2, 3]) rfl [0, 1] [0, 1, 2, 3] (br := [coC E x a a2 a3 b d k pa y w, stC E a g]) (bs2 := fun u => [coC E x a a2 a3 b d k pa y w, stC E a g, sbO E y u.1 ml_2 ((Lq_45 ++ dgs (g 5 (tn p0))).length), baC E u.1 u.2.1 u.2.2]) rfl (by decide) (fun _ => rfl) (by decide) (fun ⟨v_46, cp_47, t_48⟩ H locs hw hP hD hS => ?_)
  obtain ⟨hLq_49, hnq_49, hmq_49, htq_49⟩ := hw
  have hnq_49 : (Lq_45 ++ dgs (g 5 (tn p0))).length ≤ cp_47 := hnq_49
  have hmq_49 : cp_47 = 16 ∨ cp_47 = 34 := hmq_49
  have htq_49 : ∀ j, t_48 j < 128 := htq_49
  have hLq_49 : TX t_48 (Lq_45 ++ dgs (g 5 (tn p0))) := hLq_49
  obtain ⟨Lq_49, eq_49⟩ : ∃ L9, L9 = (Lq_45 ++ dgs (g 5 (tn p0))) := ⟨_, rfl⟩
  have lq_49 : Lq_49.length = Lq_45.length + (dgs (g 5 (tn p0))).length := by rw [eq_49, List.length_append] <;> rfl
  rw [← eq_49] at hLq_49 hnq_49 hP hD
  have hP : va_P E.1 vwCl ([coC E x a a2 a3 b d k pa y w, stC E a g, sbO E y v_46 ml_2 Lq_49.length, baC E v_46 cp_47 t_48] : List va_W).flatten H := hP
  have hD : va_D A ([coC E x a a2 a3 b d k pa y w, stC E a g, sbO E y v_46 ml_2 Lq_49.length, baC E v_46 cp_47 t_48] : List va_W).flatten := hD
  refine lv_pop hx hb dX5_writeMember_124 rfl ?_
  refine lv_aload_n hx hb dX5_writeMember_125 rfl (lv_at hl 0 rfl) ?_
  refine va_get (D := E.1) (ci := 9) (v := .ref (y 0)) (C := RX5) (T := TX5) (N := 11) hx hb hts inX5 hown hK hP 0 rfl rfl 7 (by decide) (hts _ q253) (fun _ h9 => h9) rfl dX5_writeMember_126 ?_
  refine run_i (S := Unit) (run_V (As := []) (rest := []) (bs := [coC E x a a2 a3 b d k pa y w, stC E a g, sbO E y v_46 ml_2 Lq_49.length, baC E v_46 cp_47 t_48]) (cb := [sbO E y v_46 ml_2 Lq_49.length]) hx hb hml hown hts hK hZ hA (c_J4_length_8abf5 l E _ y v_46 ml_2 Lq_49.length) l_X5_314 rfl ⟨⟨rfl, rfl⟩, Nat.le_of_ble_eq_true rfl, Nat.le_of_ble_eq_true rfl⟩ 1 rfl [2] rfl (by decide) rfl hP hD hS hl.1 rfl (Nat.le_of_ble_eq_true rfl) dX5_writeMember_129 ⟨Nat.le_of_ble_eq_true rfl, Nat.le_of_ble_eq_true rfl⟩) hA hP hD hS (isC := [2]) rfl [0, 1, 3] [0, 1, 3, 2] (br := [coC E x a a2 a3 b d k pa y w, stC E a g, baC E v_46 cp_47 t_48]) (bs2 := fun _ => [coC E x a a2 a3 b d k pa y w, stC E a g, sbO E y v_46 ml_2 Lq_49.length, baC E v_46 cp_47 t_48]) rfl (by decide) (fun _ => rfl) (by decide) (fun r u H locs hw hP hD hS => ?_)
  subst hw
  have hLm : Lq_49 = memL g (tn p0) := by rw [eq_49, eq_45, eq_41, eq_37, eq_33, eq_29, eq_25, eq_21, eq_17, eq_13, eq_9]; simp [memL]
  rw [show sbO E y v_46 ml_2 Lq_49.length = sbO E y v_46 ml_2 ((memL g (tn p0)).length) from by rw [hLm]] at hP hD
  rw [hLm] at hLq_49 hnq_49
  exact hret _ _ (nI Lq_49.length) (v_46, ml_2, cp_47, t_48) _ _ _ _ hP hD hS rfl ⟨hhp0, by rw [hLm], hLq_49, hnq_49, hmq_49, htq_49⟩ dX5_writeMember_132 (by omega) (by omega)
abbrev rm_X5_outputAt : Room := { frames := 6, cells := 1, slots := 6, locals := 100 }
