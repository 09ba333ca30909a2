/-! digits -/
theorem dgs_1 {n : Nat} (h : n ≤ 9) : dgs n = [48 + n % 10] := by
  unfold dgs; rw [if_neg (by omega), if_neg (by omega), if_neg (by omega), if_neg (by omega), if_neg (by omega)]; rfl
theorem dgs_2 {n : Nat} (h : 9 < n) (h2 : n ≤ 99) : dgs n = [48 + n / 10 % 10, 48 + n % 10] := by
  unfold dgs; rw [if_neg (by omega), if_neg (by omega), if_neg (by omega), if_neg (by omega), if_pos h]; rfl
theorem dgs_3 {n : Nat} (h : 99 < n) (h2 : n ≤ 999) : dgs n = [48 + n / 100 % 10, 48 + n / 10 % 10, 48 + n % 10] := by
  unfold dgs; rw [if_neg (by omega), if_neg (by omega), if_neg (by omega), if_pos h, if_pos (by omega)]; rfl
theorem dgs_4 {n : Nat} (h : 999 < n) (h2 : n ≤ 9999) : dgs n = [48 + n / 1000 % 10, 48 + n / 100 % 10, 48 + n / 10 % 10, 48 + n % 10] := by
  unfold dgs; rw [if_neg (by omega), if_neg (by omega), if_pos h, if_pos (by omega), if_pos (by omega)]; rfl
theorem dgs_5 {n : Nat} (h : 9999 < n) (h2 : n ≤ 99999) : dgs n = [48 + n / 10000 % 10, 48 + n / 1000 % 10, 48 + n / 100 % 10, 48 + n / 10 % 10, 48 + n % 10] := by
  unfold dgs; rw [if_neg (by omega), if_pos h, if_pos (by omega), if_pos (by omega), if_pos (by omega)]; rfl
theorem dgs_6 {n : Nat} (h : 99999 < n) : dgs n = [48 + n / 100000 % 10, 48 + n / 10000 % 10, 48 + n / 1000 % 10, 48 + n / 100 % 10, 48 + n / 10 % 10, 48 + n % 10] := by
  unfold dgs; rw [if_pos h, if_pos (by omega), if_pos (by omega), if_pos (by omega), if_pos (by omega)]; rfl
/-- how many digits -/
theorem dgs_l {n k : Nat} (hk : k < 6) (h1 : k = 0 ∨ 10 ^ k ≤ n) (h2 : n < 10 ^ (k + 1)) : (dgs n).length = k + 1 := by
  rcases (show k = 0 ∨ k = 1 ∨ k = 2 ∨ k = 3 ∨ k = 4 ∨ k = 5 by omega) with rfl | rfl | rfl | rfl | rfl | rfl
  · rw [dgs_1 (by omega)]; rfl
  · rw [dgs_2 (by omega) (by omega)]; rfl
  · rw [dgs_3 (by omega) (by omega)]; rfl
  · rw [dgs_4 (by omega) (by omega)]; rfl
  · rw [dgs_5 (by omega) (by omega)]; rfl
  · rw [dgs_6 (by omega)]; rfl
theorem dgs_lt {n : Nat} : ∀ c ∈ dgs n, c < 128 := by
  intro c hc
  unfold dgs at hc
  simp only [List.mem_append] at hc
  rcases hc with hc | hc | hc | hc | hc | hc <;> (try (split at hc)) <;> simp only [List.mem_singleton, List.not_mem_nil] at hc <;> omega
/-- the digits as they are written, from the last to the first -/
def DW (t : Nat → Nat) (p : Nat) (L : List Nat) : Prop := ∀ i, i < L.length → t (p + i) = L.getD i 0
theorem dw_1 {t : Nat → Nat} {p a : Nat} (h0 : t p = a) : DW t p [a] := fun i hi => by
  obtain rfl : i = 0 := by rw [List.length_singleton] at hi; omega
  exact h0
theorem dw_c {t : Nat → Nat} {p a : Nat} {L : List Nat} (h0 : t p = a) (h : DW t (p + 1) L) : DW t p (a :: L) := fun i hi => by
  cases i with
  | zero => exact h0
  | succ i => 
    have := h i (by rw [List.length_cons] at hi; omega)
    rw [show p + (i + 1) = p + 1 + i by omega]
    exact this
theorem dw_up {t : Nat → Nat} {p q a : Nat} {L : List Nat} (h : DW t p L) (hq : q < p) : DW (upn t q a) p L := fun i hi => by
  unfold upn; rw [if_neg (by omega)]; exact h i hi
theorem sg0 {i a : Nat} (h : i < [a].length) : i = 0 := by rw [List.length_singleton] at h; omega
abbrev rm_J5_append_3fe6f : Room := { frames := 4, cells := 1, slots := 34, locals := 164 }
set_option maxHeartbeats 4000000 in
set_option maxRecDepth 100000 in
theorem c_J5_append_3fe6f (l : Launch) (E : EE) (sz : Nat) (y : Nat → Nat) (v ml cp : Nat) (t : Nat → Nat) (L : List Nat) (ht : ∀ j, t j < 128) (hm : cp = 16 ∨ cp = 34) (hL : TX t L) (hn : L.length ≤ cp) (c0 : Nat) (hc : c0 < 128) (h34 : L.length + 1 ≤ 34)  : MQx l yJ5_append_3fe6f cJ5_append_3fe6f 2 (.object "java/lang/AbstractStringBuilder") rm_J5_append_3fe6f [.ref (y 0), .int (nI c0)] E sz [sbO E y v ml L.length, baC E v cp t] (fun (u : Nat × Nat × (Nat → Nat)) => TX u.2.2 (L ++ [c0]) ∧ (L ++ [c0]).length ≤ u.2.1 ∧ (u.2.1 = 16 ∨ u.2.1 = 34) ∧ (∀ j, u.2.2 j < 128)) (fun u => y 0) (fun u => [sbO E y u.1 ml (L ++ [c0]).length, baC E u.1 u.2.1 u.2.2]) 1 34 := by
  refine mq_gox (by decide) (Nat.le_of_ble_eq_true rfl) (Or.inl ⟨_, rfl⟩) ?_
  intro p e s m below meth c A Q ls hx hb hml hown hts hK hZ hDD hA hsz hP hD hl hret
  have hS : va_S A s.heap s.heap [] := va_S.rf
  have hl : lv_has ls 2 [(0, .ref (y 0)), (1, .int (nI c0))] := hl
  skip
  refine lv_aload_n hx hb dJ5_append_3fe6f_0 rfl (lv_at hl 0 rfl) ?_
  refine lv_aload_n hx hb dJ5_append_3fe6f_1 rfl (lv_at hl 0 rfl) ?_
  refine va_get (D := E.1) (ci := 1) (v := .int (nI L.length)) (C := RJ4) (T := TJ4) (N := 4) hx hb hts inJ4 hown hK hP 0 rfl rfl 3 (by decide) (hts _ q235) (fun _ h9 => h9) rfl dJ5_append_3fe6f_2 ?_
  refine lv_iconst (v := nI 1) hx hb dJ5_append_3fe6f_5 (by decide) ?_
  refine nv_iadd hx hb dJ5_append_3fe6f_6 ?_
  refine run_v (S := Nat × Nat × (Nat → Nat)) (run_Px (As := [.int (nI (L.length + 1))]) (rest := []) (bs := [sbO E y v ml L.length, baC E v cp t]) (cb := [sbO E y v ml L.length, baC E v cp t]) hx hb hml hown hts hK hZ hDD hA (c_J5_ensureCapacityInternal_d00df l E _ y v ml L.length cp t ht hm (L.length + 1) (by omega)) l_J5_100 (hDD.sel List.mem_cons_self) rfl ⟨⟨rfl, rfl⟩, Nat.le_of_ble_eq_true rfl, Nat.le_of_ble_eq_true rfl⟩ [0, 1] rfl (by decide) rfl hP hD hS hl.1 rfl (Nat.le_of_ble_eq_true rfl) dJ5_append_3fe6f_7 ⟨Nat.le_of_ble_eq_true rfl, Nat.le_of_ble_eq_true rfl⟩) hA hP hD hS (isC := [0, 1]) rfl [] [0, 1] (br := []) (bs2 := fun u => [sbO E y u.1 ml L.length, baC E u.1 u.2.1 u.2.2]) rfl (by decide) (fun _ => rfl) (by decide) (fun u H locs hw hP hD hS => ?_)
  obtain ⟨v_1, cp_2, t_3⟩ := u
  obtain ⟨he1, he2, he3, he4⟩ := hw
  have he1 : (L.length + 1) ≤ cp_2 := he1
  have he2 : cp_2 = 16 ∨ cp_2 = 34 := he2
  have he3 : ∀ j, t_3 j < 128 := he3
  have he4 : ∀ j, j < cp → t_3 j = t j := he4
  have hP : va_P E.1 vwCl ([sbO E y v_1 ml L.length, baC E v_1 cp_2 t_3] : List va_W).flatten H := hP
  have hD : va_D A ([sbO E y v_1 ml L.length, baC E v_1 cp_2 t_3] : List va_W).flatten := hD
  refine lv_aload_n hx hb dJ5_append_3fe6f_10 rfl (lv_at hl 0 rfl) ?_
  refine run_i (S := Unit) (run_P (As := []) (rest := []) (bs := [sbO E y v_1 ml L.length, baC E v_1 cp_2 t_3]) (cb := [sbO E y v_1 ml L.length]) hx hb hml hown hts hK hZ hA (c_J5_isLatin1_aae02 l E _ y v_1 ml L.length) l_J5_83 (hts _ q756) rfl ⟨⟨rfl, rfl⟩, Nat.le_of_ble_eq_true rfl, Nat.le_of_ble_eq_true rfl⟩ [0] rfl (by decide) rfl hP hD hS hl.1 rfl (Nat.le_of_ble_eq_true rfl) dJ5_append_3fe6f_11 ⟨Nat.le_of_ble_eq_true rfl, Nat.le_of_ble_eq_true rfl⟩) hA hP hD hS (isC := [0]) rfl [1] [1, 0] (br := [baC E v_1 cp_2 t_3]) (bs2 := fun _ => [sbO E y v_1 ml L.length, baC E v_1 cp_2 t_3]) rfl (by decide) (fun _ => rfl) (by decide) (fun r u H locs hw hP hD hS => ?_)
  subst hw
  refine bv_if_eq hx hb (tgt := 45) dJ5_append_3fe6f_14 (by decide) (fun c_4 => ?_) (fun c_4 => ?_)
  · exact absurd c_4 (by decide)
  · skip
    refine lv_iload_n hx hb dJ5_append_3fe6f_17 rfl (lv_at hl 1 rfl) ?_
    refine run_i (S := Unit) (run_S (As := [.int (nI c0)]) (rest := []) (bs := [sbO E y v_1 ml L.length, baC E v_1 cp_2 t_3]) (cb := []) hx hb hml hown hts hK hZ hA (c_J1_canEncode_fc78d l E _ c0 (by omega)) l_J5_191 rfl ⟨⟨rfl, rfl⟩, Nat.le_of_ble_eq_true rfl, Nat.le_of_ble_eq_true rfl⟩ [] rfl (by decide) hP hD hS hl.1 rfl (Nat.le_of_ble_eq_true rfl) dJ5_append_3fe6f_18 ⟨Nat.le_of_ble_eq_true rfl, Nat.le_of_ble_eq_true rfl⟩) hA hP hD hS (isC := []) rfl [0, 1] [0, 1] (br := [sbO E y v_1 ml L.length, baC E v_1 cp_2 t_3]) (bs2 := fun _ => [sbO E y v_1 ml L.length, baC E v_1 cp_2 t_3]) rfl (by decide) (fun _ => rfl) (by decide) (fun r u H locs hw hP hD hS => ?_)
    subst hw
    refine bv_if_eq hx hb (tgt := 45) dJ5_append_3fe6f_21 (by decide) (fun c_5 => ?_) (fun c_5 => ?_)
    · exact absurd c_5 (by decide)
    · skip
      refine lv_aload_n hx hb dJ5_append_3fe6f_24 rfl (lv_at hl 0 rfl) ?_
      refine va_get (D := E.1) (ci := 1) (v := .ref v_1) (C := RJ4) (T := TJ4) (N := 4) hx hb hts inJ4 hown hK hP 0 rfl rfl 0 (by decide) (hts _ q231) (fun _ h9 => h9) rfl dJ5_append_3fe6f_25 ?_
      refine lv_aload_n hx hb dJ5_append_3fe6f_28 rfl (lv_at hl 0 rfl) ?_
      refine lv_dup hx hb dJ5_append_3fe6f_29 rfl ?_
      refine va_get (D := E.1) (ci := 1) (v := .int (nI L.length)) (C := RJ4) (T := TJ4) (N := 4) hx hb hts inJ4 hown hK hP 0 rfl rfl 3 (by decide) (hts _ q235) (fun _ h9 => h9) rfl dJ5_append_3fe6f_30 ?_
      refine lv_dup_x1 hx hb dJ5_append_3fe6f_33 rfl rfl ?_
      refine lv_iconst (v := nI 1) hx hb dJ5_append_3fe6f_34 (by decide) ?_
      refine nv_iadd hx hb dJ5_append_3fe6f_35 ?_
      refine va_put (D := E.1) (ci := 1) (v := .int (nI (L.length + 1))) (ty := .int) (C := RJ4) (T := TJ4) (N := 4) hx hb hts inJ4 tyJ4 tyJ4_ok nmJ4 hown hK hP hD hS 0 rfl rfl 3 (by decide) (hts _ q235) (fun _ h9 => h9) rfl (by decide +kernel) rfl rfl (Nat.le_of_ble_eq_true rfl) dJ5_append_3fe6f_36 (fun H locs hP hD hS => ?_)
      have hP : va_P E.1 vwCl ([sbO E y v_1 ml (L.length + 1), baC E v_1 cp_2 t_3] : List va_W).flatten H := hP
      have hD : va_D A ([sbO E y v_1 ml (L.length + 1), baC E v_1 cp_2 t_3] : List va_W).flatten := hD
      refine lv_iload_n hx hb dJ5_append_3fe6f_39 rfl (lv_at hl 1 rfl) ?_
      refine lv_i2b hx hb dJ5_append_3fe6f_40 (i2b_n _ hc) ?_
      refine nv_bast (f := t_3) (i := L.length) (v := c0) (n := cp_2) hx hb hK hP hD hS 1 2 rfl rfl (by omega) (by omega) (by omega) dJ5_append_3fe6f_41 (fun H locs hP hD hS => ?_)
      have hP : va_P E.1 vwCl ([sbO E y v_1 ml (L.length + 1), baC E v_1 cp_2 (upn t_3 L.length c0)] : List va_W).flatten H := hP
      have hD : va_D A ([sbO E y v_1 ml (L.length + 1), baC E v_1 cp_2 (upn t_3 L.length c0)] : List va_W).flatten := hD
      refine lv_goto (tgt := 75) hx hb dJ5_append_3fe6f_42 (by decide) ?_
      refine lv_aload_n hx hb dJ5_append_3fe6f_75 rfl (lv_at hl 0 rfl) ?_
      rw [show sbO E y v_1 ml (L.length + 1) = sbO E y v_1 ml ((L ++ [c0]).length) from by rw [List.length_append]; rfl] at hP hD
      exact hret _ _ (v_1, cp_2, (upn t_3 L.length c0)) _ _ _ _ hP hD hS ⟨TX_app (fun j hj => (upn_n (by omega)).trans ((he4 j (by omega)).trans (hL j hj))) (fun i hi => by rw [sg0 hi]; exact upn_s), by rw [List.length_append]; exact he1, he2, fun j => by show upn _ L.length c0 j < 128; unfold upn; split; exact hc; exact he3 j⟩ dJ5_append_3fe6f_76 (by omega) (by omega)
abbrev rm_J4_append_cf468 : Room := { frames := 5, cells := 1, slots := 34, locals := 185 }
set_option maxHeartbeats 4000000 in
set_option maxRecDepth 100000 in
theorem c_J4_append_cf468 (l : Launch) (E : EE) (sz : Nat) (y : Nat → Nat) (v ml cp : Nat) (t : Nat → Nat) (L : List Nat) (ht : ∀ j, t j < 128) (hm : cp = 16 ∨ cp = 34) (hL : TX t L) (hn : L.length ≤ cp) (c0 : Nat) (hc : c0 < 128) (h34 : L.length + 1 ≤ 34)  : MQx l yJ4_append_cf468 cJ4_append_cf468 2 (.object "java/lang/StringBuilder") rm_J4_append_cf468 [.ref (y 0), .int (nI c0)] E sz [sbO E y v ml L.length, baC E v cp t] (fun (u : Nat × Nat × (Nat → Nat)) => TX u.2.2 (L ++ [c0]) ∧ (L ++ [c0]).length ≤ u.2.1 ∧ (u.2.1 = 16 ∨ u.2.1 = 34) ∧ (∀ j, u.2.2 j < 128)) (fun u => y 0) (fun u => [sbO E y u.1 ml (L ++ [c0]).length, baC E u.1 u.2.1 u.2.2]) 1 34 := by
  refine mq_gox (by decide) (Nat.le_of_ble_eq_true rfl) (Or.inl ⟨_, rfl⟩) ?_
  intro p e s m below meth c A Q ls hx hb hml hown hts hK hZ hDD hA hsz hP hD hl hret
  have hS : va_S A s.heap s.heap [] := va_S.rf
  have hl : lv_has ls 2 [(0, .ref (y 0)), (1, .int (nI c0))] := hl
  skip
  refine lv_aload_n hx hb dJ4_append_cf468_0 rfl (lv_at hl 0 rfl) ?_
  refine lv_iload_n hx hb dJ4_append_cf468_1 rfl (lv_at hl 1 rfl) ?_
  refine run_q (S := Nat × Nat × (Nat → Nat)) (run_SUx (As := [.int (nI c0)]) (rest := []) (bs := [sbO E y v ml L.length, baC E v cp t]) (cb := [sbO E y v ml L.length, baC E v cp t]) hx hb hml hown hts hK hZ hDD hA (c_J5_append_3fe6f l E _ y v ml cp t L ht hm hL hn c0 hc h34) l_J4_50 rfl ⟨⟨rfl, rfl⟩, Nat.le_of_ble_eq_true rfl, Nat.le_of_ble_eq_true rfl⟩ [0, 1] rfl (by decide) rfl hP hD hS hl.1 rfl (Nat.le_of_ble_eq_true rfl) dJ4_append_cf468_2 ⟨Nat.le_of_ble_eq_true rfl, Nat.le_of_ble_eq_true rfl⟩) hA hP hD hS (isC := [0, 1]) rfl [] [0, 1] (br := []) (bs2 := fun u => [sbO E y u.1 ml ((L ++ [c0]).length), baC E u.1 u.2.1 u.2.2]) rfl (by decide) (fun _ => rfl) (by decide) (fun ⟨v_1, cp_2, t_3⟩ H locs hw hP hD hS => ?_)
  obtain ⟨hLq_4, hnq_4, hmq_4, htq_4⟩ := hw
  have hnq_4 : (L ++ [c0]).length ≤ cp_2 := hnq_4
  have hmq_4 : cp_2 = 16 ∨ cp_2 = 34 := hmq_4
  have htq_4 : ∀ j, t_3 j < 128 := htq_4
  have hLq_4 : TX t_3 (L ++ [c0]) := hLq_4
  have hP : va_P E.1 vwCl ([sbO E y v_1 ml ((L ++ [c0]).length), baC E v_1 cp_2 t_3] : List va_W).flatten H := hP
  have hD : va_D A ([sbO E y v_1 ml ((L ++ [c0]).length), baC E v_1 cp_2 t_3] : List va_W).flatten := hD
  refine lv_pop hx hb dJ4_append_cf468_5 rfl ?_
  refine lv_aload_n hx hb dJ4_append_cf468_6 rfl (lv_at hl 0 rfl) ?_
  exact hret _ _ (v_1, cp_2, t_3) _ _ _ _ hP hD hS ⟨hLq_4, hnq_4, hmq_4, htq_4⟩ dJ4_append_cf468_7 (by omega) (by omega)
