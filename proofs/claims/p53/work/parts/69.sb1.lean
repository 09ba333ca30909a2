theorem l_J5_83 : (Cond.methodLink RJ5 83 yJ5_isLatin1_aae02 ∈ TG ∧ Cond.instanceMethod yJ5_isLatin1_aae02 ∈ TG ∧ Cond.code yJ5_isLatin1_aae02 cJ5_isLatin1_aae02 1 (some .boolean) ∈ TG) ∧ (yJ5_isLatin1_aae02.cls = RJ5 ∧ yJ5_isLatin1_aae02.cls ≠ "java/lang/invoke/MethodHandle" ∧ yJ5_isLatin1_aae02.cls ≠ "java/lang/invoke/VarHandle" ∧ (parseMethodDescriptor yJ5_isLatin1_aae02.desc).map (fun d => d.parameters.length) = some 0) := ⟨⟨q753, q754, q757⟩, by decide +kernel⟩
theorem l_J5_100 : (Cond.methodLink RJ5 100 yJ5_ensureCapacityInternal_d00df ∈ TG ∧ Cond.instanceMethod yJ5_ensureCapacityInternal_d00df ∈ TG ∧ Cond.code yJ5_ensureCapacityInternal_d00df cJ5_ensureCapacityInternal_d00df 3 none ∈ TG) ∧ (yJ5_ensureCapacityInternal_d00df.cls = RJ5 ∧ yJ5_ensureCapacityInternal_d00df.cls ≠ "java/lang/invoke/MethodHandle" ∧ yJ5_ensureCapacityInternal_d00df.cls ≠ "java/lang/invoke/VarHandle" ∧ (parseMethodDescriptor yJ5_ensureCapacityInternal_d00df.desc).map (fun d => d.parameters.length) = some 1) := ⟨⟨q722, q724, q725⟩, by decide +kernel⟩
theorem l_J5_104 : (Cond.methodLink RJ5 104 yJ5_newCapacity_0f7a4 ∈ TG ∧ Cond.instanceMethod yJ5_newCapacity_0f7a4 ∈ TG ∧ Cond.code yJ5_newCapacity_0f7a4 cJ5_newCapacity_0f7a4 6 (some .int) ∈ TG) ∧ (yJ5_newCapacity_0f7a4.cls = RJ5 ∧ yJ5_newCapacity_0f7a4.cls ≠ "java/lang/invoke/MethodHandle" ∧ yJ5_newCapacity_0f7a4.cls ≠ "java/lang/invoke/VarHandle" ∧ (parseMethodDescriptor yJ5_newCapacity_0f7a4.desc).map (fun d => d.parameters.length) = some 1) := ⟨⟨q726, q728, q729⟩, by decide +kernel⟩
theorem l_J4_50 : (Cond.methodLink RJ4 50 yJ5_append_3fe6f ∈ TG ∧ Cond.instanceMethod yJ5_append_3fe6f ∈ TG ∧ Cond.sameMethod yJ5_append_3fe6f.cls yJ5_append_3fe6f.cls yJ5_append_3fe6f.name yJ5_append_3fe6f.desc ∈ TG ∧ Cond.code yJ5_append_3fe6f cJ5_append_3fe6f 2 (some (.object "java/lang/AbstractStringBuilder")) ∈ TG) ∧ (yJ5_append_3fe6f.cls = RJ5 ∧ yJ5_append_3fe6f.name ≠ "<init>" ∧ (parseMethodDescriptor yJ5_append_3fe6f.desc).map (fun d => d.parameters.length) = some 1) := ⟨⟨q1227, q1228, (tg_of 1422 (by decide +kernel) (by decide +kernel)), q1229⟩, by decide +kernel⟩
theorem l_J4_53 : (Cond.methodLink RJ4 53 yJ5_append_c97b9 ∈ TG ∧ Cond.instanceMethod yJ5_append_c97b9 ∈ TG ∧ Cond.sameMethod yJ5_append_c97b9.cls yJ5_append_c97b9.cls yJ5_append_c97b9.name yJ5_append_c97b9.desc ∈ TG ∧ Cond.code yJ5_append_c97b9 cJ5_append_c97b9 4 (some (.object "java/lang/AbstractStringBuilder")) ∈ TG) ∧ (yJ5_append_c97b9.cls = RJ5 ∧ yJ5_append_c97b9.name ≠ "<init>" ∧ (parseMethodDescriptor yJ5_append_c97b9.desc).map (fun d => d.parameters.length) = some 1) := ⟨⟨q831, q832, (tg_of 1420 (by decide +kernel) (by decide +kernel)), q833⟩, by decide +kernel⟩
theorem l_J4_333 : (Cond.methodLink RJ4 333 yJ5_setLength_d00df ∈ TG ∧ Cond.instanceMethod yJ5_setLength_d00df ∈ TG ∧ Cond.sameMethod yJ5_setLength_d00df.cls yJ5_setLength_d00df.cls yJ5_setLength_d00df.name yJ5_setLength_d00df.desc ∈ TG ∧ Cond.code yJ5_setLength_d00df cJ5_setLength_d00df 2 none ∈ TG) ∧ (yJ5_setLength_d00df.cls = RJ5 ∧ yJ5_setLength_d00df.name ≠ "<init>" ∧ (parseMethodDescriptor yJ5_setLength_d00df.desc).map (fun d => d.parameters.length) = some 1) := ⟨⟨q1174, q1175, (tg_of 1421 (by decide +kernel) (by decide +kernel)), q1176⟩, by decide +kernel⟩
theorem l_J4_343 : (Cond.methodLink RJ4 343 yJ5_length_8abf5 ∈ TG ∧ Cond.instanceMethod yJ5_length_8abf5 ∈ TG ∧ Cond.sameMethod yJ5_length_8abf5.cls yJ5_length_8abf5.cls yJ5_length_8abf5.name yJ5_length_8abf5.desc ∈ TG ∧ Cond.code yJ5_length_8abf5 cJ5_length_8abf5 1 (some .int) ∈ TG) ∧ (yJ5_length_8abf5.cls = RJ5 ∧ yJ5_length_8abf5.name ≠ "<init>" ∧ (parseMethodDescriptor yJ5_length_8abf5.desc).map (fun d => d.parameters.length) = some 0) := ⟨⟨q878, q873, (tg_of 874 (by decide +kernel) (by decide +kernel)), q879⟩, by decide +kernel⟩
theorem l_J5_191 : CWS RJ5 191 yJ1_canEncode_fc78d cJ1_canEncode_fc78d 1 (some .boolean) 1 := ⟨⟨q1230, q1231, q45, q1232⟩, by decide +kernel⟩
theorem l_J5_114 : CWS RJ5 114 yJ8_newLength_cabcc cJ8_newLength_cabcc 4 (some .int) 3 := ⟨⟨q730, q731, q42, q732⟩, by decide +kernel⟩
theorem l_J8_194 : CWS RJ8 194 yJ9_max_7cf53 cJ9_max_7cf53 2 (some .int) 2 := ⟨⟨q733, q734, q39, q735⟩, by decide +kernel⟩
theorem l_J5_108 : CWS RJ5 108 yJ7_copyOf_9075b cJ7_copyOf_9075b 3 (some (.array .byte)) 2 := ⟨⟨q741, q742, q43, q743⟩, by decide +kernel⟩
theorem l_J7_304 : CWS RJ7 304 yJ9_min_7cf53 cJ9_min_7cf53 2 (some .int) 2 := ⟨⟨q751, q502, q39, q503⟩, by decide +kernel⟩
theorem l_J5_245 : CWS RJ5 245 yJ6_stringSize_0f7a4 cJ6_stringSize_0f7a4 4 (some .int) 1 := ⟨⟨q834, q835, q47, q836⟩, by decide +kernel⟩
theorem l_J5_248 : CWS RJ5 248 yJ6_getChars_ba4f3 cJ6_getChars_ba4f3 7 (some .int) 3 := ⟨⟨q837, q838, q47, q839⟩, by decide +kernel⟩
abbrev rm_J5_isLatin1_aae02 : Room := { frames := 0, cells := 0, slots := 0, locals := 0 }
set_option maxHeartbeats 4000000 in
set_option maxRecDepth 100000 in
theorem c_J5_isLatin1_aae02 (l : Launch) (E : EE) (sz : Nat) (y : Nat → Nat) (v ml n : Nat)  : MI l yJ5_isLatin1_aae02 cJ5_isLatin1_aae02 1 .boolean rm_J5_isLatin1_aae02 [.ref (y 0)] E sz [sbO E y v ml n] (fun (r : Int32) (_ : Unit) => r = bI true) (fun _ => [sbO E y v ml n]) 0 0 := by
  refine mi_go (by decide) (Nat.le_of_ble_eq_true rfl) ?_
  intro p e s m below meth c A Q ls hx hb hml hown hts hK hZ hA hsz hP hD hl hret
  have hS : va_S A s.heap s.heap [] := va_S.rf
  have hl : lv_has ls 1 [(0, .ref (y 0))] := hl
  skip
  refine va_gets hx hb hZ.2.2.2.2.2.1.1 hS hown (hts _ q222) (fun _ h => h) dJ5_isLatin1_aae02_0 ?_
  refine tp_i (show (1 : Int32) = nI 1 from rfl) ?_
  refine nv_if_eq (X := ((1 : Nat) : Int)) hx hb (nI_toInt (by omega)) (tgt := 17) dJ5_isLatin1_aae02_3 (by decide) (fun c_1 => ?_) (fun c_1 => ?_)
  · exact absurd c_1 (by omega)
  · skip
    refine lv_aload_n hx hb dJ5_isLatin1_aae02_6 rfl (lv_at hl 0 rfl) ?_
    refine va_get (D := E.1) (ci := 1) (v := .int (nI 0)) (C := RJ4) (T := TJ4) (N := 4) hx hb hts inJ4 hown hK hP 0 rfl rfl 1 (by decide) (hts _ q232) (fun _ h9 => h9) rfl dJ5_isLatin1_aae02_7 ?_
    refine nv_if_ne (X := ((0 : Nat) : Int)) hx hb (nI_toInt (by omega)) (tgt := 17) dJ5_isLatin1_aae02_10 (by decide) (fun c_2 => ?_) (fun c_2 => ?_)
    · exact absurd c_2 (by omega)
    · skip
      refine lv_iconst (v := nI 1) hx hb dJ5_isLatin1_aae02_13 (by decide) ?_
      refine lv_goto (tgt := 18) hx hb dJ5_isLatin1_aae02_14 (by decide) ?_
      exact hret _ _ (nI 1) () _ _ hP hD hS (by decide) rfl dJ5_isLatin1_aae02_18
abbrev rm_J1_canEncode_fc78d : Room := { frames := 0, cells := 0, slots := 0, locals := 0 }
set_option maxHeartbeats 4000000 in
set_option maxRecDepth 100000 in
theorem c_J1_canEncode_fc78d (l : Launch) (E : EE) (sz : Nat) (n0 : Nat) (h : n0 < 128) : MI l yJ1_canEncode_fc78d cJ1_canEncode_fc78d 1 .boolean rm_J1_canEncode_fc78d [.int (nI n0)] E sz [] (fun (r : Int32) (_ : Unit) => r = bI true) (fun _ => []) 0 0 := by
  refine mi_go (by decide) (Nat.le_of_ble_eq_true rfl) ?_
  intro p e s m below meth c A Q ls hx hb hml hown hts hK hZ hA hsz hP hD hl hret
  have hS : va_S A s.heap s.heap [] := va_S.rf
  have hl : lv_has ls 1 [(0, .int (nI n0))] := hl
  skip
  refine lv_iload_n hx hb dJ1_canEncode_fc78d_0 rfl (lv_at hl 0 rfl) ?_
  refine lv_sipush (v := nI 255) hx hb dJ1_canEncode_fc78d_1 (by decide) ?_
  refine nv_icmp_gt (X := ((n0 : Nat) : Int)) (Y := ((255 : Nat) : Int)) hx hb (nI_toInt (by omega)) (nI_toInt (by omega)) (tgt := 11) dJ1_canEncode_fc78d_4 (by decide) (fun c_1 => ?_) (fun c_1 => ?_)
  · exact absurd c_1 (by omega)
  · skip
    refine lv_iconst (v := nI 1) hx hb dJ1_canEncode_fc78d_7 (by decide) ?_
    refine lv_goto (tgt := 12) hx hb dJ1_canEncode_fc78d_8 (by decide) ?_
    exact hret _ _ (nI 1) () _ _ hP hD hS (by decide) rfl dJ1_canEncode_fc78d_12
abbrev rm_J8_newLength_cabcc : Room := { frames := 1, cells := 0, slots := 0, locals := 30 }
set_option maxHeartbeats 4000000 in
set_option maxRecDepth 100000 in
theorem c_J8_newLength_cabcc (l : Launch) (E : EE) (sz : Nat) (n0 n1 n2 : Nat) (h0 : n0 ≤ 1000) (h1 : n1 ≤ 1000) (h2 : n2 ≤ 1000) (h3 : 0 < n0) : MI l yJ8_newLength_cabcc cJ8_newLength_cabcc 4 .int rm_J8_newLength_cabcc [.int (nI n0), .int (nI n1), .int (nI n2)] E sz [] (fun (r : Int32) (_ : Unit) => r = nI (n0 + (if n1 < n2 then n2 else n1))) (fun _ => []) 0 0 := by
  refine mi_go (by decide) (Nat.le_of_ble_eq_true rfl) ?_
  intro p e s m below meth c A Q ls hx hb hml hown hts hK hZ hA hsz hP hD hl hret
  have hS : va_S A s.heap s.heap [] := va_S.rf
  have hl : lv_has ls 4 [(0, .int (nI n0)), (1, .int (nI n1)), (2, .int (nI n2))] := hl
  skip
  refine lv_iload_n hx hb dJ8_newLength_cabcc_0 rfl (lv_at hl 0 rfl) ?_
  refine lv_iload_n hx hb dJ8_newLength_cabcc_1 rfl (lv_at hl 1 rfl) ?_
  refine lv_iload_n hx hb dJ8_newLength_cabcc_2 rfl (lv_at hl 2 rfl) ?_
  refine va_mmax hx hb (hml.trans hl.1.symm) hown (hts _ q733) (hts _ q734) (hts _ q39) (hts _ q735) (Nat.le_of_ble_eq_true rfl) (Nat.le_of_ble_eq_true rfl) (Nat.le_of_ble_eq_true rfl) (Nat.le_of_ble_eq_true rfl) dJ8_newLength_cabcc_3 ?_
  refine tp_i (nI_mx (a := n1) (b := n2) (by omega) (by omega)) ?_
  have hmx : (if n1 < n2 then n2 else n1) ≤ 1000 := by split <;> omega
  refine nv_iadd hx hb dJ8_newLength_cabcc_6 ?_
  refine lv_istore_n (lv' := [(3, .int (nI (n0 + (if n1 < n2 then n2 else n1)))), (0, .int (nI n0)), (1, .int (nI n1)), (2, .int (nI n2))]) hx hb dJ8_newLength_cabcc_7 rfl hl (by decide) rfl (fun ls hl => ?_)
  refine lv_iconst (v := nI 0) hx hb dJ8_newLength_cabcc_8 (by decide) ?_
  refine lv_iload_n hx hb dJ8_newLength_cabcc_9 rfl (lv_at hl 0 rfl) ?_
  refine nv_icmp_ge (X := ((0 : Nat) : Int)) (Y := ((n0 + (if n1 < n2 then n2 else n1) : Nat) : Int)) hx hb (nI_toInt (by omega)) (nI_toInt (by omega)) (tgt := 21) dJ8_newLength_cabcc_10 (by decide) (fun c_1 => ?_) (fun c_1 => ?_)
  · exact absurd c_1 (by omega)
  · skip
    refine lv_iload_n hx hb dJ8_newLength_cabcc_13 rfl (lv_at hl 0 rfl) ?_
    refine lv_ldc hx hb hown (v := 2147483639) (hts _ (tg_of 736 (by decide +kernel) (by decide +kernel))) dJ8_newLength_cabcc_14 ?_
    refine nv_icmp_gt (X := ((n0 + (if n1 < n2 then n2 else n1) : Nat) : Int)) (Y := (2147483639)) hx hb (nI_toInt (by omega)) (by decide) (tgt := 21) dJ8_newLength_cabcc_16 (by decide) (fun c_2 => ?_) (fun c_2 => ?_)
    · exact absurd c_2 (by omega)
    · skip
      refine lv_iload_n hx hb dJ8_newLength_cabcc_19 rfl (lv_at hl 0 rfl) ?_
      exact hret _ _ (nI (n0 + (if n1 < n2 then n2 else n1))) () _ _ hP hD hS rfl rfl dJ8_newLength_cabcc_20
abbrev rm_J5_newCapacity_0f7a4 : Room := { frames := 2, cells := 0, slots := 0, locals := 53 }
set_option maxHeartbeats 4000000 in
set_option maxRecDepth 100000 in
theorem c_J5_newCapacity_0f7a4 (l : Launch) (E : EE) (sz : Nat) (y : Nat → Nat) (v ml n : Nat) (t : Nat → Nat) (n0 : Nat) (h1 : 17 ≤ n0) (h2 : n0 ≤ 34)  : MI l yJ5_newCapacity_0f7a4 cJ5_newCapacity_0f7a4 6 .int rm_J5_newCapacity_0f7a4 [.ref (y 0), .int (nI n0)] E sz [sbO E y v ml n, baC E v 16 t] (fun (r : Int32) (_ : Unit) => r = nI 34) (fun _ => [sbO E y v ml n, baC E v 16 t]) 0 0 := by
  refine mi_go (by decide) (Nat.le_of_ble_eq_true rfl) ?_
  intro p e s m below meth c A Q ls hx hb hml hown hts hK hZ hA hsz hP hD hl hret
  have hS : va_S A s.heap s.heap [] := va_S.rf
  have hl : lv_has ls 6 [(0, .ref (y 0)), (1, .int (nI n0))] := hl
  skip
  refine lv_aload_n hx hb dJ5_newCapacity_0f7a4_0 rfl (lv_at hl 0 rfl) ?_
  refine va_get (D := E.1) (ci := 1) (v := .ref v) (C := RJ4) (T := TJ4) (N := 4) hx hb hts inJ4 hown hK hP 0 rfl rfl 0 (by decide) (hts _ q231) (fun _ h9 => h9) rfl dJ5_newCapacity_0f7a4_1 ?_
  refine va_alen hx hb hK hP 1 2 rfl rfl (v := nI 16) rfl dJ5_newCapacity_0f7a4_4 ?_
  refine lv_istore_n (lv' := [(2, .int (nI 16)), (0, .ref (y 0)), (1, .int (nI n0))]) hx hb dJ5_newCapacity_0f7a4_5 rfl hl (by decide) rfl (fun ls hl => ?_)
  refine lv_iload_n hx hb dJ5_newCapacity_0f7a4_6 rfl (lv_at hl 2 rfl) ?_
  refine lv_aload_n hx hb dJ5_newCapacity_0f7a4_7 rfl (lv_at hl 1 rfl) ?_
  refine va_get (D := E.1) (ci := 1) (v := .int (nI 0)) (C := RJ4) (T := TJ4) (N := 4) hx hb hts inJ4 hown hK hP 0 rfl rfl 1 (by decide) (hts _ q232) (fun _ h9 => h9) rfl dJ5_newCapacity_0f7a4_8 ?_
  refine nv_ishl hx hb (by omega) (by omega) dJ5_newCapacity_0f7a4_11 ?_
  refine tp_i (congrArg nI (Nat.mul_one _)) ?_
  refine lv_istore_n (lv' := [(3, .int (nI n0)), (2, .int (nI 16)), (0, .ref (y 0)), (1, .int (nI n0))]) hx hb dJ5_newCapacity_0f7a4_12 rfl hl (by decide) rfl (fun ls hl => ?_)
  refine lv_iload_n hx hb dJ5_newCapacity_0f7a4_13 rfl (lv_at hl 0 rfl) ?_
  refine lv_iload_n hx hb dJ5_newCapacity_0f7a4_14 rfl (lv_at hl 1 rfl) ?_
  refine nv_isub hx hb (by omega) dJ5_newCapacity_0f7a4_15 ?_
  refine lv_istore (lv' := [(4, .int (nI (n0 - 16))), (3, .int (nI n0)), (2, .int (nI 16)), (0, .ref (y 0)), (1, .int (nI n0))]) hx hb dJ5_newCapacity_0f7a4_16 hl (by decide) rfl (fun ls hl => ?_)
  refine lv_iload_n hx hb dJ5_newCapacity_0f7a4_18 rfl (lv_at hl 2 rfl) ?_
  refine lv_iload hx hb dJ5_newCapacity_0f7a4_19 (lv_at hl 0 rfl) ?_
  refine lv_iload_n hx hb dJ5_newCapacity_0f7a4_21 rfl (lv_at hl 2 rfl) ?_
  refine lv_iconst (v := nI 2) hx hb dJ5_newCapacity_0f7a4_22 (by decide) ?_
  refine lv_aload_n hx hb dJ5_newCapacity_0f7a4_23 rfl (lv_at hl 3 rfl) ?_
  refine va_get (D := E.1) (ci := 1) (v := .int (nI 0)) (C := RJ4) (T := TJ4) (N := 4) hx hb hts inJ4 hown hK hP 0 rfl rfl 1 (by decide) (hts _ q232) (fun _ h9 => h9) rfl dJ5_newCapacity_0f7a4_24 ?_
  refine nv_ishl hx hb (by omega) (by omega) dJ5_newCapacity_0f7a4_27 ?_
  refine tp_i (congrArg nI (Nat.mul_one _)) ?_
  refine nv_iadd hx hb dJ5_newCapacity_0f7a4_28 ?_
  refine run_i (S := Unit) (run_S (As := [.int (nI 16), .int (nI (n0 - 16)), .int (nI (16 + 2))]) (rest := []) (bs := [sbO E y v ml n, baC E v 16 t]) (cb := []) hx hb hml hown hts hK hZ hA (c_J8_newLength_cabcc l E _ 16 (n0 - 16) (16 + 2) (by omega) (by omega) (by omega) (by omega)) l_J5_114 rfl ⟨⟨rfl, rfl⟩, Nat.le_of_ble_eq_true rfl, Nat.le_of_ble_eq_true rfl⟩ [] rfl (by decide) hP hD hS hl.1 rfl (Nat.le_of_ble_eq_true rfl) dJ5_newCapacity_0f7a4_29 ⟨Nat.zero_le _, Nat.zero_le _⟩) hA hP hD hS (isC := []) rfl [0, 1] [0, 1] (br := [sbO E y v ml n, baC E v 16 t]) (bs2 := fun _ => [sbO E y v ml n, baC E v 16 t]) rfl (by decide) (fun _ => rfl) (by decide) (fun r u H locs hw hP hD hS => ?_)
  subst hw
  have hmx : 16 + (if n0 - 16 < 16 + 2 then 16 + 2 else n0 - 16) = 34 := by split <;> omega
  refine lv_istore (lv' := [(5, .int (nI (16 + (if n0 - 16 < 16 + 2 then 16 + 2 else n0 - 16)))), (4, .int (nI (n0 - 16))), (3, .int (nI n0)), (2, .int (nI 16)), (0, .ref (y 0)), (1, .int (nI n0))]) hx hb dJ5_newCapacity_0f7a4_32 hl (by decide) rfl (fun ls hl => ?_)
  refine lv_iload hx hb dJ5_newCapacity_0f7a4_34 (lv_at hl 0 rfl) ?_
  refine lv_ldc hx hb hown (v := 2147483647) (hts _ (tg_of 740 (by decide +kernel) (by decide +kernel))) dJ5_newCapacity_0f7a4_36 ?_
  refine nv_icmp_ne (X := ((16 + (if n0 - 16 < 16 + 2 then 16 + 2 else n0 - 16) : Nat) : Int)) (Y := (2147483647)) hx hb (nI_toInt (by omega)) (by decide) (tgt := 51) dJ5_newCapacity_0f7a4_38 (by decide) (fun c_1 => ?_) (fun c_1 => ?_)
  · skip
    refine lv_iload hx hb dJ5_newCapacity_0f7a4_51 (lv_at hl 0 rfl) ?_
    refine lv_aload_n hx hb dJ5_newCapacity_0f7a4_53 rfl (lv_at hl 4 rfl) ?_
    refine va_get (D := E.1) (ci := 1) (v := .int (nI 0)) (C := RJ4) (T := TJ4) (N := 4) hx hb hts inJ4 hown hK hP 0 rfl rfl 1 (by decide) (hts _ q232) (fun _ h9 => h9) rfl dJ5_newCapacity_0f7a4_54 ?_
    refine nv_ishr hx hb (by omega) (by rw [hmx]; decide) dJ5_newCapacity_0f7a4_57 ?_
    refine tp_i (congrArg nI (Nat.div_one _)) ?_
    exact hret _ _ (nI (16 + (if n0 - 16 < 16 + 2 then 16 + 2 else n0 - 16))) () _ _ hP hD hS rfl (by rw [hmx]) dJ5_newCapacity_0f7a4_58
  · exact absurd c_1 (by rw [hmx]; decide)
