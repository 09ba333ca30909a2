/-! texts that the law makes: a String of its own, bytes put into a row -/
def stO (E : EE) (q v : Nat) : va_W := [(q, .inr (0, [.ref v, .int (nI 0), .int (nI 0), .int (nI 0)]))]
theorem sRef_b : ∀ q ∈ sRef, ∀ k, k < q.2.2.length → (txb q.2.2).getD k 0 = nI (sch q.2.2 k) ∧ sch q.2.2 k < 128 := by decide +kernel
theorem str_b {q : String × Nat × String} {i : Nat} (hi : sRef[i]? = some q) : ∀ k, k < q.2.2.length → (txb q.2.2).getD k 0 = nI (sch q.2.2 k) ∧ sch q.2.2 k < 128 := sRef_b q (List.mem_of_getElem? hi)
section BPU
variable {p : Program} {l : Launch} {e : Env} {R : Room} {s : State} {m : MethodId} {args : Array Value} {below : List Frame} {meth : Method} {c : Code} {H : Heap} {locs : List Loc} {cells slots : Nat} {Q : State → Prop} {cc : ByteArray} {pc : Nat} {ls : Array Slot} {rest : List Value} {D : va_G} {cl : List vw_C} {tys : List (ClassId × FieldType)} {ws : va_W} {A : Nat → Prop} {H0 : Heap} {a : Nat}
theorem nv_bput (hx : p.tables.exec = Jvm.exec) (hb : c.code = cc) (hml : c.maxLocals = ls.size) {own : String} {index : Nat} (hown : s.vm.findClass own = some m.cls) (hlink : (Cond.methodLink own index arraycopyName).before args s = true) (hnat : (Cond.native arraycopyName).before args s = true) (hstat : (Cond.static arraycopyName).before args s = true) (hini : (Cond.initialized "java/lang/System").before args s = true)
    (hK : va_K D cl tys s) (hP : va_P D cl ws H) (hD : va_D A ws) (hS : va_S A H0 H locs) (q0 q1 t0 : Nat) {a0 : Nat} {c0 : ClassId} {n k d n1 : Nat} {f g : Nat → Nat} (ha0 : ws[q0]? = some (a0, .inl (c0, n, .inl (fun j => nI (f j))))) (ha1 : ws[q1]? = some (a, .inl (c0, n1, .inl (fun j => nI (g j))))) (ht0 : tys[t0]? = some (c0, .byte)) (hk : k ≤ n) (hd : d + k ≤ n1) (hn : n < 2 ^ 31) (hn1 : n1 < 2 ^ 31) (hf : ∀ j, f j < 128) (hg : ∀ j, g j < 128)
    (hframes : 1 ≤ R.frames) (hlocals : (rest.map fun v => v.category).sum + (nativeFrameWords "java/lang/System" "arraycopy" 5 + 11) ≤ R.locals) (hdg : decode cc pc = .ok (.invokestatic index, 3))
    (kk : ∀ (u : Nat → Nat) (H1 : Heap) (locs1 : List Loc), (∀ j, u j < 128) → va_P D cl (ws.set q1 (a, .inl (c0, n1, .inl (fun j => nI (u j))))) H1 → va_D A (ws.set q1 (a, .inl (c0, n1, .inl (fun j => nI (u j))))) → va_S A H0 H1 locs1 → W p l e R s m args below meth c H1 locs1 cells slots Q (F0 m (pc + 3) ls rest)) : W p l e R s m args below meth c H locs cells slots Q (F0 m pc ls (.int (nI k) :: .int (nI d) :: .ref a :: .int (nI 0) :: .ref a0 :: rest)) := by
  have e0 : (nI 0).toNatClampNeg = 0 := nI_clamp (by omega)
  have e1 : (nI k).toNatClampNeg = k := nI_clamp (by omega)
  have e2 : (nI d).toNatClampNeg = d := nI_clamp (by omega)
  refine va_copyi hx hb hml hown hlink hnat hstat hini hK hP hD hS q0 q1 t0 t0 ha0 ha1 ht0 ht0 rfl (nI_pos (by omega)) (nI_pos (by omega)) (nI_pos (by omega)) (by rw [e0, e1]; omega) (by rw [e2, e1]; omega) (fun j _ => byt_fit _ (hf _)) hframes hlocals hdg (fun H1 locs1 hP1 hD1 hS1 => ?_)
  rw [e0, e1, e2] at hP1
  have hq : q1 < ws.length := (List.getElem?_eq_some_iff.mp ha1).1
  have h2 := P_ext (k := q1) (g := fun j => nI (if d ≤ j ∧ j < d + k then f (j - d) else g j)) (List.getElem?_set_self hq) (fun j hj => by
    show va_cpy _ _ 0 d k j = _
    by_cases hjn : d ≤ j ∧ j < d + k
    · rw [pk_cpy_in hjn.1 hjn.2, if_pos hjn, Nat.zero_add]
    · rw [pk_cpy_out (by omega), if_neg hjn]) hP1
  rw [List.set_set] at h2
  exact kk _ H1 locs1 (fun j => by show (if d ≤ j ∧ j < d + k then f (j - d) else g j) < 128; split; exact hf _; exact hg _) h2 (hD.set ha1) hS1
theorem nv_bputc (hx : p.tables.exec = Jvm.exec) (hb : c.code = cc) (hml : c.maxLocals = ls.size) {own : String} {index : Nat} (hown : s.vm.findClass own = some m.cls) (hlink : (Cond.methodLink own index arraycopyName).before args s = true) (hnat : (Cond.native arraycopyName).before args s = true) (hstat : (Cond.static arraycopyName).before args s = true) (hini : (Cond.initialized "java/lang/System").before args s = true)
    (hK : va_K D cl tys s) (hP : va_P D cl ws H) (hD : va_D A ws) (hS : va_S A s.heap H locs) (q1 t0 : Nat) {a0 : Nat} {c0 : ClassId} {k d n1 : Nat} {f : Nat → Int32} {fn g : Nat → Nat} (hX : va_T .byte a0 k (fun j => .int (f j)) A s s.heap) (ha1 : ws[q1]? = some (a, .inl (c0, n1, .inl (fun j => nI (g j))))) (ht0 : tys[t0]? = some (c0, .byte)) (hd : d + k ≤ n1) (hn1 : n1 < 2 ^ 31) (hf : ∀ j, j < k → f j = nI (fn j) ∧ fn j < 128) (hg : ∀ j, g j < 128)
    (hframes : 1 ≤ R.frames) (hlocals : (rest.map fun v => v.category).sum + (nativeFrameWords "java/lang/System" "arraycopy" 5 + 11) ≤ R.locals) (hdg : decode cc pc = .ok (.invokestatic index, 3))
    (kk : ∀ (u : Nat → Nat) (H1 : Heap) (locs1 : List Loc), (∀ j, u j < 128) → va_P D cl (ws.set q1 (a, .inl (c0, n1, .inl (fun j => nI (u j))))) H1 → va_D A (ws.set q1 (a, .inl (c0, n1, .inl (fun j => nI (u j))))) → va_S A s.heap H1 locs1 → W p l e R s m args below meth c H1 locs1 cells slots Q (F0 m (pc + 3) ls rest)) : W p l e R s m args below meth c H locs cells slots Q (F0 m pc ls (.int (nI k) :: .int (nI d) :: .ref a :: .int (nI 0) :: .ref a0 :: rest)) := by
  have e0 : (nI 0).toNatClampNeg = 0 := nI_clamp (by omega)
  have e1 : (nI k).toNatClampNeg = k := nI_clamp (by omega)
  have e2 : (nI d).toNatClampNeg = d := nI_clamp (by omega)
  refine vk_copyt hx hb hml hown hlink hnat hstat hini hK hP hD hS hX q1 t0 ha1 ht0 (nI_pos (by omega)) (nI_pos (by omega)) (nI_pos (by omega)) (by rw [e0, e1]; omega) (by rw [e2, e1]; omega) (fun j hj => by
    rw [e1] at hj
    rw [e0, Nat.zero_add, (hf j hj).1]
    exact byt_fit _ (hf j hj).2) hframes hlocals hdg (fun H1 locs1 hP1 hD1 hS1 => ?_)
  rw [e0, e1, e2] at hP1
  have hq : q1 < ws.length := (List.getElem?_eq_some_iff.mp ha1).1
  have h2 := P_ext (k := q1) (g := fun j => nI (if d ≤ j ∧ j < d + k then fn (j - d) else g j)) (List.getElem?_set_self hq) (fun j hj => by
    show va_cpy _ _ 0 d k j = _
    by_cases hjn : d ≤ j ∧ j < d + k
    · rw [pk_cpy_in hjn.1 hjn.2, if_pos hjn, Nat.zero_add]
      exact (hf (j - d) (by omega)).1
    · rw [pk_cpy_out (by omega), if_neg hjn]) hP1
  rw [List.set_set] at h2
  refine kk _ H1 locs1 (fun j => ?_) h2 (hD.set ha1) hS1
  show (if d ≤ j ∧ j < d + k then fn (j - d) else g j) < 128
  split
  · exact (hf _ (by omega)).2
  · exact hg _
end BPU
/-- the letters of a row, as many as are used -/
def LT (t : Nat → Nat) (n : Nat) : List Nat := (List.range n).map t
theorem LT_len {t : Nat → Nat} {n : Nat} : (LT t n).length = n := by unfold LT; rw [List.length_map, List.length_range]
theorem LT_tx {t : Nat → Nat} {n : Nat} : TX t (LT t n) := by
  intro j hj
  rw [LT_len] at hj
  unfold LT
  rw [List.getD_eq_getElem?_getD, List.getElem?_map, List.getElem?_range hj]
  rfl
theorem l_J5_397 : (Cond.methodLink RJ5 397 yJ5_inflateIfNeededFor_a7421 ∈ TG ∧ Cond.instanceMethod yJ5_inflateIfNeededFor_a7421 ∈ TG ∧ Cond.code yJ5_inflateIfNeededFor_a7421 cJ5_inflateIfNeededFor_a7421 2 none ∈ TG) ∧ (yJ5_inflateIfNeededFor_a7421.cls = RJ5 ∧ yJ5_inflateIfNeededFor_a7421.cls ≠ "java/lang/invoke/MethodHandle" ∧ yJ5_inflateIfNeededFor_a7421.cls ≠ "java/lang/invoke/VarHandle" ∧ (parseMethodDescriptor yJ5_inflateIfNeededFor_a7421.desc).map (fun d => d.parameters.length) = some 1) := ⟨⟨q797, q799, q800⟩, by decide +kernel⟩
theorem l_J5_208 : (Cond.methodLink RJ5 208 yJ5_putStringAt_47b60 ∈ TG ∧ Cond.instanceMethod yJ5_putStringAt_47b60 ∈ TG ∧ Cond.code yJ5_putStringAt_47b60 cJ5_putStringAt_47b60 3 none ∈ TG) ∧ (yJ5_putStringAt_47b60.cls = RJ5 ∧ yJ5_putStringAt_47b60.cls ≠ "java/lang/invoke/MethodHandle" ∧ yJ5_putStringAt_47b60.cls ≠ "java/lang/invoke/VarHandle" ∧ (parseMethodDescriptor yJ5_putStringAt_47b60.desc).map (fun d => d.parameters.length) = some 2) := ⟨⟨q793, q795, q796⟩, by decide +kernel⟩
theorem l_J4_29 : (Cond.methodLink RJ4 29 yJ5_append_cf1ce ∈ TG ∧ Cond.instanceMethod yJ5_append_cf1ce ∈ TG ∧ Cond.sameMethod yJ5_append_cf1ce.cls yJ5_append_cf1ce.cls yJ5_append_cf1ce.name yJ5_append_cf1ce.desc ∈ TG ∧ Cond.code yJ5_append_cf1ce cJ5_append_cf1ce 3 (some (.object "java/lang/AbstractStringBuilder")) ∈ TG) ∧ (yJ5_append_cf1ce.cls = RJ5 ∧ yJ5_append_cf1ce.name ≠ "<init>" ∧ (parseMethodDescriptor yJ5_append_cf1ce.desc).map (fun d => d.parameters.length) = some 1) := ⟨⟨q715, q716, (tg_of 1413 (by decide +kernel) (by decide +kernel)), q717⟩, by decide +kernel⟩
theorem l_J5_32 : CWV RJ5 32 RJ0 yJ0_length_8abf5 cJ0_length_8abf5 1 (some .int) 0 := ⟨⟨q784, q785, q786, q30, q787⟩, by decide +kernel⟩
theorem l_J5_40 : CWV RJ5 40 RJ0 yJ0_coder_7d493 cJ0_coder_7d493 1 (some .byte) 0 := ⟨⟨q801, q789, q790, q30, q791⟩, by decide +kernel⟩
theorem l_J5_399 : CWV RJ5 399 RJ0 yJ0_getBytes_840e7 cJ0_getBytes_840e7 4 none 3 := ⟨⟨q821, q822, q823, q30, q824⟩, by decide +kernel⟩
theorem l_J0_54 : CWS RJ0 54 yJ7_copyOfRange_39247 cJ7_copyOfRange_39247 3 (some (.array .byte)) 3 := ⟨⟨q881, q882, q43, q883⟩, by decide +kernel⟩
theorem l_J7_339 : CWS RJ7 339 yJ7_copyOfRangeByte_39247 cJ7_copyOfRangeByte_39247 5 (some (.array .byte)) 3 := ⟨⟨q884, q885, q43, q886⟩, by decide +kernel⟩
theorem l_J7_343 : CWS RJ7 343 yJ7_checkLength_df160 cJ7_checkLength_df160 2 none 2 := ⟨⟨q887, q888, q43, q889⟩, by decide +kernel⟩
abbrev rm_J0_coder_7d493d : Room := { frames := 0, cells := 0, slots := 0, locals := 0 }
set_option maxHeartbeats 4000000 in
set_option maxRecDepth 100000 in
theorem c_J0_coder_7d493d (l : Launch) (E : EE) (sz : Nat) (q v2 : Nat)  : MI l yJ0_coder_7d493 cJ0_coder_7d493 1 .byte rm_J0_coder_7d493d [.ref q] E sz [stO E q v2] (fun (r : Int32) (_ : Unit) => r = nI 0) (fun _ => [stO E q v2]) 0 0 := by
  refine mi_go (by decide) (Nat.le_of_ble_eq_true rfl) ?_
  intro p e s m below meth c A Q ls hx hb hml hown hts hK hZ hA hsz hP hD hl hret
  have hS : va_S A s.heap s.heap [] := va_S.rf
  have hl : lv_has ls 1 [(0, .ref q)] := hl
  skip
  refine va_gets hx hb hZ.2.2.2.2.2.1.1 hS hown (hts _ q792) (fun _ h => h) dJ0_coder_7d493_0 ?_
  refine tp_i (show (1 : Int32) = nI 1 from rfl) ?_
  refine nv_if_eq (X := ((1 : Nat) : Int)) hx hb (nI_toInt (by omega)) (tgt := 13) dJ0_coder_7d493_3 (by decide) (fun c_1 => ?_) (fun c_1 => ?_)
  · exact absurd c_1 (by omega)
  · skip
    refine lv_aload_n hx hb dJ0_coder_7d493_6 rfl (lv_at hl 0 rfl) ?_
    refine va_get (D := E.1) (ci := 0) (v := .int (nI 0)) (C := RJ0) (T := TJ0) (N := 4) hx hb hts inJ0 hown hK hP 0 rfl rfl 1 (by decide) (hts _ q912) (fun _ h9 => h9) rfl dJ0_coder_7d493_7 ?_
    refine lv_goto (tgt := 14) hx hb dJ0_coder_7d493_10 (by decide) ?_
    exact hret _ _ (nI 0) () _ _ hP hD hS rfl rfl dJ0_coder_7d493_14
abbrev rm_J0_isLatin1_aae02d : Room := { frames := 0, cells := 0, slots := 0, locals := 0 }
set_option maxHeartbeats 4000000 in
set_option maxRecDepth 100000 in
theorem c_J0_isLatin1_aae02d (l : Launch) (E : EE) (sz : Nat) (q v2 : Nat)  : MI l yJ0_isLatin1_aae02 cJ0_isLatin1_aae02 1 .boolean rm_J0_isLatin1_aae02d [.ref q] E sz [stO E q v2] (fun (r : Int32) (_ : Unit) => r = bI true) (fun _ => [stO E q v2]) 0 0 := by
  refine mi_go (by decide) (Nat.le_of_ble_eq_true rfl) ?_
  intro p e s m below meth c A Q ls hx hb hml hown hts hK hZ hA hsz hP hD hl hret
  have hS : va_S A s.heap s.heap [] := va_S.rf
  have hl : lv_has ls 1 [(0, .ref q)] := hl
  skip
  refine va_gets hx hb hZ.2.2.2.2.2.1.1 hS hown (hts _ q792) (fun _ h => h) dJ0_isLatin1_aae02_0 ?_
  refine tp_i (show (1 : Int32) = nI 1 from rfl) ?_
  refine nv_if_eq (X := ((1 : Nat) : Int)) hx hb (nI_toInt (by omega)) (tgt := 17) dJ0_isLatin1_aae02_3 (by decide) (fun c_1 => ?_) (fun c_1 => ?_)
  · exact absurd c_1 (by omega)
  · skip
    refine lv_aload_n hx hb dJ0_isLatin1_aae02_6 rfl (lv_at hl 0 rfl) ?_
    refine va_get (D := E.1) (ci := 0) (v := .int (nI 0)) (C := RJ0) (T := TJ0) (N := 4) hx hb hts inJ0 hown hK hP 0 rfl rfl 1 (by decide) (hts _ q912) (fun _ h9 => h9) rfl dJ0_isLatin1_aae02_7 ?_
    refine nv_if_ne (X := ((0 : Nat) : Int)) hx hb (nI_toInt (by omega)) (tgt := 17) dJ0_isLatin1_aae02_10 (by decide) (fun c_2 => ?_) (fun c_2 => ?_)
    · exact absurd c_2 (by omega)
    · skip
      refine lv_iconst (v := nI 1) hx hb dJ0_isLatin1_aae02_13 (by decide) ?_
      refine lv_goto (tgt := 18) hx hb dJ0_isLatin1_aae02_14 (by decide) ?_
      exact hret _ _ (nI 1) () _ _ hP hD hS (by decide) rfl dJ0_isLatin1_aae02_18
abbrev rm_J0_length_8abf5d : Room := { frames := 1, cells := 0, slots := 0, locals := 20 }
set_option maxHeartbeats 4000000 in
set_option maxRecDepth 100000 in
theorem c_J0_length_8abf5d (l : Launch) (E : EE) (sz : Nat) (q v2 : Nat) (n2 : Nat) (t2 : Nat → Nat) (h2 : n2 ≤ 34)  : MI l yJ0_length_8abf5 cJ0_length_8abf5 1 .int rm_J0_length_8abf5d [.ref q] E sz [stO E q v2, baC E v2 n2 t2] (fun (r : Int32) (_ : Unit) => r = nI n2) (fun _ => [stO E q v2, baC E v2 n2 t2]) 0 0 := by
  refine mi_go (by decide) (Nat.le_of_ble_eq_true rfl) ?_
  intro p e s m below meth c A Q ls hx hb hml hown hts hK hZ hA hsz hP hD hl hret
  have hS : va_S A s.heap s.heap [] := va_S.rf
  have hl : lv_has ls 1 [(0, .ref q)] := hl
  skip
  refine lv_aload_n hx hb dJ0_length_8abf5_0 rfl (lv_at hl 0 rfl) ?_
  refine va_get (D := E.1) (ci := 0) (v := .ref v2) (C := RJ0) (T := TJ0) (N := 4) hx hb hts inJ0 hown hK hP 0 rfl rfl 0 (by decide) (hts _ q911) (fun _ h9 => h9) rfl dJ0_length_8abf5_1 ?_
  refine va_alen hx hb hK hP 1 2 rfl rfl (v := nI n2) rfl dJ0_length_8abf5_4 ?_
  refine lv_aload_n hx hb dJ0_length_8abf5_5 rfl (lv_at hl 0 rfl) ?_
  refine run_i (S := Unit) (run_V (As := []) (rest := [.int (nI n2)]) (bs := [stO E q v2, baC E v2 n2 t2]) (cb := [stO E q v2]) hx hb hml hown hts hK hZ hA (c_J0_coder_7d493d l E _ q v2  ) l_J0_335 rfl ⟨⟨rfl, rfl⟩, Nat.le_of_ble_eq_true rfl, Nat.le_of_ble_eq_true rfl⟩ 0 rfl [0] rfl (by decide) rfl hP hD hS hl.1 rfl (Nat.le_of_ble_eq_true rfl) dJ0_length_8abf5_6 ⟨Nat.zero_le _, Nat.zero_le _⟩) hA hP hD hS (isC := [0]) rfl [1] [1, 0] (br := [baC E v2 n2 t2]) (bs2 := fun _ => [stO E q v2, baC E v2 n2 t2]) rfl (by decide) (fun _ => rfl) (by decide) (fun r u H locs hw hP hD hS => ?_)
  subst hw
  refine nv_ishr hx hb (by omega) (by omega) dJ0_length_8abf5_9 ?_
  refine tp_i (congrArg nI (Nat.div_one _)) ?_
  exact hret _ _ (nI n2) () _ _ hP hD hS rfl rfl dJ0_length_8abf5_10
abbrev rm_J1_charAt_3b067d : Room := { frames := 2, cells := 0, slots := 0, locals := 43 }
set_option maxHeartbeats 4000000 in
set_option maxRecDepth 100000 in
theorem c_J1_charAt_3b067d (l : Launch) (E : EE) (sz : Nat) (v2 n2 : Nat) (t2 : Nat → Nat) (ht2 : ∀ j, t2 j < 128) (h2 : n2 ≤ 34) (k0 : Nat) (hk : k0 < n2) : MI l yJ1_charAt_3b067 cJ1_charAt_3b067 2 .char rm_J1_charAt_3b067d [.ref v2, .int (nI k0)] E sz [baC E v2 n2 t2] (fun (r : Int32) (_ : Unit) => r = nI (t2 k0)) (fun _ => [baC E v2 n2 t2]) 0 0 := by
  refine mi_go (by decide) (Nat.le_of_ble_eq_true rfl) ?_
  intro p e s m below meth c A Q ls hx hb hml hown hts hK hZ hA hsz hP hD hl hret
  have hS : va_S A s.heap s.heap [] := va_S.rf
  have hl : lv_has ls 2 [(0, .ref v2), (1, .int (nI k0))] := hl
  skip
  have htk := ht2 k0
  refine lv_iload_n hx hb dJ1_charAt_3b067_0 rfl (lv_at hl 1 rfl) ?_
  refine lv_aload_n hx hb dJ1_charAt_3b067_1 rfl (lv_at hl 0 rfl) ?_
  refine va_alen hx hb hK hP 0 2 rfl rfl (v := nI n2) rfl dJ1_charAt_3b067_2 ?_
  refine run_v (S := Unit) (run_S (As := [.int (nI k0), .int (nI n2)]) (rest := []) (bs := [baC E v2 n2 t2]) (cb := []) hx hb hml hown hts hK hZ hA (c_J0_checkIndex_df160 l E _ k0 n2 (by omega) (by omega)) l_J1_9 rfl ⟨⟨rfl, rfl⟩, Nat.le_of_ble_eq_true rfl, Nat.le_of_ble_eq_true rfl⟩ [] rfl (by decide) hP hD hS hl.1 rfl (Nat.le_of_ble_eq_true rfl) dJ1_charAt_3b067_3 ⟨Nat.zero_le _, Nat.zero_le _⟩) hA hP hD hS (isC := []) rfl [0] [0] (br := [baC E v2 n2 t2]) (bs2 := fun _ => [baC E v2 n2 t2]) rfl (by decide) (fun _ => rfl) (by decide) (fun u H locs hw hP hD hS => ?_)
  refine lv_aload_n hx hb dJ1_charAt_3b067_6 rfl (lv_at hl 0 rfl) ?_
  refine lv_iload_n hx hb dJ1_charAt_3b067_7 rfl (lv_at hl 1 rfl) ?_
  refine nv_bald (f := t2) (i := k0) (n := n2) hx hb hK hP 0 2 rfl rfl (by omega) (by omega) dJ1_charAt_3b067_8 ?_
  refine lv_sipush (v := nI 255) hx hb dJ1_charAt_3b067_9 (by decide) ?_
  refine nv_iand hx hb dJ1_charAt_3b067_12 ?_
  refine tp_i (congrArg nI (and255 htk)) ?_
  refine lv_i2c hx hb dJ1_charAt_3b067_13 (i2c_n (Nat.lt_trans htk (by decide))) ?_
  exact hret _ _ (nI (t2 k0)) () _ _ hP hD hS (pk_charN (Nat.lt_trans htk (by decide))).1 rfl dJ1_charAt_3b067_14
abbrev rm_J0_charAt_5068ed : Room := { frames := 3, cells := 0, slots := 0, locals := 64 }
set_option maxHeartbeats 4000000 in
set_option maxRecDepth 100000 in
theorem c_J0_charAt_5068ed (l : Launch) (E : EE) (sz : Nat) (q v2 : Nat) (n2 : Nat) (t2 : Nat → Nat) (ht2 : ∀ j, t2 j < 128) (h2 : n2 ≤ 34) (k0 : Nat) (hk : k0 < n2) : MI l yJ0_charAt_5068e cJ0_charAt_5068e 2 .char rm_J0_charAt_5068ed [.ref q, .int (nI k0)] E sz [stO E q v2, baC E v2 n2 t2] (fun (r : Int32) (_ : Unit) => r = nI (t2 k0)) (fun _ => [stO E q v2, baC E v2 n2 t2]) 0 0 := by
  refine mi_go (by decide) (Nat.le_of_ble_eq_true rfl) ?_
  intro p e s m below meth c A Q ls hx hb hml hown hts hK hZ hA hsz hP hD hl hret
  have hS : va_S A s.heap s.heap [] := va_S.rf
  have hl : lv_has ls 2 [(0, .ref q), (1, .int (nI k0))] := hl
  skip
  have htk := ht2 k0
  refine lv_aload_n hx hb dJ0_charAt_5068e_0 rfl (lv_at hl 0 rfl) ?_
  refine run_i (S := Unit) (run_V (As := []) (rest := []) (bs := [stO E q v2, baC E v2 n2 t2]) (cb := [stO E q v2]) hx hb hml hown hts hK hZ hA (c_J0_isLatin1_aae02d l E _ q v2  ) l_J0_492 rfl ⟨⟨rfl, rfl⟩, Nat.le_of_ble_eq_true rfl, Nat.le_of_ble_eq_true rfl⟩ 0 rfl [0] rfl (by decide) rfl hP hD hS hl.1 rfl (Nat.le_of_ble_eq_true rfl) dJ0_charAt_5068e_1 ⟨Nat.zero_le _, Nat.zero_le _⟩) hA hP hD hS (isC := [0]) rfl [1] [1, 0] (br := [baC E v2 n2 t2]) (bs2 := fun _ => [stO E q v2, baC E v2 n2 t2]) rfl (by decide) (fun _ => rfl) (by decide) (fun r u H locs hw hP hD hS => ?_)
  subst hw
  refine bv_if_eq hx hb (tgt := 16) dJ0_charAt_5068e_4 (by decide) (fun c_1 => ?_) (fun c_1 => ?_)
  · exact absurd c_1 (by decide)
  · skip
    refine lv_aload_n hx hb dJ0_charAt_5068e_7 rfl (lv_at hl 0 rfl) ?_
    refine va_get (D := E.1) (ci := 0) (v := .ref v2) (C := RJ0) (T := TJ0) (N := 4) hx hb hts inJ0 hown hK hP 0 rfl rfl 0 (by decide) (hts _ q911) (fun _ h9 => h9) rfl dJ0_charAt_5068e_8 ?_
    refine lv_iload_n hx hb dJ0_charAt_5068e_11 rfl (lv_at hl 1 rfl) ?_
    refine run_i (S := Unit) (run_S (As := [.ref v2, .int (nI k0)]) (rest := []) (bs := [stO E q v2, baC E v2 n2 t2]) (cb := [baC E v2 n2 t2]) hx hb hml hown hts hK hZ hA (c_J1_charAt_3b067d l E _ v2 n2 t2 ht2 h2 k0 hk) l_J0_495 rfl ⟨⟨rfl, rfl⟩, Nat.le_of_ble_eq_true rfl, Nat.le_of_ble_eq_true rfl⟩ [1] rfl (by decide) hP hD hS hl.1 rfl (Nat.le_of_ble_eq_true rfl) dJ0_charAt_5068e_12 ⟨Nat.zero_le _, Nat.zero_le _⟩) hA hP hD hS (isC := [1]) rfl [0] [0, 1] (br := [stO E q v2]) (bs2 := fun _ => [stO E q v2, baC E v2 n2 t2]) rfl (by decide) (fun _ => rfl) (by decide) (fun r u H locs hw hP hD hS => ?_)
    subst hw
    exact hret _ _ (nI (t2 k0)) () _ _ hP hD hS (pk_charN (Nat.lt_trans htk (by decide))).1 rfl dJ0_charAt_5068e_15
abbrev rm_J5_inflateIfNeededFor_a7421 : Room := { frames := 1, cells := 0, slots := 0, locals := 20 }
set_option maxHeartbeats 4000000 in
set_option maxRecDepth 100000 in
theorem c_J5_inflateIfNeededFor_a7421 (l : Launch) (E : EE) (sz : Nat) (y : Nat → Nat) (v ml n : Nat) (i0 : Nat) (q0 : String × Nat × String) (hi : sRef[i0]? = some q0)  : MV l yJ5_inflateIfNeededFor_a7421 cJ5_inflateIfNeededFor_a7421 2 rm_J5_inflateIfNeededFor_a7421 [.ref (y 0), .ref (E.2.2 i0)] E sz [sbO E y v ml n] (fun (_ : Unit) => True) (fun _ => [sbO E y v ml n]) 0 0 := by
  refine mv_go (by decide) (Nat.le_of_ble_eq_true rfl) ?_
  intro p e s m below meth c A Q ls hx hb hml hown hts hK hZ hA hsz hP hD hl hret hnm
  have hS : va_S A s.heap s.heap [] := va_S.rf
  have hl : lv_has ls 2 [(0, .ref (y 0)), (1, .ref (E.2.2 i0))] := hl
  skip
  have hZK := (hZ.2.2.2.2.1 i0 q0 hi).1
  have hlen := str_l hi
  refine va_gets hx hb hZ.2.2.2.2.2.1.1 hS hown (hts _ q222) (fun _ h => h) dJ5_inflateIfNeededFor_a7421_0 ?_
  refine tp_i (show (1 : Int32) = nI 1 from rfl) ?_
  refine nv_if_eq (X := ((1 : Nat) : Int)) hx hb (nI_toInt (by omega)) (tgt := 21) dJ5_inflateIfNeededFor_a7421_3 (by decide) (fun c_1 => ?_) (fun c_1 => ?_)
  · exact absurd c_1 (by omega)
  · skip
    refine lv_aload_n hx hb dJ5_inflateIfNeededFor_a7421_6 rfl (lv_at hl 0 rfl) ?_
    refine va_get (D := E.1) (ci := 1) (v := .int (nI 0)) (C := RJ4) (T := TJ4) (N := 4) hx hb hts inJ4 hown hK hP 0 rfl rfl 1 (by decide) (hts _ q232) (fun _ h9 => h9) rfl dJ5_inflateIfNeededFor_a7421_7 ?_
    refine lv_aload_n hx hb dJ5_inflateIfNeededFor_a7421_10 rfl (lv_at hl 1 rfl) ?_
    refine run_i (S := Unit) (run_K (As := []) (rest := [.int (nI 0)]) (bs := [sbO E y v ml n]) (cb := []) hx hb hml hown hts hK hZ hA (c_J0_coder_7d493 l E _ i0 q0 hi  ) l_J5_40 rfl ⟨⟨rfl, rfl⟩, Nat.le_of_ble_eq_true rfl, Nat.le_of_ble_eq_true rfl⟩ (vk_recv (i := 0) (hZ.2.2.2.2.1 i0 q0 hi).1 (by decide) hS) [] rfl (by decide) hP hD hS hl.1 rfl (Nat.le_of_ble_eq_true rfl) dJ5_inflateIfNeededFor_a7421_11 ⟨Nat.zero_le _, Nat.zero_le _⟩) hA hP hD hS (isC := []) rfl [0] [0] (br := [sbO E y v ml n]) (bs2 := fun _ => [sbO E y v ml n]) rfl (by decide) (fun _ => rfl) (by decide) (fun r u H locs hw hP hD hS => ?_)
    subst hw
    refine nv_icmp_eq (X := ((0 : Nat) : Int)) (Y := ((0 : Nat) : Int)) hx hb (nI_toInt (by omega)) (nI_toInt (by omega)) (tgt := 21) dJ5_inflateIfNeededFor_a7421_14 (by decide) (fun c_2 => ?_) (fun c_2 => ?_)
    · skip
      exact hret _ _ () _ _ hP hD hS trivial dJ5_inflateIfNeededFor_a7421_21
    · exact absurd c_2 (by omega)
abbrev rm_J0_getBytes_840e7 : Room := { frames := 1, cells := 0, slots := 0, locals := 120 }
set_option maxHeartbeats 4000000 in
set_option maxRecDepth 100000 in
theorem c_J0_getBytes_840e7 (l : Launch) (E : EE) (sz : Nat) (v cp : Nat) (t : Nat → Nat) (ht : ∀ j, t j < 128) (i0 : Nat) (q0 : String × Nat × String) (hi : sRef[i0]? = some q0) (n0 : Nat) (h1 : n0 + q0.2.2.length ≤ cp) (h2 : cp ≤ 34) : MV l yJ0_getBytes_840e7 cJ0_getBytes_840e7 4 rm_J0_getBytes_840e7 [.ref (E.2.2 i0), .ref v, .int (nI n0), .int (nI 0)] E sz [baC E v cp t] (fun (u : Nat → Nat) => ∀ j, u j < 128) (fun u => [baC E v cp u]) 0 0 := by
  refine mv_go (by decide) (Nat.le_of_ble_eq_true rfl) ?_
  intro p e s m below meth c A Q ls hx hb hml hown hts hK hZ hA hsz hP hD hl hret hnm
  have hS : va_S A s.heap s.heap [] := va_S.rf
  have hl : lv_has ls 4 [(0, .ref (E.2.2 i0)), (1, .ref v), (2, .int (nI n0)), (3, .int (nI 0))] := hl
  skip
  have hZK := (hZ.2.2.2.2.1 i0 q0 hi).1
  have hlen := str_l hi
  refine lv_aload_n hx hb dJ0_getBytes_840e7_0 rfl (lv_at hl 0 rfl) ?_
  refine run_i (S := Unit) (run_K (As := []) (rest := []) (bs := [baC E v cp t]) (cb := []) hx hb hml hown hts hK hZ hA (c_J0_coder_7d493 l E _ i0 q0 hi  ) l_J0_335 rfl ⟨⟨rfl, rfl⟩, Nat.le_of_ble_eq_true rfl, Nat.le_of_ble_eq_true rfl⟩ (vk_recv (i := 0) (hZ.2.2.2.2.1 i0 q0 hi).1 (by decide) hS) [] rfl (by decide) hP hD hS hl.1 rfl (Nat.le_of_ble_eq_true rfl) dJ0_getBytes_840e7_1 ⟨Nat.zero_le _, Nat.zero_le _⟩) hA hP hD hS (isC := []) rfl [0] [0] (br := [baC E v cp t]) (bs2 := fun _ => [baC E v cp t]) rfl (by decide) (fun _ => rfl) (by decide) (fun r u H locs hw hP hD hS => ?_)
  subst hw
  refine lv_iload_n hx hb dJ0_getBytes_840e7_4 rfl (lv_at hl 3 rfl) ?_
  refine nv_icmp_ne (X := ((0 : Nat) : Int)) (Y := ((0 : Nat) : Int)) hx hb (nI_toInt (by omega)) (nI_toInt (by omega)) (tgt := 28) dJ0_getBytes_840e7_5 (by decide) (fun c_1 => ?_) (fun c_1 => ?_)
  · exact absurd c_1 (by omega)
  · skip
    refine lv_aload_n hx hb dJ0_getBytes_840e7_8 rfl (lv_at hl 0 rfl) ?_
    refine vk_getf hx hb (hZK.1 0 (by decide)).2.2.1 hS hown (hts _ q911) (fun _ h => h) dJ0_getBytes_840e7_9 ?_
    refine lv_iconst (v := nI 0) hx hb dJ0_getBytes_840e7_12 (by decide) ?_
    refine lv_aload_n hx hb dJ0_getBytes_840e7_13 rfl (lv_at hl 1 rfl) ?_
    refine lv_iload_n hx hb dJ0_getBytes_840e7_14 rfl (lv_at hl 2 rfl) ?_
    refine lv_iload_n hx hb dJ0_getBytes_840e7_15 rfl (lv_at hl 3 rfl) ?_
    refine nv_ishl hx hb (by omega) (by omega) dJ0_getBytes_840e7_16 ?_
    refine tp_i (congrArg nI (Nat.mul_one _)) ?_
    refine lv_aload_n hx hb dJ0_getBytes_840e7_17 rfl (lv_at hl 0 rfl) ?_
    refine vk_getf hx hb (hZK.1 0 (by decide)).2.2.1 hS hown (hts _ q911) (fun _ h => h) dJ0_getBytes_840e7_18 ?_
    refine va_tlen hx hb (hZK.1 0 (by decide)).2.2.2 hS (v := nI q0.2.2.length) rfl dJ0_getBytes_840e7_21 ?_
    refine nv_bputc (f := fun j => (txb q0.2.2).getD j 0) (fn := sch q0.2.2) (g := t) (k := q0.2.2.length) (d := n0) (n1 := cp) hx hb (hml.trans hl.1.symm) hown (hts _ q825) (hts _ q478) (hts _ q477) (hts _ q38) hK hP hD hS 0 2 (hZK.1 0 (by decide)).2.2.2 rfl rfl (by omega) (by omega) (str_b hi) ht (Nat.le_of_ble_eq_true rfl) (by decide +kernel) dJ0_getBytes_840e7_22 (fun u_2 H locs hu_2 hP hD hS => ?_)
    have hP : va_P E.1 vwCl ([baC E v cp u_2] : List va_W).flatten H := hP
    have hD : va_D A ([baC E v cp u_2] : List va_W).flatten := hD
    refine lv_goto (tgt := 43) hx hb dJ0_getBytes_840e7_25 (by decide) ?_
    exact hret _ _ u_2 _ _ hP hD hS hu_2 dJ0_getBytes_840e7_43
abbrev rm_J5_putStringAt_47b60 : Room := { frames := 2, cells := 0, slots := 0, locals := 143 }
set_option maxHeartbeats 4000000 in
set_option maxRecDepth 100000 in
theorem c_J5_putStringAt_47b60 (l : Launch) (E : EE) (sz : Nat) (y : Nat → Nat) (v ml n cp : Nat) (t : Nat → Nat) (ht : ∀ j, t j < 128) (i0 : Nat) (q0 : String × Nat × String) (hi : sRef[i0]? = some q0) (n0 : Nat) (h1 : n0 + q0.2.2.length ≤ cp) (h2 : cp ≤ 34) : MVx l yJ5_putStringAt_47b60 cJ5_putStringAt_47b60 3 rm_J5_putStringAt_47b60 [.ref (y 0), .int (nI n0), .ref (E.2.2 i0)] E sz [sbO E y v ml n, baC E v cp t] (fun (u : Nat → Nat) => ∀ j, u j < 128) (fun u => [sbO E y v ml n, baC E v cp u]) 0 0 := by
  refine mv_gox (by decide) (Nat.le_of_ble_eq_true rfl) ?_
  intro p e s m below meth c A Q ls hx hb hml hown hts hK hZ hDD hA hsz hP hD hl hret hnm
  have hS : va_S A s.heap s.heap [] := va_S.rf
  have hl : lv_has ls 3 [(0, .ref (y 0)), (1, .int (nI n0)), (2, .ref (E.2.2 i0))] := hl
  skip
  have hZK := (hZ.2.2.2.2.1 i0 q0 hi).1
  have hlen := str_l hi
  refine lv_aload_n hx hb dJ5_putStringAt_47b60_0 rfl (lv_at hl 0 rfl) ?_
  refine lv_aload_n hx hb dJ5_putStringAt_47b60_1 rfl (lv_at hl 2 rfl) ?_
  refine run_v (S := Unit) (run_P (As := [.ref (E.2.2 i0)]) (rest := []) (bs := [sbO E y v ml n, baC E v cp t]) (cb := [sbO E y v ml n]) hx hb hml hown hts hK hZ hA (c_J5_inflateIfNeededFor_a7421 l E _ y v ml n i0 q0 hi) l_J5_397 (hDD.sel (List.mem_cons_of_mem _ (List.mem_cons_of_mem _ (List.mem_cons_of_mem _ List.mem_cons_self)))) rfl ⟨⟨rfl, rfl⟩, Nat.le_of_ble_eq_true rfl, Nat.le_of_ble_eq_true rfl⟩ [0] rfl (by decide) rfl hP hD hS hl.1 rfl (Nat.le_of_ble_eq_true rfl) dJ5_putStringAt_47b60_2 ⟨Nat.zero_le _, Nat.zero_le _⟩) hA hP hD hS (isC := [0]) rfl [1] [1, 0] (br := [baC E v cp t]) (bs2 := fun _ => [sbO E y v ml n, baC E v cp t]) rfl (by decide) (fun _ => rfl) (by decide) (fun u H locs hw hP hD hS => ?_)
  refine lv_aload_n hx hb dJ5_putStringAt_47b60_5 rfl (lv_at hl 2 rfl) ?_
  refine lv_aload_n hx hb dJ5_putStringAt_47b60_6 rfl (lv_at hl 0 rfl) ?_
  refine va_get (D := E.1) (ci := 1) (v := .ref v) (C := RJ4) (T := TJ4) (N := 4) hx hb hts inJ4 hown hK hP 0 rfl rfl 0 (by decide) (hts _ q231) (fun _ h9 => h9) rfl dJ5_putStringAt_47b60_7 ?_
  refine lv_iload_n hx hb dJ5_putStringAt_47b60_10 rfl (lv_at hl 1 rfl) ?_
  refine lv_aload_n hx hb dJ5_putStringAt_47b60_11 rfl (lv_at hl 0 rfl) ?_
  refine va_get (D := E.1) (ci := 1) (v := .int (nI 0)) (C := RJ4) (T := TJ4) (N := 4) hx hb hts inJ4 hown hK hP 0 rfl rfl 1 (by decide) (hts _ q232) (fun _ h9 => h9) rfl dJ5_putStringAt_47b60_12 ?_
  refine run_v (S := Nat → Nat) (run_K (As := [.ref v, .int (nI n0), .int (nI 0)]) (rest := []) (bs := [sbO E y v ml n, baC E v cp t]) (cb := [baC E v cp t]) hx hb hml hown hts hK hZ hA (c_J0_getBytes_840e7 l E _ v cp t ht i0 q0 hi n0 (by omega) (by omega)) l_J5_399 rfl ⟨⟨rfl, rfl⟩, Nat.le_of_ble_eq_true rfl, Nat.le_of_ble_eq_true rfl⟩ (vk_recv (i := 0) (hZ.2.2.2.2.1 i0 q0 hi).1 (by decide) hS) [1] rfl (by decide) hP hD hS hl.1 rfl (Nat.le_of_ble_eq_true rfl) dJ5_putStringAt_47b60_15 ⟨Nat.zero_le _, Nat.zero_le _⟩) hA hP hD hS (isC := [1]) rfl [0] [0, 1] (br := [sbO E y v ml n]) (bs2 := fun u => [sbO E y v ml n, baC E v cp u]) rfl (by decide) (fun _ => rfl) (by decide) (fun t_1 H locs hw hP hD hS => ?_)
  have ht_1 : ∀ j, t_1 j < 128 := hw
  exact hret _ _ t_1 _ _ hP hD hS ht_1 dJ5_putStringAt_47b60_18
abbrev rm_J5_append_cf1ce : Room := { frames := 4, cells := 1, slots := 34, locals := 165 }
set_option maxHeartbeats 4000000 in
set_option maxRecDepth 100000 in
theorem c_J5_append_cf1ce (l : Launch) (E : EE) (sz : Nat) (y : Nat → Nat) (v ml n cp : Nat) (t : Nat → Nat) (ht : ∀ j, t j < 128) (hm : cp = 16 ∨ cp = 34) (hn : n ≤ cp) (i0 : Nat) (q0 : String × Nat × String) (hi : sRef[i0]? = some q0) (h34 : n + q0.2.2.length ≤ 34) : MQx l yJ5_append_cf1ce cJ5_append_cf1ce 3 (.object "java/lang/AbstractStringBuilder") rm_J5_append_cf1ce [.ref (y 0), .ref (E.2.2 i0)] E sz [sbO E y v ml n, baC E v cp t] (fun (u : Nat × Nat × (Nat → Nat)) => n + q0.2.2.length ≤ u.2.1 ∧ (u.2.1 = 16 ∨ u.2.1 = 34) ∧ ∀ j, u.2.2 j < 128) (fun u => y 0) (fun u => [sbO E y u.1 ml (n + q0.2.2.length), baC E u.1 u.2.1 u.2.2]) 1 34 := by
  refine mq_gox (by decide) (Nat.le_of_ble_eq_true rfl) (Or.inl ⟨_, rfl⟩) ?_
  intro p e s m below meth c A Q ls hx hb hml hown hts hK hZ hDD hA hsz hP hD hl hret
  have hS : va_S A s.heap s.heap [] := va_S.rf
  have hl : lv_has ls 3 [(0, .ref (y 0)), (1, .ref (E.2.2 i0))] := hl
  skip
  have hZK := (hZ.2.2.2.2.1 i0 q0 hi).1
  have hlen := str_l hi
  refine lv_aload_n hx hb dJ5_append_cf1ce_0 rfl (lv_at hl 1 rfl) ?_
  refine lv_ifnonnull hx hb dJ5_append_cf1ce_1 (tgt := 9) (by decide) ?_
  refine lv_aload_n hx hb dJ5_append_cf1ce_9 rfl (lv_at hl 1 rfl) ?_
  refine run_i (S := Unit) (run_K (As := []) (rest := []) (bs := [sbO E y v ml n, baC E v cp t]) (cb := []) hx hb hml hown hts hK hZ hA (c_J0_length_8abf5 l E _ i0 q0 hi  ) l_J5_32 rfl ⟨⟨rfl, rfl⟩, Nat.le_of_ble_eq_true rfl, Nat.le_of_ble_eq_true rfl⟩ (vk_recv (i := 0) (hZ.2.2.2.2.1 i0 q0 hi).1 (by decide) hS) [] rfl (by decide) hP hD hS hl.1 rfl (Nat.le_of_ble_eq_true rfl) dJ5_append_cf1ce_10 ⟨Nat.zero_le _, Nat.zero_le _⟩) hA hP hD hS (isC := []) rfl [0, 1] [0, 1] (br := [sbO E y v ml n, baC E v cp t]) (bs2 := fun _ => [sbO E y v ml n, baC E v cp t]) rfl (by decide) (fun _ => rfl) (by decide) (fun r u H locs hw hP hD hS => ?_)
  subst hw
  refine lv_istore_n (lv' := [(2, .int (nI q0.2.2.length)), (0, .ref (y 0)), (1, .ref (E.2.2 i0))]) hx hb dJ5_append_cf1ce_13 rfl hl (by decide) rfl (fun ls hl => ?_)
  refine lv_aload_n hx hb dJ5_append_cf1ce_14 rfl (lv_at hl 1 rfl) ?_
  refine lv_aload_n hx hb dJ5_append_cf1ce_15 rfl (lv_at hl 1 rfl) ?_
  refine va_get (D := E.1) (ci := 1) (v := .int (nI n)) (C := RJ4) (T := TJ4) (N := 4) hx hb hts inJ4 hown hK hP 0 rfl rfl 3 (by decide) (hts _ q235) (fun _ h9 => h9) rfl dJ5_append_cf1ce_16 ?_
  refine lv_iload_n hx hb dJ5_append_cf1ce_19 rfl (lv_at hl 0 rfl) ?_
  refine nv_iadd hx hb dJ5_append_cf1ce_20 ?_
  refine run_v (S := Nat × Nat × (Nat → Nat)) (run_Px (As := [.int (nI (n + q0.2.2.length))]) (rest := []) (bs := [sbO E y v ml n, baC E v cp t]) (cb := [sbO E y v ml n, baC E v cp t]) hx hb hml hown hts hK hZ hDD hA (c_J5_ensureCapacityInternal_d00df l E _ y v ml n cp t ht hm (n + q0.2.2.length) (by omega)) l_J5_100 (hDD.sel List.mem_cons_self) rfl ⟨⟨rfl, rfl⟩, Nat.le_of_ble_eq_true rfl, Nat.le_of_ble_eq_true rfl⟩ [0, 1] rfl (by decide) rfl hP hD hS hl.1 rfl (Nat.le_of_ble_eq_true rfl) dJ5_append_cf1ce_21 ⟨Nat.le_of_ble_eq_true rfl, Nat.le_of_ble_eq_true rfl⟩) hA hP hD hS (isC := [0, 1]) rfl [] [0, 1] (br := []) (bs2 := fun u => [sbO E y u.1 ml n, baC E u.1 u.2.1 u.2.2]) rfl (by decide) (fun _ => rfl) (by decide) (fun u H locs hw hP hD hS => ?_)
  obtain ⟨v_1, cp_2, t_3⟩ := u
  obtain ⟨he1, he2, he3, he4⟩ := hw
  have he1 : (n + q0.2.2.length) ≤ cp_2 := he1
  have he2 : cp_2 = 16 ∨ cp_2 = 34 := he2
  have he3 : ∀ j, t_3 j < 128 := he3
  have hP : va_P E.1 vwCl ([sbO E y v_1 ml n, baC E v_1 cp_2 t_3] : List va_W).flatten H := hP
  have hD : va_D A ([sbO E y v_1 ml n, baC E v_1 cp_2 t_3] : List va_W).flatten := hD
  refine lv_aload_n hx hb dJ5_append_cf1ce_24 rfl (lv_at hl 1 rfl) ?_
  refine lv_aload_n hx hb dJ5_append_cf1ce_25 rfl (lv_at hl 1 rfl) ?_
  refine va_get (D := E.1) (ci := 1) (v := .int (nI n)) (C := RJ4) (T := TJ4) (N := 4) hx hb hts inJ4 hown hK hP 0 rfl rfl 3 (by decide) (hts _ q235) (fun _ h9 => h9) rfl dJ5_append_cf1ce_26 ?_
  refine lv_aload_n hx hb dJ5_append_cf1ce_29 rfl (lv_at hl 2 rfl) ?_
  refine run_v (S := Nat → Nat) (run_Px (As := [.int (nI n), .ref (E.2.2 i0)]) (rest := []) (bs := [sbO E y v_1 ml n, baC E v_1 cp_2 t_3]) (cb := [sbO E y v_1 ml n, baC E v_1 cp_2 t_3]) hx hb hml hown hts hK hZ hDD hA (c_J5_putStringAt_47b60 l E _ y v_1 ml n cp_2 t_3 he3 i0 q0 hi n (by omega) (by omega)) l_J5_208 (hDD.sel (List.mem_cons_of_mem _ (List.mem_cons_of_mem _ List.mem_cons_self))) rfl ⟨⟨rfl, rfl⟩, Nat.le_of_ble_eq_true rfl, Nat.le_of_ble_eq_true rfl⟩ [0, 1] rfl (by decide) rfl hP hD hS hl.1 rfl (Nat.le_of_ble_eq_true rfl) dJ5_append_cf1ce_30 ⟨Nat.le_of_ble_eq_true rfl, Nat.le_of_ble_eq_true rfl⟩) hA hP hD hS (isC := [0, 1]) rfl [] [0, 1] (br := []) (bs2 := fun u => [sbO E y v_1 ml n, baC E v_1 cp_2 u]) rfl (by decide) (fun _ => rfl) (by decide) (fun t_4 H locs hw hP hD hS => ?_)
  have ht_4 : ∀ j, t_4 j < 128 := hw
  refine lv_aload_n hx hb dJ5_append_cf1ce_33 rfl (lv_at hl 1 rfl) ?_
  refine lv_dup hx hb dJ5_append_cf1ce_34 rfl ?_
  refine va_get (D := E.1) (ci := 1) (v := .int (nI n)) (C := RJ4) (T := TJ4) (N := 4) hx hb hts inJ4 hown hK hP 0 rfl rfl 3 (by decide) (hts _ q235) (fun _ h9 => h9) rfl dJ5_append_cf1ce_35 ?_
  refine lv_iload_n hx hb dJ5_append_cf1ce_38 rfl (lv_at hl 0 rfl) ?_
  refine nv_iadd hx hb dJ5_append_cf1ce_39 ?_
  refine va_put (D := E.1) (ci := 1) (v := .int (nI (n + q0.2.2.length))) (ty := .int) (C := RJ4) (T := TJ4) (N := 4) hx hb hts inJ4 tyJ4 tyJ4_ok nmJ4 hown hK hP hD hS 0 rfl rfl 3 (by decide) (hts _ q235) (fun _ h9 => h9) rfl (by decide +kernel) rfl rfl (Nat.le_of_ble_eq_true rfl) dJ5_append_cf1ce_40 (fun H locs hP hD hS => ?_)
  have hP : va_P E.1 vwCl ([sbO E y v_1 ml (n + q0.2.2.length), baC E v_1 cp_2 t_4] : List va_W).flatten H := hP
  have hD : va_D A ([sbO E y v_1 ml (n + q0.2.2.length), baC E v_1 cp_2 t_4] : List va_W).flatten := hD
  refine lv_aload_n hx hb dJ5_append_cf1ce_43 rfl (lv_at hl 1 rfl) ?_
  exact hret _ _ (v_1, cp_2, t_4) _ _ _ _ hP hD hS ⟨he1, he2, ht_4⟩ dJ5_append_cf1ce_44 (by omega) (by omega)
abbrev rm_J4_append_15ec4 : Room := { frames := 5, cells := 1, slots := 34, locals := 187 }
set_option maxHeartbeats 4000000 in
set_option maxRecDepth 100000 in
theorem c_J4_append_15ec4 (l : Launch) (E : EE) (sz : Nat) (y : Nat → Nat) (v ml n cp : Nat) (t : Nat → Nat) (ht : ∀ j, t j < 128) (hm : cp = 16 ∨ cp = 34) (hn : n ≤ cp) (i0 : Nat) (q0 : String × Nat × String) (hi : sRef[i0]? = some q0) (h34 : n + q0.2.2.length ≤ 34) : MQx l yJ4_append_15ec4 cJ4_append_15ec4 2 (.object "java/lang/StringBuilder") rm_J4_append_15ec4 [.ref (y 0), .ref (E.2.2 i0)] E sz [sbO E y v ml n, baC E v cp t] (fun (u : Nat × Nat × (Nat → Nat)) => n + q0.2.2.length ≤ u.2.1 ∧ (u.2.1 = 16 ∨ u.2.1 = 34) ∧ ∀ j, u.2.2 j < 128) (fun u => y 0) (fun u => [sbO E y u.1 ml (n + q0.2.2.length), baC E u.1 u.2.1 u.2.2]) 1 34 := by
  refine mq_gox (by decide) (Nat.le_of_ble_eq_true rfl) (Or.inl ⟨_, rfl⟩) ?_
  intro p e s m below meth c A Q ls hx hb hml hown hts hK hZ hDD hA hsz hP hD hl hret
  have hS : va_S A s.heap s.heap [] := va_S.rf
  have hl : lv_has ls 2 [(0, .ref (y 0)), (1, .ref (E.2.2 i0))] := hl
  skip
  have hZK := (hZ.2.2.2.2.1 i0 q0 hi).1
  have hlen := str_l hi
  refine lv_aload_n hx hb dJ4_append_15ec4_0 rfl (lv_at hl 0 rfl) ?_
  refine lv_aload_n hx hb dJ4_append_15ec4_1 rfl (lv_at hl 1 rfl) ?_
  refine run_q (S := Nat × Nat × (Nat → Nat)) (run_SUx (As := [.ref (E.2.2 i0)]) (rest := []) (bs := [sbO E y v ml n, baC E v cp t]) (cb := [sbO E y v ml n, baC E v cp t]) hx hb hml hown hts hK hZ hDD hA (c_J5_append_cf1ce l E _ y v ml n cp t ht hm hn i0 q0 hi h34) l_J4_29 rfl ⟨⟨rfl, rfl⟩, Nat.le_of_ble_eq_true rfl, Nat.le_of_ble_eq_true rfl⟩ [0, 1] rfl (by decide) rfl hP hD hS hl.1 rfl (Nat.le_of_ble_eq_true rfl) dJ4_append_15ec4_2 ⟨Nat.le_of_ble_eq_true rfl, Nat.le_of_ble_eq_true rfl⟩) hA hP hD hS (isC := [0, 1]) rfl [] [0, 1] (br := []) (bs2 := fun u => [sbO E y u.1 ml (n + q0.2.2.length), baC E u.1 u.2.1 u.2.2]) rfl (by decide) (fun _ => rfl) (by decide) (fun ⟨v_1, cp_2, t_3⟩ H locs hw hP hD hS => ?_)
  have hap := hw
  have hP : va_P E.1 vwCl ([sbO E y v_1 ml (n + q0.2.2.length), baC E v_1 cp_2 t_3] : List va_W).flatten H := hP
  have hD : va_D A ([sbO E y v_1 ml (n + q0.2.2.length), baC E v_1 cp_2 t_3] : List va_W).flatten := hD
  refine lv_pop hx hb dJ4_append_15ec4_5 rfl ?_
  refine lv_aload_n hx hb dJ4_append_15ec4_6 rfl (lv_at hl 0 rfl) ?_
  exact hret _ _ (v_1, cp_2, t_3) _ _ _ _ hP hD hS hap dJ4_append_15ec4_7 (by omega) (by omega)
abbrev rm_J5_inflateIfNeededFor_a7421d : Room := { frames := 1, cells := 0, slots := 0, locals := 20 }
set_option maxHeartbeats 4000000 in
set_option maxRecDepth 100000 in
theorem c_J5_inflateIfNeededFor_a7421d (l : Launch) (E : EE) (sz : Nat) (y : Nat → Nat) (v ml n : Nat) (q v2 : Nat)  : MV l yJ5_inflateIfNeededFor_a7421 cJ5_inflateIfNeededFor_a7421 2 rm_J5_inflateIfNeededFor_a7421d [.ref (y 0), .ref q] E sz [sbO E y v ml n, stO E q v2] (fun (_ : Unit) => True) (fun _ => [sbO E y v ml n, stO E q v2]) 0 0 := by
  refine mv_go (by decide) (Nat.le_of_ble_eq_true rfl) ?_
  intro p e s m below meth c A Q ls hx hb hml hown hts hK hZ hA hsz hP hD hl hret hnm
  have hS : va_S A s.heap s.heap [] := va_S.rf
  have hl : lv_has ls 2 [(0, .ref (y 0)), (1, .ref q)] := hl
  skip
  refine va_gets hx hb hZ.2.2.2.2.2.1.1 hS hown (hts _ q222) (fun _ h => h) dJ5_inflateIfNeededFor_a7421_0 ?_
  refine tp_i (show (1 : Int32) = nI 1 from rfl) ?_
  refine nv_if_eq (X := ((1 : Nat) : Int)) hx hb (nI_toInt (by omega)) (tgt := 21) dJ5_inflateIfNeededFor_a7421_3 (by decide) (fun c_1 => ?_) (fun c_1 => ?_)
  · exact absurd c_1 (by omega)
  · skip
    refine lv_aload_n hx hb dJ5_inflateIfNeededFor_a7421_6 rfl (lv_at hl 0 rfl) ?_
    refine va_get (D := E.1) (ci := 1) (v := .int (nI 0)) (C := RJ4) (T := TJ4) (N := 4) hx hb hts inJ4 hown hK hP 0 rfl rfl 1 (by decide) (hts _ q232) (fun _ h9 => h9) rfl dJ5_inflateIfNeededFor_a7421_7 ?_
    refine lv_aload_n hx hb dJ5_inflateIfNeededFor_a7421_10 rfl (lv_at hl 1 rfl) ?_
    refine run_i (S := Unit) (run_V (As := []) (rest := [.int (nI 0)]) (bs := [sbO E y v ml n, stO E q v2]) (cb := [stO E q v2]) hx hb hml hown hts hK hZ hA (c_J0_coder_7d493d l E _ q v2  ) l_J5_40 rfl ⟨⟨rfl, rfl⟩, Nat.le_of_ble_eq_true rfl, Nat.le_of_ble_eq_true rfl⟩ 0 rfl [1] rfl (by decide) rfl hP hD hS hl.1 rfl (Nat.le_of_ble_eq_true rfl) dJ5_inflateIfNeededFor_a7421_11 ⟨Nat.zero_le _, Nat.zero_le _⟩) hA hP hD hS (isC := [1]) rfl [0] [0, 1] (br := [sbO E y v ml n]) (bs2 := fun _ => [sbO E y v ml n, stO E q v2]) rfl (by decide) (fun _ => rfl) (by decide) (fun r u H locs hw hP hD hS => ?_)
    subst hw
    refine nv_icmp_eq (X := ((0 : Nat) : Int)) (Y := ((0 : Nat) : Int)) hx hb (nI_toInt (by omega)) (nI_toInt (by omega)) (tgt := 21) dJ5_inflateIfNeededFor_a7421_14 (by decide) (fun c_2 => ?_) (fun c_2 => ?_)
    · skip
      exact hret _ _ () _ _ hP hD hS trivial dJ5_inflateIfNeededFor_a7421_21
    · exact absurd c_2 (by omega)
abbrev rm_J0_getBytes_840e7d : Room := { frames := 1, cells := 0, slots := 0, locals := 120 }
set_option maxHeartbeats 4000000 in
set_option maxRecDepth 100000 in
theorem c_J0_getBytes_840e7d (l : Launch) (E : EE) (sz : Nat) (v cp : Nat) (t : Nat → Nat) (ht : ∀ j, t j < 128) (q v2 : Nat) (n2 : Nat) (t2 : Nat → Nat) (ht2 : ∀ j, t2 j < 128) (hn2 : n2 ≤ 34) (n0 : Nat) (h1 : n0 + n2 ≤ cp) (h2 : cp ≤ 34) : MV l yJ0_getBytes_840e7 cJ0_getBytes_840e7 4 rm_J0_getBytes_840e7d [.ref q, .ref v, .int (nI n0), .int (nI 0)] E sz [stO E q v2, baC E v cp t, baC E v2 n2 t2] (fun (u : Nat → Nat) => ∀ j, u j < 128) (fun u => [stO E q v2, baC E v cp u, baC E v2 n2 t2]) 0 0 := by
  refine mv_go (by decide) (Nat.le_of_ble_eq_true rfl) ?_
  intro p e s m below meth c A Q ls hx hb hml hown hts hK hZ hA hsz hP hD hl hret hnm
  have hS : va_S A s.heap s.heap [] := va_S.rf
  have hl : lv_has ls 4 [(0, .ref q), (1, .ref v), (2, .int (nI n0)), (3, .int (nI 0))] := hl
  skip
  refine lv_aload_n hx hb dJ0_getBytes_840e7_0 rfl (lv_at hl 0 rfl) ?_
  refine run_i (S := Unit) (run_V (As := []) (rest := []) (bs := [stO E q v2, baC E v cp t, baC E v2 n2 t2]) (cb := [stO E q v2]) hx hb hml hown hts hK hZ hA (c_J0_coder_7d493d l E _ q v2  ) l_J0_335 rfl ⟨⟨rfl, rfl⟩, Nat.le_of_ble_eq_true rfl, Nat.le_of_ble_eq_true rfl⟩ 0 rfl [0] rfl (by decide) rfl hP hD hS hl.1 rfl (Nat.le_of_ble_eq_true rfl) dJ0_getBytes_840e7_1 ⟨Nat.zero_le _, Nat.zero_le _⟩) hA hP hD hS (isC := [0]) rfl [1, 2] [2, 0, 1] (br := [baC E v cp t, baC E v2 n2 t2]) (bs2 := fun _ => [stO E q v2, baC E v cp t, baC E v2 n2 t2]) rfl (by decide) (fun _ => rfl) (by decide) (fun r u H locs hw hP hD hS => ?_)
  subst hw
  refine lv_iload_n hx hb dJ0_getBytes_840e7_4 rfl (lv_at hl 3 rfl) ?_
  refine nv_icmp_ne (X := ((0 : Nat) : Int)) (Y := ((0 : Nat) : Int)) hx hb (nI_toInt (by omega)) (nI_toInt (by omega)) (tgt := 28) dJ0_getBytes_840e7_5 (by decide) (fun c_1 => ?_) (fun c_1 => ?_)
  · exact absurd c_1 (by omega)
  · skip
    refine lv_aload_n hx hb dJ0_getBytes_840e7_8 rfl (lv_at hl 0 rfl) ?_
    refine va_get (D := E.1) (ci := 0) (v := .ref v2) (C := RJ0) (T := TJ0) (N := 4) hx hb hts inJ0 hown hK hP 0 rfl rfl 0 (by decide) (hts _ q911) (fun _ h9 => h9) rfl dJ0_getBytes_840e7_9 ?_
    refine lv_iconst (v := nI 0) hx hb dJ0_getBytes_840e7_12 (by decide) ?_
    refine lv_aload_n hx hb dJ0_getBytes_840e7_13 rfl (lv_at hl 1 rfl) ?_
    refine lv_iload_n hx hb dJ0_getBytes_840e7_14 rfl (lv_at hl 2 rfl) ?_
    refine lv_iload_n hx hb dJ0_getBytes_840e7_15 rfl (lv_at hl 3 rfl) ?_
    refine nv_ishl hx hb (by omega) (by omega) dJ0_getBytes_840e7_16 ?_
    refine tp_i (congrArg nI (Nat.mul_one _)) ?_
    refine lv_aload_n hx hb dJ0_getBytes_840e7_17 rfl (lv_at hl 0 rfl) ?_
    refine va_get (D := E.1) (ci := 0) (v := .ref v2) (C := RJ0) (T := TJ0) (N := 4) hx hb hts inJ0 hown hK hP 0 rfl rfl 0 (by decide) (hts _ q911) (fun _ h9 => h9) rfl dJ0_getBytes_840e7_18 ?_
    refine va_alen hx hb hK hP 2 2 rfl rfl (v := nI n2) rfl dJ0_getBytes_840e7_21 ?_
    refine nv_bput (f := t2) (g := t) (n := n2) (k := n2) (d := n0) (n1 := cp) hx hb (hml.trans hl.1.symm) hown (hts _ q825) (hts _ q478) (hts _ q477) (hts _ q38) hK hP hD hS 2 1 2 rfl rfl rfl (by omega) (by omega) (by omega) (by omega) ht2 ht (Nat.le_of_ble_eq_true rfl) (by decide +kernel) dJ0_getBytes_840e7_22 (fun u_2 H locs hu_2 hP hD hS => ?_)
    have hP : va_P E.1 vwCl ([stO E q v2, baC E v cp u_2, baC E v2 n2 t2] : List va_W).flatten H := hP
    have hD : va_D A ([stO E q v2, baC E v cp u_2, baC E v2 n2 t2] : List va_W).flatten := hD
    refine lv_goto (tgt := 43) hx hb dJ0_getBytes_840e7_25 (by decide) ?_
    exact hret _ _ u_2 _ _ hP hD hS hu_2 dJ0_getBytes_840e7_43
abbrev rm_J5_putStringAt_47b60d : Room := { frames := 2, cells := 0, slots := 0, locals := 143 }
set_option maxHeartbeats 4000000 in
set_option maxRecDepth 100000 in
theorem c_J5_putStringAt_47b60d (l : Launch) (E : EE) (sz : Nat) (y : Nat → Nat) (v ml n cp : Nat) (t : Nat → Nat) (ht : ∀ j, t j < 128) (q v2 : Nat) (n2 : Nat) (t2 : Nat → Nat) (ht2 : ∀ j, t2 j < 128) (hn2 : n2 ≤ 34) (n0 : Nat) (h1 : n0 + n2 ≤ cp) (h2 : cp ≤ 34) : MVx l yJ5_putStringAt_47b60 cJ5_putStringAt_47b60 3 rm_J5_putStringAt_47b60d [.ref (y 0), .int (nI n0), .ref q] E sz [sbO E y v ml n, baC E v cp t, stO E q v2, baC E v2 n2 t2] (fun (u : Nat → Nat) => ∀ j, u j < 128) (fun u => [sbO E y v ml n, baC E v cp u, stO E q v2, baC E v2 n2 t2]) 0 0 := by
  refine mv_gox (by decide) (Nat.le_of_ble_eq_true rfl) ?_
  intro p e s m below meth c A Q ls hx hb hml hown hts hK hZ hDD hA hsz hP hD hl hret hnm
  have hS : va_S A s.heap s.heap [] := va_S.rf
  have hl : lv_has ls 3 [(0, .ref (y 0)), (1, .int (nI n0)), (2, .ref q)] := hl
  skip
  refine lv_aload_n hx hb dJ5_putStringAt_47b60_0 rfl (lv_at hl 0 rfl) ?_
  refine lv_aload_n hx hb dJ5_putStringAt_47b60_1 rfl (lv_at hl 2 rfl) ?_
  refine run_v (S := Unit) (run_P (As := [.ref q]) (rest := []) (bs := [sbO E y v ml n, baC E v cp t, stO E q v2, baC E v2 n2 t2]) (cb := [sbO E y v ml n, stO E q v2]) hx hb hml hown hts hK hZ hA (c_J5_inflateIfNeededFor_a7421d l E _ y v ml n q v2) l_J5_397 (hDD.sel (List.mem_cons_of_mem _ (List.mem_cons_of_mem _ (List.mem_cons_of_mem _ List.mem_cons_self)))) rfl ⟨⟨rfl, rfl⟩, Nat.le_of_ble_eq_true rfl, Nat.le_of_ble_eq_true rfl⟩ [0, 2] rfl (by decide) rfl hP hD hS hl.1 rfl (Nat.le_of_ble_eq_true rfl) dJ5_putStringAt_47b60_2 ⟨Nat.zero_le _, Nat.zero_le _⟩) hA hP hD hS (isC := [0, 2]) rfl [1, 3] [2, 0, 3, 1] (br := [baC E v cp t, baC E v2 n2 t2]) (bs2 := fun _ => [sbO E y v ml n, baC E v cp t, stO E q v2, baC E v2 n2 t2]) rfl (by decide) (fun _ => rfl) (by decide) (fun u H locs hw hP hD hS => ?_)
  refine lv_aload_n hx hb dJ5_putStringAt_47b60_5 rfl (lv_at hl 2 rfl) ?_
  refine lv_aload_n hx hb dJ5_putStringAt_47b60_6 rfl (lv_at hl 0 rfl) ?_
  refine va_get (D := E.1) (ci := 1) (v := .ref v) (C := RJ4) (T := TJ4) (N := 4) hx hb hts inJ4 hown hK hP 0 rfl rfl 0 (by decide) (hts _ q231) (fun _ h9 => h9) rfl dJ5_putStringAt_47b60_7 ?_
  refine lv_iload_n hx hb dJ5_putStringAt_47b60_10 rfl (lv_at hl 1 rfl) ?_
  refine lv_aload_n hx hb dJ5_putStringAt_47b60_11 rfl (lv_at hl 0 rfl) ?_
  refine va_get (D := E.1) (ci := 1) (v := .int (nI 0)) (C := RJ4) (T := TJ4) (N := 4) hx hb hts inJ4 hown hK hP 0 rfl rfl 1 (by decide) (hts _ q232) (fun _ h9 => h9) rfl dJ5_putStringAt_47b60_12 ?_
  refine run_v (S := Nat → Nat) (run_V (As := [.ref v, .int (nI n0), .int (nI 0)]) (rest := []) (bs := [sbO E y v ml n, baC E v cp t, stO E q v2, baC E v2 n2 t2]) (cb := [stO E q v2, baC E v cp t, baC E v2 n2 t2]) hx hb hml hown hts hK hZ hA (c_J0_getBytes_840e7d l E _ v cp t ht q v2 n2 t2 ht2 hn2 n0 (by omega) (by omega)) l_J5_399 rfl ⟨⟨rfl, rfl⟩, Nat.le_of_ble_eq_true rfl, Nat.le_of_ble_eq_true rfl⟩ 0 rfl [2, 1, 3] rfl (by decide) rfl hP hD hS hl.1 rfl (Nat.le_of_ble_eq_true rfl) dJ5_putStringAt_47b60_15 ⟨Nat.zero_le _, Nat.zero_le _⟩) hA hP hD hS (isC := [2, 1, 3]) rfl [0] [0, 2, 1, 3] (br := [sbO E y v ml n]) (bs2 := fun u => [sbO E y v ml n, baC E v cp u, stO E q v2, baC E v2 n2 t2]) rfl (by decide) (fun _ => rfl) (by decide) (fun t_1 H locs hw hP hD hS => ?_)
  have ht_1 : ∀ j, t_1 j < 128 := hw
  exact hret _ _ t_1 _ _ hP hD hS ht_1 dJ5_putStringAt_47b60_18
abbrev rm_J5_append_cf1ced : Room := { frames := 4, cells := 1, slots := 34, locals := 165 }
set_option maxHeartbeats 4000000 in
set_option maxRecDepth 100000 in
theorem c_J5_append_cf1ced (l : Launch) (E : EE) (sz : Nat) (y : Nat → Nat) (v ml n cp : Nat) (t : Nat → Nat) (ht : ∀ j, t j < 128) (hm : cp = 16 ∨ cp = 34) (hn : n ≤ cp) (q v2 : Nat) (n2 : Nat) (t2 : Nat → Nat) (ht2 : ∀ j, t2 j < 128) (hn2 : n2 ≤ 34) (h34 : n + n2 ≤ 34) : MQx l yJ5_append_cf1ce cJ5_append_cf1ce 3 (.object "java/lang/AbstractStringBuilder") rm_J5_append_cf1ced [.ref (y 0), .ref q] E sz [sbO E y v ml n, baC E v cp t, stO E q v2, baC E v2 n2 t2] (fun (u : Nat × Nat × (Nat → Nat)) => n + n2 ≤ u.2.1 ∧ (u.2.1 = 16 ∨ u.2.1 = 34) ∧ ∀ j, u.2.2 j < 128) (fun u => y 0) (fun u => [sbO E y u.1 ml (n + n2), baC E u.1 u.2.1 u.2.2, stO E q v2, baC E v2 n2 t2]) 1 34 := by
  refine mq_gox (by decide) (Nat.le_of_ble_eq_true rfl) (Or.inl ⟨_, rfl⟩) ?_
  intro p e s m below meth c A Q ls hx hb hml hown hts hK hZ hDD hA hsz hP hD hl hret
  have hS : va_S A s.heap s.heap [] := va_S.rf
  have hl : lv_has ls 3 [(0, .ref (y 0)), (1, .ref q)] := hl
  skip
  refine lv_aload_n hx hb dJ5_append_cf1ce_0 rfl (lv_at hl 1 rfl) ?_
  refine lv_ifnonnull hx hb dJ5_append_cf1ce_1 (tgt := 9) (by decide) ?_
  refine lv_aload_n hx hb dJ5_append_cf1ce_9 rfl (lv_at hl 1 rfl) ?_
  refine run_i (S := Unit) (run_V (As := []) (rest := []) (bs := [sbO E y v ml n, baC E v cp t, stO E q v2, baC E v2 n2 t2]) (cb := [stO E q v2, baC E v2 n2 t2]) hx hb hml hown hts hK hZ hA (c_J0_length_8abf5d l E _ q v2 n2 t2 (by omega) ) l_J5_32 rfl ⟨⟨rfl, rfl⟩, Nat.le_of_ble_eq_true rfl, Nat.le_of_ble_eq_true rfl⟩ 0 rfl [2, 3] rfl (by decide) rfl hP hD hS hl.1 rfl (Nat.le_of_ble_eq_true rfl) dJ5_append_cf1ce_10 ⟨Nat.zero_le _, Nat.zero_le _⟩) hA hP hD hS (isC := [2, 3]) rfl [0, 1] [0, 1, 2, 3] (br := [sbO E y v ml n, baC E v cp t]) (bs2 := fun _ => [sbO E y v ml n, baC E v cp t, stO E q v2, baC E v2 n2 t2]) rfl (by decide) (fun _ => rfl) (by decide) (fun r u H locs hw hP hD hS => ?_)
  subst hw
  refine lv_istore_n (lv' := [(2, .int (nI n2)), (0, .ref (y 0)), (1, .ref q)]) hx hb dJ5_append_cf1ce_13 rfl hl (by decide) rfl (fun ls hl => ?_)
  refine lv_aload_n hx hb dJ5_append_cf1ce_14 rfl (lv_at hl 1 rfl) ?_
  refine lv_aload_n hx hb dJ5_append_cf1ce_15 rfl (lv_at hl 1 rfl) ?_
  refine va_get (D := E.1) (ci := 1) (v := .int (nI n)) (C := RJ4) (T := TJ4) (N := 4) hx hb hts inJ4 hown hK hP 0 rfl rfl 3 (by decide) (hts _ q235) (fun _ h9 => h9) rfl dJ5_append_cf1ce_16 ?_
  refine lv_iload_n hx hb dJ5_append_cf1ce_19 rfl (lv_at hl 0 rfl) ?_
  refine nv_iadd hx hb dJ5_append_cf1ce_20 ?_
  refine run_v (S := Nat × Nat × (Nat → Nat)) (run_Px (As := [.int (nI (n + n2))]) (rest := []) (bs := [sbO E y v ml n, baC E v cp t, stO E q v2, baC E v2 n2 t2]) (cb := [sbO E y v ml n, baC E v cp t]) hx hb hml hown hts hK hZ hDD hA (c_J5_ensureCapacityInternal_d00df l E _ y v ml n cp t ht hm (n + n2) (by omega)) l_J5_100 (hDD.sel List.mem_cons_self) rfl ⟨⟨rfl, rfl⟩, Nat.le_of_ble_eq_true rfl, Nat.le_of_ble_eq_true rfl⟩ [0, 1] rfl (by decide) rfl hP hD hS hl.1 rfl (Nat.le_of_ble_eq_true rfl) dJ5_append_cf1ce_21 ⟨Nat.le_of_ble_eq_true rfl, Nat.le_of_ble_eq_true rfl⟩) hA hP hD hS (isC := [0, 1]) rfl [2, 3] [2, 3, 0, 1] (br := [stO E q v2, baC E v2 n2 t2]) (bs2 := fun u => [sbO E y u.1 ml n, baC E u.1 u.2.1 u.2.2, stO E q v2, baC E v2 n2 t2]) rfl (by decide) (fun _ => rfl) (by decide) (fun u H locs hw hP hD hS => ?_)
  obtain ⟨v_1, cp_2, t_3⟩ := u
  obtain ⟨he1, he2, he3, he4⟩ := hw
  have he1 : (n + n2) ≤ cp_2 := he1
  have he2 : cp_2 = 16 ∨ cp_2 = 34 := he2
  have he3 : ∀ j, t_3 j < 128 := he3
  have hP : va_P E.1 vwCl ([sbO E y v_1 ml n, baC E v_1 cp_2 t_3, stO E q v2, baC E v2 n2 t2] : List va_W).flatten H := hP
  have hD : va_D A ([sbO E y v_1 ml n, baC E v_1 cp_2 t_3, stO E q v2, baC E v2 n2 t2] : List va_W).flatten := hD
  refine lv_aload_n hx hb dJ5_append_cf1ce_24 rfl (lv_at hl 1 rfl) ?_
  refine lv_aload_n hx hb dJ5_append_cf1ce_25 rfl (lv_at hl 1 rfl) ?_
  refine va_get (D := E.1) (ci := 1) (v := .int (nI n)) (C := RJ4) (T := TJ4) (N := 4) hx hb hts inJ4 hown hK hP 0 rfl rfl 3 (by decide) (hts _ q235) (fun _ h9 => h9) rfl dJ5_append_cf1ce_26 ?_
  refine lv_aload_n hx hb dJ5_append_cf1ce_29 rfl (lv_at hl 2 rfl) ?_
  refine run_v (S := Nat → Nat) (run_Px (As := [.int (nI n), .ref q]) (rest := []) (bs := [sbO E y v_1 ml n, baC E v_1 cp_2 t_3, stO E q v2, baC E v2 n2 t2]) (cb := [sbO E y v_1 ml n, baC E v_1 cp_2 t_3, stO E q v2, baC E v2 n2 t2]) hx hb hml hown hts hK hZ hDD hA (c_J5_putStringAt_47b60d l E _ y v_1 ml n cp_2 t_3 he3 q v2 n2 t2 ht2 hn2 n (by omega) (by omega)) l_J5_208 (hDD.sel (List.mem_cons_of_mem _ (List.mem_cons_of_mem _ List.mem_cons_self))) rfl ⟨⟨rfl, rfl⟩, Nat.le_of_ble_eq_true rfl, Nat.le_of_ble_eq_true rfl⟩ [0, 1, 2, 3] rfl (by decide) rfl hP hD hS hl.1 rfl (Nat.le_of_ble_eq_true rfl) dJ5_append_cf1ce_30 ⟨Nat.le_of_ble_eq_true rfl, Nat.le_of_ble_eq_true rfl⟩) hA hP hD hS (isC := [0, 1, 2, 3]) rfl [] [0, 1, 2, 3] (br := []) (bs2 := fun u => [sbO E y v_1 ml n, baC E v_1 cp_2 u, stO E q v2, baC E v2 n2 t2]) rfl (by decide) (fun _ => rfl) (by decide) (fun t_4 H locs hw hP hD hS => ?_)
  have ht_4 : ∀ j, t_4 j < 128 := hw
  refine lv_aload_n hx hb dJ5_append_cf1ce_33 rfl (lv_at hl 1 rfl) ?_
  refine lv_dup hx hb dJ5_append_cf1ce_34 rfl ?_
  refine va_get (D := E.1) (ci := 1) (v := .int (nI n)) (C := RJ4) (T := TJ4) (N := 4) hx hb hts inJ4 hown hK hP 0 rfl rfl 3 (by decide) (hts _ q235) (fun _ h9 => h9) rfl dJ5_append_cf1ce_35 ?_
  refine lv_iload_n hx hb dJ5_append_cf1ce_38 rfl (lv_at hl 0 rfl) ?_
  refine nv_iadd hx hb dJ5_append_cf1ce_39 ?_
  refine va_put (D := E.1) (ci := 1) (v := .int (nI (n + n2))) (ty := .int) (C := RJ4) (T := TJ4) (N := 4) hx hb hts inJ4 tyJ4 tyJ4_ok nmJ4 hown hK hP hD hS 0 rfl rfl 3 (by decide) (hts _ q235) (fun _ h9 => h9) rfl (by decide +kernel) rfl rfl (Nat.le_of_ble_eq_true rfl) dJ5_append_cf1ce_40 (fun H locs hP hD hS => ?_)
  have hP : va_P E.1 vwCl ([sbO E y v_1 ml (n + n2), baC E v_1 cp_2 t_4, stO E q v2, baC E v2 n2 t2] : List va_W).flatten H := hP
  have hD : va_D A ([sbO E y v_1 ml (n + n2), baC E v_1 cp_2 t_4, stO E q v2, baC E v2 n2 t2] : List va_W).flatten := hD
  refine lv_aload_n hx hb dJ5_append_cf1ce_43 rfl (lv_at hl 1 rfl) ?_
  exact hret _ _ (v_1, cp_2, t_4) _ _ _ _ hP hD hS ⟨he1, he2, ht_4⟩ dJ5_append_cf1ce_44 (by omega) (by omega)
abbrev rm_J4_append_15ec4d : Room := { frames := 5, cells := 1, slots := 34, locals := 187 }
set_option maxHeartbeats 4000000 in
set_option maxRecDepth 100000 in
theorem c_J4_append_15ec4d (l : Launch) (E : EE) (sz : Nat) (y : Nat → Nat) (v ml n cp : Nat) (t : Nat → Nat) (ht : ∀ j, t j < 128) (hm : cp = 16 ∨ cp = 34) (hn : n ≤ cp) (q v2 : Nat) (n2 : Nat) (t2 : Nat → Nat) (ht2 : ∀ j, t2 j < 128) (hn2 : n2 ≤ 34) (h34 : n + n2 ≤ 34) : MQx l yJ4_append_15ec4 cJ4_append_15ec4 2 (.object "java/lang/StringBuilder") rm_J4_append_15ec4d [.ref (y 0), .ref q] E sz [sbO E y v ml n, baC E v cp t, stO E q v2, baC E v2 n2 t2] (fun (u : Nat × Nat × (Nat → Nat)) => n + n2 ≤ u.2.1 ∧ (u.2.1 = 16 ∨ u.2.1 = 34) ∧ ∀ j, u.2.2 j < 128) (fun u => y 0) (fun u => [sbO E y u.1 ml (n + n2), baC E u.1 u.2.1 u.2.2, stO E q v2, baC E v2 n2 t2]) 1 34 := by
  refine mq_gox (by decide) (Nat.le_of_ble_eq_true rfl) (Or.inl ⟨_, rfl⟩) ?_
  intro p e s m below meth c A Q ls hx hb hml hown hts hK hZ hDD hA hsz hP hD hl hret
  have hS : va_S A s.heap s.heap [] := va_S.rf
  have hl : lv_has ls 2 [(0, .ref (y 0)), (1, .ref q)] := hl
  skip
  refine lv_aload_n hx hb dJ4_append_15ec4_0 rfl (lv_at hl 0 rfl) ?_
  refine lv_aload_n hx hb dJ4_append_15ec4_1 rfl (lv_at hl 1 rfl) ?_
  refine run_q (S := Nat × Nat × (Nat → Nat)) (run_SUx (As := [.ref q]) (rest := []) (bs := [sbO E y v ml n, baC E v cp t, stO E q v2, baC E v2 n2 t2]) (cb := [sbO E y v ml n, baC E v cp t, stO E q v2, baC E v2 n2 t2]) hx hb hml hown hts hK hZ hDD hA (c_J5_append_cf1ced l E _ y v ml n cp t ht hm hn q v2 n2 t2 ht2 hn2 h34) l_J4_29 rfl ⟨⟨rfl, rfl⟩, Nat.le_of_ble_eq_true rfl, Nat.le_of_ble_eq_true rfl⟩ [0, 1, 2, 3] rfl (by decide) rfl hP hD hS hl.1 rfl (Nat.le_of_ble_eq_true rfl) dJ4_append_15ec4_2 ⟨Nat.le_of_ble_eq_true rfl, Nat.le_of_ble_eq_true rfl⟩) hA hP hD hS (isC := [0, 1, 2, 3]) rfl [] [0, 1, 2, 3] (br := []) (bs2 := fun u => [sbO E y u.1 ml (n + n2), baC E u.1 u.2.1 u.2.2, stO E q v2, baC E v2 n2 t2]) rfl (by decide) (fun _ => rfl) (by decide) (fun ⟨v_1, cp_2, t_3⟩ H locs hw hP hD hS => ?_)
  have hap := hw
  have hP : va_P E.1 vwCl ([sbO E y v_1 ml (n + n2), baC E v_1 cp_2 t_3, stO E q v2, baC E v2 n2 t2] : List va_W).flatten H := hP
  have hD : va_D A ([sbO E y v_1 ml (n + n2), baC E v_1 cp_2 t_3, stO E q v2, baC E v2 n2 t2] : List va_W).flatten := hD
  refine lv_pop hx hb dJ4_append_15ec4_5 rfl ?_
  refine lv_aload_n hx hb dJ4_append_15ec4_6 rfl (lv_at hl 0 rfl) ?_
  exact hret _ _ (v_1, cp_2, t_3) _ _ _ _ hP hD hS hap dJ4_append_15ec4_7 (by omega) (by omega)
