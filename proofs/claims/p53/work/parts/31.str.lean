theorem l_J0_335 : CWV RJ0 335 RJ0 yJ0_coder_7d493 cJ0_coder_7d493 1 (some .byte) 0 := ⟨⟨q788, q789, q790, q30, q791⟩, by decide +kernel⟩
theorem l_J0_492 : CWV RJ0 492 RJ0 yJ0_isLatin1_aae02 cJ0_isLatin1_aae02 1 (some .boolean) 0 := ⟨⟨q929, q930, q931, q30, q932⟩, by decide +kernel⟩
theorem l_J0_495 : CWS RJ0 495 yJ1_charAt_3b067 cJ1_charAt_3b067 2 (some .char) 2 := ⟨⟨q933, q934, q45, q935⟩, by decide +kernel⟩
theorem l_J1_9 : CWS RJ1 9 yJ0_checkIndex_df160 cJ0_checkIndex_df160 2 none 2 := ⟨⟨q936, q937, q30, q938⟩, by decide +kernel⟩
theorem l_J0_1059 : CWS RJ0 1059 yJ3_checkIndex_8e157 cJ3_checkIndex_8e157 3 (some .int) 3 := ⟨⟨q939, q940, q44, q941⟩, by decide +kernel⟩
/-! texts that are constants -/
def sch (t : String) (k : Nat) : Nat := (t.toList.map (fun c => c.toNat)).getD k 0
theorem sRef_ok : ∀ q ∈ sRef, q.2.2.length < 64 ∧ ∀ k, k < q.2.2.length → (txb q.2.2).getD k 0 &&& 255 = nI (sch q.2.2 k) ∧ sch q.2.2 k < 256 := by decide +kernel
section STR
variable {p : Program} {l : Launch} {e : Env} {R : Room} {s : State} {m : MethodId} {args : Array Value} {below : List Frame} {meth : Method} {c : Code} {H : Heap} {locs : List Loc} {cells slots : Nat} {Q : State → Prop} {cc : ByteArray} {pc : Nat} {ls : Array Slot} {st rest : List Value} {A : Nat → Prop}
variable {own C : String} {idx n ml nL mc ms bb : Nat} {y : MethodName} {b : ByteArray} {rt : Option FieldType} {rm : Room} {As : List Value} {E : EE} {bs cb : List va_W} {Qc : Array Value → State → Outcome → State → Prop} {free : Addr → Prop}
/-- a call upon a constant -/
theorem run_K (hx : p.tables.exec = Jvm.exec) (hb : c.code = cc) (hml : c.maxLocals = nL) (hown : s.vm.findClass own = some m.cls) (hts : ∀ w ∈ TG, w.before args s = true) (hK : va_K E.1 vwCl (tyl E.2.1) s) (hZ : ZZ E A s s.heap) (hA : ∀ q, s.heap.size ≤ q → A q)
    (hM : Met l y (Wd y b ml rt) rm (va_Pc (.ref bb :: As) (PB E H.size cb)) Qc mc ms free) (w : CWV own idx C y b ml rt n) (hn : As.length = n) (hR : (rm.cells = mc ∧ rm.slots = ms) ∧ (rm.frames + 1 ≤ R.frames ∧ 8 + (ml + 11) + rm.locals ≤ R.locals))
    (hrec : ∃ cell : Cell, H[bb]? = some cell ∧ cell.vm.isStatics = false ∧ s.vm.findClass C = some cell.cls) (isC : List Nat) (hC : isC.map (fun i => bs[i]?) = cb.map some) (hnd : va_nd isC = true) (hP : va_P E.1 vwCl bs.flatten H) (hD : va_D A bs.flatten) (hS : va_S A s.heap H locs)
    (hlsz : ls.size = nL) (hst : st = As.reverse ++ .ref bb :: rest) (hcat : (rest.map fun v => v.category).sum ≤ 8) (hdg : decode cc pc = .ok (.invokevirtual idx, 3)) (hf : cells + mc ≤ R.cells ∧ slots + ms ≤ R.slots) :
    va_Run p l e R s m args below meth c H locs cells slots mc ms (F0 m pc ls st) rest (Qc (Value.ref bb :: As).toArray) free := by
  obtain ⟨⟨w1, w2, w3, w4, w5⟩, w6⟩ := w
  refine va_runV (As := As) (rest := rest) ⟨hx, hb, hml, hown, hts⟩ hM (cwV n hts (fun w hw => ?_) rfl hR.1.1 hR.1.2 w6 hR.2) ⟨PB_blind E H.size cb _, hrec, fun U hU hW => ⟨rfl, pb_of hK hZ hA hS hP hD hC hnd hU hW⟩⟩ rfl hn hlsz hst (lv_room hcat) hdg hf
  rcases List.mem_append.mp hw with hw | hw
  · simp only [List.mem_cons, List.not_mem_nil, or_false] at hw
    rcases hw with rfl | rfl | rfl | rfl
    · exact ⟨w1, tg_good w1⟩
    · exact ⟨w2, tg_good w2⟩
    · exact ⟨w3, tg_good w3⟩
    · exact ⟨w4, tg_good w4⟩
  · exact tg_in w5 w hw
end STR
theorem str_c {q : String × Nat × String} {i k : Nat} (hi : sRef[i]? = some q) (hk : k < q.2.2.length) : (txb q.2.2).getD k 0 &&& 255 = nI (sch q.2.2 k) ∧ sch q.2.2 k < 256 := (sRef_ok q (List.mem_of_getElem? hi)).2 k hk
theorem str_l {q : String × Nat × String} {i : Nat} (hi : sRef[i]? = some q) : q.2.2.length < 64 := (sRef_ok q (List.mem_of_getElem? hi)).1
abbrev rm_J0_coder_7d493 : Room := { frames := 0, cells := 0, slots := 0, locals := 0 }
set_option maxHeartbeats 4000000 in
set_option maxRecDepth 100000 in
theorem c_J0_coder_7d493 (l : Launch) (E : EE) (sz : Nat) (i0 : Nat) (q16 : String × Nat × String) (hi : sRef[i0]? = some q16)  : MI l yJ0_coder_7d493 cJ0_coder_7d493 1 .byte rm_J0_coder_7d493 [.ref (E.2.2 i0)] E sz [] (fun (r : Int32) (_ : Unit) => r = nI 0) (fun _ => []) 0 0 := by
  refine mi_go (by decide) (Nat.le_of_ble_eq_true rfl) ?_
  intro p e s m below meth c A Q ls hx hb hml hown hts hK hZ hA hsz hP hD hl hret
  have hS : va_S A s.heap s.heap [] := va_S.rf
  have hl : lv_has ls 1 [(0, .ref (E.2.2 i0))] := hl
  skip
  have hZK := (hZ.2.2.2.2.1 i0 q16 hi).1
  have hlen := str_l hi
  refine va_gets hx hb hZ.2.2.2.2.2.1.1 hS hown (hts _ q792) (fun _ h => h) dJ0_coder_7d493_0 ?_
  refine tp_i (show (1 : Int32) = nI 1 from rfl) ?_
  refine nv_if_eq (X := ((1 : Nat) : Int)) hx hb (nI_toInt (by omega)) (tgt := 13) dJ0_coder_7d493_3 (by decide) (fun c_1 => ?_) (fun c_1 => ?_)
  · exact absurd c_1 (by omega)
  · skip
    refine lv_aload_n hx hb dJ0_coder_7d493_6 rfl (lv_at hl 0 rfl) ?_
    refine vk_getf hx hb (hZK.1 0 (by decide)).2.1 hS hown (hts _ q912) (fun _ h => h) dJ0_coder_7d493_7 ?_
    refine tp_i (show (0 : Int32) = nI 0 from rfl) ?_
    refine lv_goto (tgt := 14) hx hb dJ0_coder_7d493_10 (by decide) ?_
    exact hret _ _ (nI 0) () _ _ hP hD hS rfl rfl dJ0_coder_7d493_14
abbrev rm_J0_isLatin1_aae02 : Room := { frames := 0, cells := 0, slots := 0, locals := 0 }
set_option maxHeartbeats 4000000 in
set_option maxRecDepth 100000 in
theorem c_J0_isLatin1_aae02 (l : Launch) (E : EE) (sz : Nat) (i0 : Nat) (q16 : String × Nat × String) (hi : sRef[i0]? = some q16)  : MI l yJ0_isLatin1_aae02 cJ0_isLatin1_aae02 1 .boolean rm_J0_isLatin1_aae02 [.ref (E.2.2 i0)] E sz [] (fun (r : Int32) (_ : Unit) => r = bI true) (fun _ => []) 0 0 := by
  refine mi_go (by decide) (Nat.le_of_ble_eq_true rfl) ?_
  intro p e s m below meth c A Q ls hx hb hml hown hts hK hZ hA hsz hP hD hl hret
  have hS : va_S A s.heap s.heap [] := va_S.rf
  have hl : lv_has ls 1 [(0, .ref (E.2.2 i0))] := hl
  skip
  have hZK := (hZ.2.2.2.2.1 i0 q16 hi).1
  have hlen := str_l hi
  refine va_gets hx hb hZ.2.2.2.2.2.1.1 hS hown (hts _ q792) (fun _ h => h) dJ0_isLatin1_aae02_0 ?_
  refine tp_i (show (1 : Int32) = nI 1 from rfl) ?_
  refine nv_if_eq (X := ((1 : Nat) : Int)) hx hb (nI_toInt (by omega)) (tgt := 17) dJ0_isLatin1_aae02_3 (by decide) (fun c_1 => ?_) (fun c_1 => ?_)
  · exact absurd c_1 (by omega)
  · skip
    refine lv_aload_n hx hb dJ0_isLatin1_aae02_6 rfl (lv_at hl 0 rfl) ?_
    refine vk_getf hx hb (hZK.1 0 (by decide)).2.1 hS hown (hts _ q912) (fun _ h => h) dJ0_isLatin1_aae02_7 ?_
    refine tp_i (show (0 : Int32) = nI 0 from rfl) ?_
    refine nv_if_ne (X := ((0 : Nat) : Int)) hx hb (nI_toInt (by omega)) (tgt := 17) dJ0_isLatin1_aae02_10 (by decide) (fun c_2 => ?_) (fun c_2 => ?_)
    · exact absurd c_2 (by omega)
    · skip
      refine lv_iconst (v := nI 1) hx hb dJ0_isLatin1_aae02_13 (by decide) ?_
      refine lv_goto (tgt := 18) hx hb dJ0_isLatin1_aae02_14 (by decide) ?_
      exact hret _ _ (nI 1) () _ _ hP hD hS (by decide) rfl dJ0_isLatin1_aae02_18
abbrev rm_J0_length_8abf5 : Room := { frames := 1, cells := 0, slots := 0, locals := 20 }
set_option maxHeartbeats 4000000 in
set_option maxRecDepth 100000 in
theorem c_J0_length_8abf5 (l : Launch) (E : EE) (sz : Nat) (i0 : Nat) (q16 : String × Nat × String) (hi : sRef[i0]? = some q16)  : MI l yJ0_length_8abf5 cJ0_length_8abf5 1 .int rm_J0_length_8abf5 [.ref (E.2.2 i0)] E sz [] (fun (r : Int32) (_ : Unit) => r = nI q16.2.2.length) (fun _ => []) 0 0 := by
  refine mi_go (by decide) (Nat.le_of_ble_eq_true rfl) ?_
  intro p e s m below meth c A Q ls hx hb hml hown hts hK hZ hA hsz hP hD hl hret
  have hS : va_S A s.heap s.heap [] := va_S.rf
  have hl : lv_has ls 1 [(0, .ref (E.2.2 i0))] := hl
  skip
  have hZK := (hZ.2.2.2.2.1 i0 q16 hi).1
  have hlen := str_l hi
  refine lv_aload_n hx hb dJ0_length_8abf5_0 rfl (lv_at hl 0 rfl) ?_
  refine vk_getf hx hb (hZK.1 0 (by decide)).2.2.1 hS hown (hts _ q911) (fun _ h => h) dJ0_length_8abf5_1 ?_
  refine va_tlen hx hb (hZK.1 0 (by decide)).2.2.2 hS (v := nI q16.2.2.length) rfl dJ0_length_8abf5_4 ?_
  refine lv_aload_n hx hb dJ0_length_8abf5_5 rfl (lv_at hl 0 rfl) ?_
  refine run_i (S := Unit) (run_K (As := []) (rest := [.int (nI q16.2.2.length)]) (bs := []) (cb := []) hx hb hml hown hts hK hZ hA (c_J0_coder_7d493 l E _ i0 q16 hi  ) l_J0_335 rfl ⟨⟨rfl, rfl⟩, Nat.le_of_ble_eq_true rfl, Nat.le_of_ble_eq_true rfl⟩ (vk_recv (i := 0) (hZ.2.2.2.2.1 i0 q16 hi).1 (by decide) hS) [] rfl (by decide) hP hD hS hl.1 rfl (Nat.le_of_ble_eq_true rfl) dJ0_length_8abf5_6 ⟨Nat.zero_le _, Nat.zero_le _⟩) hA hP hD hS (isC := []) rfl [] [] (br := []) (bs2 := fun _ => []) rfl (by decide) (fun _ => rfl) (by decide) (fun r u H locs hw hP hD hS => ?_)
  subst hw
  refine nv_ishr hx hb (by omega) (by omega) dJ0_length_8abf5_9 ?_
  refine tp_i (congrArg nI (Nat.div_one _)) ?_
  exact hret _ _ (nI q16.2.2.length) () _ _ hP hD hS rfl rfl dJ0_length_8abf5_10
abbrev rm_J3_checkIndex_8e157n : Room := { frames := 0, cells := 0, slots := 0, locals := 0 }
set_option maxHeartbeats 4000000 in
set_option maxRecDepth 100000 in
theorem c_J3_checkIndex_8e157n (l : Launch) (E : EE) (sz : Nat) (t9 k0 n0 : Nat) (hk : k0 < n0) (hn : n0 < 2147483648) : MI l yJ3_checkIndex_8e157 cJ3_checkIndex_8e157 3 .int rm_J3_checkIndex_8e157n [.int (nI k0), .int (nI n0), .null] E sz [] (fun (r : Int32) (_ : Unit) => r = nI k0) (fun _ => []) 0 0 := by
  refine mi_go (by decide) (Nat.le_of_ble_eq_true rfl) ?_
  intro p e s m below meth c A Q ls hx hb hml hown hts hK hZ hA hsz hP hD hl hret
  have hS : va_S A s.heap s.heap [] := va_S.rf
  have hl : lv_has ls 3 [(0, .int (nI k0)), (1, .int (nI n0)), (2, .null)] := hl
  skip
  refine lv_iload_n hx hb dJ3_checkIndex_8e157_0 rfl (lv_at hl 0 rfl) ?_
  refine nv_if_lt (X := ((k0 : Nat) : Int)) hx hb (nI_toInt (by omega)) (tgt := 9) dJ3_checkIndex_8e157_1 (by decide) (fun c_1 => ?_) (fun c_1 => ?_)
  · exact absurd c_1 (by omega)
  · skip
    refine lv_iload_n hx hb dJ3_checkIndex_8e157_4 rfl (lv_at hl 0 rfl) ?_
    refine lv_iload_n hx hb dJ3_checkIndex_8e157_5 rfl (lv_at hl 1 rfl) ?_
    refine nv_icmp_lt (X := ((k0 : Nat) : Int)) (Y := ((n0 : Nat) : Int)) hx hb (nI_toInt (by omega)) (nI_toInt (by omega)) (tgt := 16) dJ3_checkIndex_8e157_6 (by decide) (fun c_2 => ?_) (fun c_2 => ?_)
    · skip
      refine lv_iload_n hx hb dJ3_checkIndex_8e157_16 rfl (lv_at hl 0 rfl) ?_
      exact hret _ _ (nI k0) () _ _ hP hD hS rfl rfl dJ3_checkIndex_8e157_17
    · exact absurd c_2 (by omega)
abbrev rm_J3_checkIndex_8e157r : Room := { frames := 0, cells := 0, slots := 0, locals := 0 }
set_option maxHeartbeats 4000000 in
set_option maxRecDepth 100000 in
theorem c_J3_checkIndex_8e157r (l : Launch) (E : EE) (sz : Nat) (t9 k0 n0 : Nat) (hk : k0 < n0) (hn : n0 < 2147483648) : MI l yJ3_checkIndex_8e157 cJ3_checkIndex_8e157 3 .int rm_J3_checkIndex_8e157r [.int (nI k0), .int (nI n0), .ref t9] E sz [] (fun (r : Int32) (_ : Unit) => r = nI k0) (fun _ => []) 0 0 := by
  refine mi_go (by decide) (Nat.le_of_ble_eq_true rfl) ?_
  intro p e s m below meth c A Q ls hx hb hml hown hts hK hZ hA hsz hP hD hl hret
  have hS : va_S A s.heap s.heap [] := va_S.rf
  have hl : lv_has ls 3 [(0, .int (nI k0)), (1, .int (nI n0)), (2, .ref t9)] := hl
  skip
  refine lv_iload_n hx hb dJ3_checkIndex_8e157_0 rfl (lv_at hl 0 rfl) ?_
  refine nv_if_lt (X := ((k0 : Nat) : Int)) hx hb (nI_toInt (by omega)) (tgt := 9) dJ3_checkIndex_8e157_1 (by decide) (fun c_1 => ?_) (fun c_1 => ?_)
  · exact absurd c_1 (by omega)
  · skip
    refine lv_iload_n hx hb dJ3_checkIndex_8e157_4 rfl (lv_at hl 0 rfl) ?_
    refine lv_iload_n hx hb dJ3_checkIndex_8e157_5 rfl (lv_at hl 1 rfl) ?_
    refine nv_icmp_lt (X := ((k0 : Nat) : Int)) (Y := ((n0 : Nat) : Int)) hx hb (nI_toInt (by omega)) (nI_toInt (by omega)) (tgt := 16) dJ3_checkIndex_8e157_6 (by decide) (fun c_2 => ?_) (fun c_2 => ?_)
    · skip
      refine lv_iload_n hx hb dJ3_checkIndex_8e157_16 rfl (lv_at hl 0 rfl) ?_
      exact hret _ _ (nI k0) () _ _ hP hD hS rfl rfl dJ3_checkIndex_8e157_17
    · exact absurd c_2 (by omega)
abbrev rm_J0_checkIndex_df160 : Room := { frames := 1, cells := 0, slots := 0, locals := 22 }
set_option maxHeartbeats 4000000 in
set_option maxRecDepth 100000 in
theorem c_J0_checkIndex_df160 (l : Launch) (E : EE) (sz : Nat) (k0 n0 : Nat) (hk : k0 < n0) (hn : n0 < 2147483648) : MV l yJ0_checkIndex_df160 cJ0_checkIndex_df160 2 rm_J0_checkIndex_df160 [.int (nI k0), .int (nI n0)] E sz [] (fun (_ : Unit) => True) (fun _ => []) 0 0 := by
  refine mv_go (by decide) (Nat.le_of_ble_eq_true rfl) ?_
  intro p e s m below meth c A Q ls hx hb hml hown hts hK hZ hA hsz hP hD hl hret hnm
  have hS : va_S A s.heap s.heap [] := va_S.rf
  have hl : lv_has ls 2 [(0, .int (nI k0)), (1, .int (nI n0))] := hl
  skip
  refine lv_iload_n hx hb dJ0_checkIndex_df160_0 rfl (lv_at hl 0 rfl) ?_
  refine lv_iload_n hx hb dJ0_checkIndex_df160_1 rfl (lv_at hl 1 rfl) ?_
  rcases hZ.2.2.2.2.2.1.2.1 with hq9 | ⟨t9, hq9⟩
  · skip
    refine va_gets hx hb hq9 hS hown (hts _ q770) (fun _ h => h) dJ0_checkIndex_df160_2 ?_
    refine run_i (S := Unit) (run_S (As := [.int (nI k0), .int (nI n0), .null]) (rest := []) (bs := []) (cb := []) hx hb hml hown hts hK hZ hA (c_J3_checkIndex_8e157n l E _ 0 k0 n0 (by omega) (by omega)) l_J0_1059 rfl ⟨⟨rfl, rfl⟩, Nat.le_of_ble_eq_true rfl, Nat.le_of_ble_eq_true rfl⟩ [] rfl (by decide) hP hD hS hl.1 rfl (Nat.le_of_ble_eq_true rfl) dJ0_checkIndex_df160_5 ⟨Nat.zero_le _, Nat.zero_le _⟩) hA hP hD hS (isC := []) rfl [] [] (br := []) (bs2 := fun _ => []) rfl (by decide) (fun _ => rfl) (by decide) (fun r u H locs hw hP hD hS => ?_)
    subst hw
    refine lv_pop hx hb dJ0_checkIndex_df160_8 rfl ?_
    exact hret _ _ () _ _ hP hD hS trivial dJ0_checkIndex_df160_9
  · skip
    refine va_gets hx hb hq9 hS hown (hts _ q770) (fun _ h => h) dJ0_checkIndex_df160_2 ?_
    refine run_i (S := Unit) (run_S (As := [.int (nI k0), .int (nI n0), .ref t9]) (rest := []) (bs := []) (cb := []) hx hb hml hown hts hK hZ hA (c_J3_checkIndex_8e157r l E _ t9 k0 n0 (by omega) (by omega)) l_J0_1059 rfl ⟨⟨rfl, rfl⟩, Nat.le_of_ble_eq_true rfl, Nat.le_of_ble_eq_true rfl⟩ [] rfl (by decide) hP hD hS hl.1 rfl (Nat.le_of_ble_eq_true rfl) dJ0_checkIndex_df160_5 ⟨Nat.zero_le _, Nat.zero_le _⟩) hA hP hD hS (isC := []) rfl [] [] (br := []) (bs2 := fun _ => []) rfl (by decide) (fun _ => rfl) (by decide) (fun r u H locs hw hP hD hS => ?_)
    subst hw
    refine lv_pop hx hb dJ0_checkIndex_df160_8 rfl ?_
    exact hret _ _ () _ _ hP hD hS trivial dJ0_checkIndex_df160_9
abbrev rm_J1_charAt_3b067 : Room := { frames := 2, cells := 0, slots := 0, locals := 43 }
set_option maxHeartbeats 4000000 in
set_option maxRecDepth 100000 in
theorem c_J1_charAt_3b067 (l : Launch) (E : EE) (sz : Nat) (i0 : Nat) (q16 : String × Nat × String) (hi : sRef[i0]? = some q16) (k0 : Nat) (hk : k0 < q16.2.2.length) : MI l yJ1_charAt_3b067 cJ1_charAt_3b067 2 .char rm_J1_charAt_3b067 [.ref (E.2.2 (100 + i0)), .int (nI k0)] E sz [] (fun (r : Int32) (_ : Unit) => r = nI (sch q16.2.2 k0)) (fun _ => []) 0 0 := by
  refine mi_go (by decide) (Nat.le_of_ble_eq_true rfl) ?_
  intro p e s m below meth c A Q ls hx hb hml hown hts hK hZ hA hsz hP hD hl hret
  have hS : va_S A s.heap s.heap [] := va_S.rf
  have hl : lv_has ls 2 [(0, .ref (E.2.2 (100 + i0))), (1, .int (nI k0))] := hl
  skip
  have hZK := (hZ.2.2.2.2.1 i0 q16 hi).1
  have hlen := str_l hi
  obtain ⟨hch, hc6⟩ := str_c hi hk
  refine lv_iload_n hx hb dJ1_charAt_3b067_0 rfl (lv_at hl 1 rfl) ?_
  refine lv_aload_n hx hb dJ1_charAt_3b067_1 rfl (lv_at hl 0 rfl) ?_
  refine va_tlen hx hb (hZK.1 0 (by decide)).2.2.2 hS (v := nI q16.2.2.length) rfl dJ1_charAt_3b067_2 ?_
  refine run_v (S := Unit) (run_S (As := [.int (nI k0), .int (nI q16.2.2.length)]) (rest := []) (bs := []) (cb := []) hx hb hml hown hts hK hZ hA (c_J0_checkIndex_df160 l E _ k0 q16.2.2.length (by omega) (by omega)) l_J1_9 rfl ⟨⟨rfl, rfl⟩, Nat.le_of_ble_eq_true rfl, Nat.le_of_ble_eq_true rfl⟩ [] rfl (by decide) hP hD hS hl.1 rfl (Nat.le_of_ble_eq_true rfl) dJ1_charAt_3b067_3 ⟨Nat.zero_le _, Nat.zero_le _⟩) hA hP hD hS (isC := []) rfl [] [] (br := []) (bs2 := fun _ => []) rfl (by decide) (fun _ => rfl) (by decide) (fun u H locs hw hP hD hS => ?_)
  refine lv_aload_n hx hb dJ1_charAt_3b067_6 rfl (lv_at hl 0 rfl) ?_
  refine lv_iload_n hx hb dJ1_charAt_3b067_7 rfl (lv_at hl 1 rfl) ?_
  refine va_tb hx hb (hZK.1 0 (by decide)).2.2.2 hS (vp_in_nI (show k0 < q16.2.2.length by omega) (show q16.2.2.length < 2 ^ 31 by omega)) (v := .int ((txb q16.2.2).getD k0 0)) (by rw [nI_clamp (by omega)]; rfl) dJ1_charAt_3b067_8 ?_
  refine lv_sipush (v := nI 255) hx hb dJ1_charAt_3b067_9 (by decide) ?_
  refine lv_iand hx hb dJ1_charAt_3b067_12 ?_
  refine tp_i hch ?_
  refine lv_i2c hx hb dJ1_charAt_3b067_13 (i2c_n (Nat.lt_trans hc6 (by decide))) ?_
  exact hret _ _ (nI (sch q16.2.2 k0)) () _ _ hP hD hS (pk_charN (Nat.lt_trans hc6 (by decide))).1 rfl dJ1_charAt_3b067_14
abbrev rm_J0_charAt_5068e : Room := { frames := 3, cells := 0, slots := 0, locals := 64 }
set_option maxHeartbeats 4000000 in
set_option maxRecDepth 100000 in
theorem c_J0_charAt_5068e (l : Launch) (E : EE) (sz : Nat) (i0 : Nat) (q16 : String × Nat × String) (hi : sRef[i0]? = some q16) (k0 : Nat) (hk : k0 < q16.2.2.length) : MI l yJ0_charAt_5068e cJ0_charAt_5068e 2 .char rm_J0_charAt_5068e [.ref (E.2.2 i0), .int (nI k0)] E sz [] (fun (r : Int32) (_ : Unit) => r = nI (sch q16.2.2 k0)) (fun _ => []) 0 0 := by
  refine mi_go (by decide) (Nat.le_of_ble_eq_true rfl) ?_
  intro p e s m below meth c A Q ls hx hb hml hown hts hK hZ hA hsz hP hD hl hret
  have hS : va_S A s.heap s.heap [] := va_S.rf
  have hl : lv_has ls 2 [(0, .ref (E.2.2 i0)), (1, .int (nI k0))] := hl
  skip
  have hZK := (hZ.2.2.2.2.1 i0 q16 hi).1
  have hlen := str_l hi
  obtain ⟨hch, hc6⟩ := str_c hi hk
  refine lv_aload_n hx hb dJ0_charAt_5068e_0 rfl (lv_at hl 0 rfl) ?_
  refine run_i (S := Unit) (run_K (As := []) (rest := []) (bs := []) (cb := []) hx hb hml hown hts hK hZ hA (c_J0_isLatin1_aae02 l E _ i0 q16 hi  ) l_J0_492 rfl ⟨⟨rfl, rfl⟩, Nat.le_of_ble_eq_true rfl, Nat.le_of_ble_eq_true rfl⟩ (vk_recv (i := 0) (hZ.2.2.2.2.1 i0 q16 hi).1 (by decide) hS) [] rfl (by decide) hP hD hS hl.1 rfl (Nat.le_of_ble_eq_true rfl) dJ0_charAt_5068e_1 ⟨Nat.zero_le _, Nat.zero_le _⟩) hA hP hD hS (isC := []) rfl [] [] (br := []) (bs2 := fun _ => []) rfl (by decide) (fun _ => rfl) (by decide) (fun r u H locs hw hP hD hS => ?_)
  subst hw
  refine bv_if_eq hx hb (tgt := 16) dJ0_charAt_5068e_4 (by decide) (fun c_1 => ?_) (fun c_1 => ?_)
  · exact absurd c_1 (by decide)
  · skip
    refine lv_aload_n hx hb dJ0_charAt_5068e_7 rfl (lv_at hl 0 rfl) ?_
    refine vk_getf hx hb (hZK.1 0 (by decide)).2.2.1 hS hown (hts _ q911) (fun _ h => h) dJ0_charAt_5068e_8 ?_
    refine lv_iload_n hx hb dJ0_charAt_5068e_11 rfl (lv_at hl 1 rfl) ?_
    refine run_i (S := Unit) (run_S (As := [.ref (E.2.2 (100 + i0)), .int (nI k0)]) (rest := []) (bs := []) (cb := []) hx hb hml hown hts hK hZ hA (c_J1_charAt_3b067 l E _ i0 q16 hi k0 (by omega)) l_J0_495 rfl ⟨⟨rfl, rfl⟩, Nat.le_of_ble_eq_true rfl, Nat.le_of_ble_eq_true rfl⟩ [] rfl (by decide) hP hD hS hl.1 rfl (Nat.le_of_ble_eq_true rfl) dJ0_charAt_5068e_12 ⟨Nat.zero_le _, Nat.zero_le _⟩) hA hP hD hS (isC := []) rfl [] [] (br := []) (bs2 := fun _ => []) rfl (by decide) (fun _ => rfl) (by decide) (fun r u H locs hw hP hD hS => ?_)
    subst hw
    exact hret _ _ (nI (sch q16.2.2 k0)) () _ _ hP hD hS (pk_charN (Nat.lt_trans hc6 (by decide))).1 rfl dJ0_charAt_5068e_15
