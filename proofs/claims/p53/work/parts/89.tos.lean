theorem l_J0_552 : (Cond.methodLink RJ0 552 yJ5_getValue_6d5f1 ∈ TG ∧ Cond.instanceMethod yJ5_getValue_6d5f1 ∈ TG ∧ Cond.code yJ5_getValue_6d5f1 cJ5_getValue_6d5f1 1 (some (.array .byte)) ∈ TG) ∧ (yJ5_getValue_6d5f1.cls = RJ5 ∧ yJ5_getValue_6d5f1.cls ≠ "java/lang/invoke/MethodHandle" ∧ yJ5_getValue_6d5f1.cls ≠ "java/lang/invoke/VarHandle" ∧ (parseMethodDescriptor yJ5_getValue_6d5f1.desc).map (fun d => d.parameters.length) = some 0) := ⟨⟨q867, q868, q871⟩, by decide +kernel⟩
theorem l_J0_1047 : (Cond.methodLink RJ0 1047 yJ5_isLatin1_aae02 ∈ TG ∧ Cond.instanceMethod yJ5_isLatin1_aae02 ∈ TG ∧ Cond.code yJ5_isLatin1_aae02 cJ5_isLatin1_aae02 1 (some .boolean) ∈ TG) ∧ (yJ5_isLatin1_aae02.cls = RJ5 ∧ yJ5_isLatin1_aae02.cls ≠ "java/lang/invoke/MethodHandle" ∧ yJ5_isLatin1_aae02.cls ≠ "java/lang/invoke/VarHandle" ∧ (parseMethodDescriptor yJ5_isLatin1_aae02.desc).map (fun d => d.parameters.length) = some 0) := ⟨⟨q880, q754, q757⟩, by decide +kernel⟩
abbrev rm_J5_getValue_6d5f1 : Room := { frames := 0, cells := 0, slots := 0, locals := 0 }
set_option maxHeartbeats 4000000 in
set_option maxRecDepth 100000 in
theorem c_J5_getValue_6d5f1 (l : Launch) (E : EE) (sz : Nat) (y : Nat → Nat) (v ml n : Nat)  : MQ2 l yJ5_getValue_6d5f1 cJ5_getValue_6d5f1 1 (.array .byte) rm_J5_getValue_6d5f1 [.ref (y 0)] E sz [sbO E y v ml n] (fun (_ : Unit) => True) (fun _ => v) (fun _ => [sbO E y v ml n]) 0 0 := by
  refine mq_go (by decide) (Nat.le_of_ble_eq_true rfl) (Or.inr ⟨_, rfl⟩) ?_
  intro p e s m below meth c A Q ls hx hb hml hown hts hK hZ hA hsz hP hD hl hret
  have hS : va_S A s.heap s.heap [] := va_S.rf
  have hl : lv_has ls 1 [(0, .ref (y 0))] := hl
  skip
  refine lv_aload_n hx hb dJ5_getValue_6d5f1_0 rfl (lv_at hl 0 rfl) ?_
  refine va_get (D := E.1) (ci := 1) (v := .ref v) (C := RJ4) (T := TJ4) (N := 4) hx hb hts inJ4 hown hK hP 0 rfl rfl 0 (by decide) (hts _ q231) (fun _ h9 => h9) rfl dJ5_getValue_6d5f1_1 ?_
  exact hret _ _ () _ _ _ _ hP hD hS trivial dJ5_getValue_6d5f1_4 (by omega) (by omega)
theorem wJ4i : Cond.initialized RJ4 ∈ TG := q29
abbrev rm_J7_checkLength_df160 : Room := { frames := 0, cells := 0, slots := 0, locals := 0 }
set_option maxHeartbeats 4000000 in
set_option maxRecDepth 100000 in
theorem c_J7_checkLength_df160 (l : Launch) (E : EE) (sz : Nat) (n0 n1 : Nat) (h : n0 ≤ n1) (h1 : n1 ≤ 100) : MV l yJ7_checkLength_df160 cJ7_checkLength_df160 2 rm_J7_checkLength_df160 [.int (nI n0), .int (nI n1)] E sz [] (fun (_ : Unit) => True) (fun _ => []) 0 0 := by
  refine mv_go (by decide) (Nat.le_of_ble_eq_true rfl) ?_
  intro p e s m below meth c A Q ls hx hb hml hown hts hK hZ hA hsz hP hD hl hret hnm
  have hS : va_S A s.heap s.heap [] := va_S.rf
  have hl : lv_has ls 2 [(0, .int (nI n0)), (1, .int (nI n1))] := hl
  skip
  refine lv_iload_n hx hb dJ7_checkLength_df160_0 rfl (lv_at hl 1 rfl) ?_
  refine lv_iload_n hx hb dJ7_checkLength_df160_1 rfl (lv_at hl 0 rfl) ?_
  refine nv_icmp_ge (X := ((n1 : Nat) : Int)) (Y := ((n0 : Nat) : Int)) hx hb (nI_toInt (by omega)) (nI_toInt (by omega)) (tgt := 37) dJ7_checkLength_df160_2 (by decide) (fun c_1 => ?_) (fun c_1 => ?_)
  · skip
    exact hret _ _ () _ _ hP hD hS trivial dJ7_checkLength_df160_37
  · exact absurd c_1 (by omega)
abbrev rm_J7_copyOfRangeByte_39247 : Room := { frames := 1, cells := 1, slots := 34, locals := 120 }
set_option maxHeartbeats 4000000 in
set_option maxRecDepth 100000 in
theorem c_J7_copyOfRangeByte_39247 (l : Launch) (E : EE) (sz : Nat) (v cp : Nat) (t : Nat → Nat) (ht : ∀ j, t j < 128) (n0 : Nat) (h1 : n0 ≤ cp) (h2 : cp ≤ 34) : MQ2 l yJ7_copyOfRangeByte_39247 cJ7_copyOfRangeByte_39247 5 (.array .byte) rm_J7_copyOfRangeByte_39247 [.ref v, .int (nI 0), .int (nI n0)] E sz [baC E v cp t] (fun (u : Nat × (Nat → Nat)) => ∀ j, u.2 j < 128) (fun u => u.1) (fun u => [baC E v cp t, baC E u.1 n0 u.2]) 1 34 := by
  refine mq_go (by decide) (Nat.le_of_ble_eq_true rfl) (Or.inr ⟨_, rfl⟩) ?_
  intro p e s m below meth c A Q ls hx hb hml hown hts hK hZ hA hsz hP hD hl hret
  have hS : va_S A s.heap s.heap [] := va_S.rf
  have hl : lv_has ls 5 [(0, .ref v), (1, .int (nI 0)), (2, .int (nI n0))] := hl
  skip
  refine lv_iload_n hx hb dJ7_copyOfRangeByte_39247_0 rfl (lv_at hl 1 rfl) ?_
  refine lv_iload_n hx hb dJ7_copyOfRangeByte_39247_1 rfl (lv_at hl 2 rfl) ?_
  refine run_v (S := Unit) (run_S (As := [.int (nI 0), .int (nI n0)]) (rest := []) (bs := [baC E v cp t]) (cb := []) hx hb hml hown hts hK hZ hA (c_J7_checkLength_df160 l E _ 0 n0 (by omega) (by omega)) l_J7_343 rfl ⟨⟨rfl, rfl⟩, Nat.le_of_ble_eq_true rfl, Nat.le_of_ble_eq_true rfl⟩ [] rfl (by decide) hP hD hS hl.1 rfl (Nat.le_of_ble_eq_true rfl) dJ7_copyOfRangeByte_39247_2 ⟨Nat.zero_le _, Nat.zero_le _⟩) hA hP hD hS (isC := []) rfl [0] [0] (br := [baC E v cp t]) (bs2 := fun _ => [baC E v cp t]) rfl (by decide) (fun _ => rfl) (by decide) (fun u H locs hw hP hD hS => ?_)
  refine lv_iload_n hx hb dJ7_copyOfRangeByte_39247_5 rfl (lv_at hl 2 rfl) ?_
  refine lv_iload_n hx hb dJ7_copyOfRangeByte_39247_6 rfl (lv_at hl 1 rfl) ?_
  refine nv_isub hx hb (Nat.zero_le _) dJ7_copyOfRangeByte_39247_7 ?_
  refine lv_istore_n (lv' := [(3, .int (nI n0)), (0, .ref v), (1, .int (nI 0)), (2, .int (nI n0))]) hx hb dJ7_copyOfRangeByte_39247_8 rfl hl (by decide) rfl (fun ls hl => ?_)
  refine lv_iload_n hx hb dJ7_copyOfRangeByte_39247_9 rfl (lv_at hl 0 rfl) ?_
  refine nv_newt (atype := .byte) hx hb (hts _ q245) rfl hK hP hD hS hA 2 (uq_byte hK) (n := n0) (fun _ => rfl) (by omega) (by show n0 * 1 ≤ _; omega) (by decide) (by show _ + n0 ≤ 34; omega) dJ7_copyOfRangeByte_39247_10 (fun q_1 H hP hD hS => ?_)
  rw [flat_app] at hP hD
  refine W_widen (k := 1) (n := 34) (Nat.le_refl _) (by show 0 + n0 ≤ 34; omega) ?_
  have hP : va_P E.1 vwCl ([baC E v cp t, baC E q_1 n0 (fun _ => 0)] : List va_W).flatten H := hP
  have hD : va_D A ([baC E v cp t, baC E q_1 n0 (fun _ => 0)] : List va_W).flatten := hD
  refine lv_astore (lv' := [(4, .ref q_1), (3, .int (nI n0)), (0, .ref v), (1, .int (nI 0)), (2, .int (nI n0))]) hx hb dJ7_copyOfRangeByte_39247_12 hl (by decide) rfl (fun ls hl => ?_)
  refine lv_aload_n hx hb dJ7_copyOfRangeByte_39247_14 rfl (lv_at hl 2 rfl) ?_
  refine lv_iload_n hx hb dJ7_copyOfRangeByte_39247_15 rfl (lv_at hl 3 rfl) ?_
  refine lv_aload hx hb dJ7_copyOfRangeByte_39247_16 (lv_at hl 0 rfl) ?_
  refine lv_iconst (v := nI 0) hx hb dJ7_copyOfRangeByte_39247_18 (by decide) ?_
  refine lv_aload_n hx hb dJ7_copyOfRangeByte_39247_19 rfl (lv_at hl 2 rfl) ?_
  refine va_alen hx hb hK hP 0 2 rfl rfl (v := nI cp) rfl dJ7_copyOfRangeByte_39247_20 ?_
  refine lv_iload_n hx hb dJ7_copyOfRangeByte_39247_21 rfl (lv_at hl 3 rfl) ?_
  refine nv_isub hx hb (Nat.zero_le _) dJ7_copyOfRangeByte_39247_22 ?_
  refine lv_iload_n hx hb dJ7_copyOfRangeByte_39247_23 rfl (lv_at hl 1 rfl) ?_
  refine va_mmin hx hb (hml.trans hl.1.symm) hown (hts _ q751) (hts _ q502) (hts _ q39) (hts _ q503) (Nat.le_of_ble_eq_true rfl) (Nat.le_of_ble_eq_true rfl) (by decide) (by decide) dJ7_copyOfRangeByte_39247_24 ?_
  refine tp_i ((nI_mn (a := cp) (b := n0) (by omega) (by omega)).trans (congrArg nI (show (if n0 < cp then n0 else cp) = n0 by split <;> omega))) ?_
  refine nv_bput (f := t) (g := (fun _ => 0)) (n := cp) (k := n0) (d := 0) (n1 := n0) hx hb (hml.trans hl.1.symm) hown (hts _ q752) (hts _ q478) (hts _ q477) (hts _ q38) hK hP hD hS 0 1 2 rfl rfl rfl (by omega) (by omega) (by omega) (by omega) ht (fun _ => by decide) (Nat.le_of_ble_eq_true rfl) (by decide +kernel) dJ7_copyOfRangeByte_39247_27 (fun u_2 H locs hu_2 hP hD hS => ?_)
  have hP : va_P E.1 vwCl ([baC E v cp t, baC E q_1 n0 u_2] : List va_W).flatten H := hP
  have hD : va_D A ([baC E v cp t, baC E q_1 n0 u_2] : List va_W).flatten := hD
  refine lv_aload hx hb dJ7_copyOfRangeByte_39247_30 (lv_at hl 0 rfl) ?_
  exact hret _ _ (q_1, u_2) _ _ _ _ hP hD hS hu_2 dJ7_copyOfRangeByte_39247_32 (by omega) (by omega)
theorem by_fit {cA : ClassId} {m : Nat} {t : Nat → Nat} (ht : ∀ j, t j < 128) : ∀ (i : Nat) (v : Value), (vp_cell cA (m, .inl (fun j => nI (t j)))).slots[i]? = some v → fits .byte v = true := by
  intro i v h
  have h : (arrV cA m (fun j => .int (nI (t j)))).slots[i]? = some v := h
  have hi : i < m := by
    have := (Array.getElem?_eq_some_iff.mp h).1
    rw [arrV_size] at this
    exact this
  rw [arrV_read _ _ hi] at h
  cases h
  exact byt_fit _ (ht i)
abbrev rm_J7_copyOfRange_39247 : Room := { frames := 2, cells := 1, slots := 34, locals := 144 }
set_option maxHeartbeats 4000000 in
set_option maxRecDepth 100000 in
theorem c_J7_copyOfRange_39247 (l : Launch) (E : EE) (sz : Nat) (v cp : Nat) (t : Nat → Nat) (ht : ∀ j, t j < 128) (n0 : Nat) (h1 : n0 ≤ cp) (h2 : cp ≤ 34) : MQ2 l yJ7_copyOfRange_39247 cJ7_copyOfRange_39247 3 (.array .byte) rm_J7_copyOfRange_39247 [.ref v, .int (nI 0), .int (nI n0)] E sz [baC E v cp t] (fun (u : Nat × (Nat → Nat)) => ∀ j, u.2 j < 128) (fun u => u.1) (fun u => [baC E v cp t, baC E u.1 n0 u.2]) 1 34 := by
  refine mq_go (by decide) (Nat.le_of_ble_eq_true rfl) (Or.inr ⟨_, rfl⟩) ?_
  intro p e s m below meth c A Q ls hx hb hml hown hts hK hZ hA hsz hP hD hl hret
  have hS : va_S A s.heap s.heap [] := va_S.rf
  have hl : lv_has ls 3 [(0, .ref v), (1, .int (nI 0)), (2, .int (nI n0))] := hl
  skip
  refine lv_iload_n hx hb dJ7_copyOfRange_39247_0 rfl (lv_at hl 1 rfl) ?_
  refine nv_if_ne (X := ((0 : Nat) : Int)) hx hb (nI_toInt (by omega)) (tgt := 10) dJ7_copyOfRange_39247_1 (by decide) (fun c_1 => ?_) (fun c_1 => ?_)
  · exact absurd c_1 (by omega)
  · skip
    refine lv_iload_n hx hb dJ7_copyOfRange_39247_4 rfl (lv_at hl 2 rfl) ?_
    refine lv_aload_n hx hb dJ7_copyOfRange_39247_5 rfl (lv_at hl 0 rfl) ?_
    refine va_alen hx hb hK hP 0 2 rfl rfl (v := nI cp) rfl dJ7_copyOfRange_39247_6 ?_
    refine nv_icmp_eq (X := ((n0 : Nat) : Int)) (Y := ((cp : Nat) : Int)) hx hb (nI_toInt (by omega)) (nI_toInt (by omega)) (tgt := 17) dJ7_copyOfRange_39247_7 (by decide) (fun c_2 => ?_) (fun c_2 => ?_)
    · skip
      refine lv_aload_n hx hb dJ7_copyOfRange_39247_17 rfl (lv_at hl 0 rfl) ?_
      refine va_clone hx hb (hml.trans hl.1.symm) hown (ad := "[B") (hts _ (tg_of 744 (by decide +kernel) (by decide +kernel))) (hts _ (tg_of 745 (by decide +kernel) (by decide +kernel))) (hts _ (tg_of 746 (by decide +kernel) (by decide +kernel))) (hts _ (tg_of 747 (by decide +kernel) (by decide +kernel))) (hts _ (tg_of 748 (by decide +kernel) (by decide +kernel))) (hZ.2.2.1 _ (List.mem_of_getElem? (i := 7) rfl)) hK hP hD hS hA 0 2 rfl rfl (va_nm_byte (hK.2 2 _ rfl).2) (by_fit ht) (Nat.le_of_ble_eq_true rfl) (Nat.le_of_ble_eq_true rfl) (by decide) (by show 0 + cp ≤ 34; omega) dJ7_copyOfRange_39247_18 (fun q_3 H hK9 hP hD hS => ?_)
      rw [flat_app] at hP hD
      refine W_widen (k := 1) (n := 34) (Nat.le_refl _) (by show 0 + cp ≤ 34; omega) ?_
      obtain rfl : n0 = cp := by omega
      have hP : va_P E.1 vwCl ([baC E v n0 t, baC E q_3 n0 t] : List va_W).flatten H := hP
      have hD : va_D A ([baC E v n0 t, baC E q_3 n0 t] : List va_W).flatten := hD
      refine va_castA hx hb hown (hts _ (tg_of 750 (by decide +kernel) (by decide +kernel))) hP 1 rfl (va_nm_byte (hK.2 2 _ rfl).2) dJ7_copyOfRange_39247_21 ?_
      exact hret _ _ (q_3, t) _ _ _ _ hP hD hS ht dJ7_copyOfRange_39247_24 (by omega) (by omega)
    · skip
      refine lv_aload_n hx hb dJ7_copyOfRange_39247_10 rfl (lv_at hl 0 rfl) ?_
      refine lv_iload_n hx hb dJ7_copyOfRange_39247_11 rfl (lv_at hl 1 rfl) ?_
      refine lv_iload_n hx hb dJ7_copyOfRange_39247_12 rfl (lv_at hl 2 rfl) ?_
      refine run_q (S := Nat × (Nat → Nat)) (run_S (As := [.ref v, .int (nI 0), .int (nI n0)]) (rest := []) (bs := [baC E v cp t]) (cb := [baC E v cp t]) hx hb hml hown hts hK hZ hA (c_J7_copyOfRangeByte_39247 l E _ v cp t ht n0 (by omega) (by omega)) l_J7_339 rfl ⟨⟨rfl, rfl⟩, Nat.le_of_ble_eq_true rfl, Nat.le_of_ble_eq_true rfl⟩ [0] rfl (by decide) hP hD hS hl.1 rfl (Nat.le_of_ble_eq_true rfl) dJ7_copyOfRange_39247_13 ⟨Nat.le_of_ble_eq_true rfl, Nat.le_of_ble_eq_true rfl⟩) hA hP hD hS (isC := [0]) rfl [] [0, 1] (br := []) (bs2 := fun u => [baC E v cp t, baC E u.1 n0 u.2]) rfl (by decide) (fun _ => rfl) (by decide) (fun ⟨q_4, t_5⟩ H locs hw hP hD hS => ?_)
      have ht_5 : ∀ j, t_5 j < 128 := hw
      have hP : va_P E.1 vwCl ([baC E v cp t, baC E q_4 n0 t_5] : List va_W).flatten H := hP
      have hD : va_D A ([baC E v cp t, baC E q_4 n0 t_5] : List va_W).flatten := hD
      exact hret _ _ (q_4, t_5) _ _ _ _ hP hD hS ht_5 dJ7_copyOfRange_39247_16 (by omega) (by omega)
section OLE
variable {p : Program} {l : Launch} {e : Env} {R : Room} {s : State} {m : MethodId} {args : Array Value} {below : List Frame} {meth : Method} {c : Code} {H : Heap} {locs : List Loc} {cells slots : Nat} {Q : State → Prop} {cc : ByteArray} {pc : Nat} {ls : Array Slot} {st rest : List Value} {A : Nat → Prop}
variable {nL mc ms bb : Nat} {rm : Room} {As : List Value} {fs : List Value} {E : EE} {bs cb : List va_W} {Qc : Array Value → State → Outcome → State → Prop} {free : Addr → Prop} {isC : List Nat}
/-- AbstractStringBuilder.length() upon a StringBuilder: StringBuilder's own -/
theorem run_OL (hx : p.tables.exec = Jvm.exec) (hb : c.code = cc) (hml : c.maxLocals = nL) (hown : s.vm.findClass RJ0 = some m.cls) (hts : ∀ w ∈ TG, w.before args s = true) (hK : va_K E.1 vwCl (tyl E.2.1) s) (hZ : ZZ E A s s.heap) (hA : ∀ q, s.heap.size ≤ q → A q)
    (hM : Met l yJ4_length_8abf5 (Wd yJ4_length_8abf5 cJ4_length_8abf5 1 (some .int)) rm (va_Pc (.ref bb :: As) (PB E H.size cb)) Qc mc ms free) (hn : As.length = 0) (hR : (rm.cells = mc ∧ rm.slots = ms) ∧ (rm.frames + 1 ≤ R.frames ∧ 8 + (1 + 11) + rm.locals ≤ R.locals))
    (isC : List Nat) (hC : isC.map (fun i => bs[i]?) = cb.map some) (hnd : va_nd isC = true) (he : cb.flatten[0]? = some (bb, .inr (1, fs))) (hP : va_P E.1 vwCl bs.flatten H) (hD : va_D A bs.flatten) (hS : va_S A s.heap H locs)
    (hlsz : ls.size = nL) (hst : st = As.reverse ++ .ref bb :: rest) (hcat : (rest.map fun v => v.category).sum ≤ 8) (hdg : decode cc pc = .ok (.invokevirtual 549, 3)) (hf : cells + mc ≤ R.cells ∧ slots + ms ≤ R.slots) :
    va_Run p l e R s m args below meth c H locs cells slots mc ms (F0 m pc ls st) rest (Qc (Value.ref bb :: As).toArray) free := by
  have wsm : Cond.sameMethod RJ5 RJ5 "length" "()I" ∈ TG := tg_of 874 (by decide +kernel) (by decide +kernel)
  have hGd : GoodIn TG (va_wsO RJ0 549 RJ4 RJ5 yJ5_length_8abf5 yJ4_length_8abf5 (Wd yJ4_length_8abf5 cJ4_length_8abf5 1 (some .int))) := by
    intro w hw
    unfold va_wsO at hw
    rcases List.mem_append.mp hw with hw | hw
    · simp only [List.mem_cons, List.not_mem_nil, or_false] at hw
      rcases hw with rfl | rfl | rfl | rfl | rfl | rfl
      · exact ⟨q872, tg_good q872⟩
      · exact ⟨wsm, tg_good wsm⟩
      · exact ⟨q873, tg_good q873⟩
      · exact ⟨q875, tg_good q875⟩
      · exact ⟨q876, tg_good q876⟩
      · exact ⟨wJ4i, tg_good wJ4i⟩
    · exact tg_in q877 w hw
  exact va_runU (C := RJ4) (owner := RJ5) (x := yJ5_length_8abf5) (As := As) (rest := rest) ⟨hx, hb, hml, hown, hts⟩ hM (va_cwO 0 hts hGd rfl hR.1.1 hR.1.2 q879 (by decide +kernel) hR.2) ⟨PB_blind E H.size cb _, va_recv hK (bk_P hC hP) (show vwCl[1]? = some _ from rfl) he, fun U hU hW => ⟨rfl, pb_of hK hZ hA hS hP hD hC hnd hU hW⟩⟩ rfl hn hlsz hst (lv_room hcat) hdg hf
end OLE
theorem dfJ0 : ∀ j, j < 4 → defaultValue (tyJ0 j) = vp_V [.null, .int (nI 0), .int (nI 0), .int (nI 0)] j := fun j hj => match j, hj with
  | 0, _ => rfl
  | 1, _ => rfl
  | 2, _ => rfl
  | 3, _ => rfl
  | n + 4, h => absurd h (by omega)
abbrev rm_J0_init_db425 : Room := { frames := 3, cells := 1, slots := 34, locals := 166 }
set_option maxHeartbeats 4000000 in
set_option maxRecDepth 100000 in
theorem c_J0_init_db425 (l : Launch) (E : EE) (sz : Nat) (q : Nat) (y : Nat → Nat) (v ml n cp : Nat) (t : Nat → Nat) (ht : ∀ j, t j < 128) (hn : n ≤ cp) (h34 : cp ≤ 34)  : MV l yJ0_init_db425 cJ0_init_db425 5 rm_J0_init_db425 [.ref q, .ref (y 0), .null] E sz [([(q, .inr (0, [.null, .int (nI 0), .int (nI 0), .int (nI 0)]))] : va_W), sbO E y v ml n, baC E v cp t] (fun (u : Nat × (Nat → Nat)) => ∀ j, u.2 j < 128) (fun u => [stO E q u.1, sbO E y v ml n, baC E v cp t, baC E u.1 n u.2]) 1 34 := by
  refine mv_go (by decide) (Nat.le_of_ble_eq_true rfl) ?_
  intro p e s m below meth c A Q ls hx hb hml hown hts hK hZ hA hsz hP hD hl hret hnm
  have hS : va_S A s.heap s.heap [] := va_S.rf
  have hl : lv_has ls 5 [(0, .ref q), (1, .ref (y 0)), (2, .null)] := hl
  skip
  have hin : meth.name = "<init>" := (name_of_methodNamed hnm.1 hnm.2).1
  refine lv_aload_n hx hb dJ0_init_db425_0 rfl (lv_at hl 0 rfl) ?_
  refine W.objInit hx hb hown (hts _ (tg_of 866 (by decide +kernel) (by decide +kernel))) (hts _ q58) (hts _ (tg_of 59 (by decide +kernel) (by decide +kernel))) rfl (by rw [hml]; exact hl.1) rfl dJ0_init_db425_1 (Nat.le_of_ble_eq_true rfl) (Nat.le_of_ble_eq_true rfl) ?_
  refine W.eq (g2 := F0 m 4 ls []) rfl ?_
  refine lv_aload_n hx hb dJ0_init_db425_4 rfl (lv_at hl 1 rfl) ?_
  refine run_q (S := Unit) (run_P (As := []) (rest := []) (bs := [([(q, .inr (0, [.null, .int (nI 0), .int (nI 0), .int (nI 0)]))] : va_W), sbO E y v ml n, baC E v cp t]) (cb := [sbO E y v ml n]) hx hb hml hown hts hK hZ hA (c_J5_getValue_6d5f1 l E _ y v ml n) l_J0_552 (hts _ q870) rfl ⟨⟨rfl, rfl⟩, Nat.le_of_ble_eq_true rfl, Nat.le_of_ble_eq_true rfl⟩ [1] rfl (by decide) rfl hP hD hS hl.1 rfl (Nat.le_of_ble_eq_true rfl) dJ0_init_db425_5 ⟨Nat.zero_le _, Nat.zero_le _⟩) hA hP hD hS (isC := [1]) rfl [0, 2] [0, 2, 1] (br := [([(q, .inr (0, [.null, .int (nI 0), .int (nI 0), .int (nI 0)]))] : va_W), baC E v cp t]) (bs2 := fun _ => [([(q, .inr (0, [.null, .int (nI 0), .int (nI 0), .int (nI 0)]))] : va_W), sbO E y v ml n, baC E v cp t]) rfl (by decide) (fun _ => rfl) (by decide) (fun _ H locs hw hP hD hS => ?_)
  refine lv_astore_n (lv' := [(3, .ref v), (0, .ref q), (1, .ref (y 0)), (2, .null)]) hx hb dJ0_init_db425_8 rfl hl (by decide) rfl (fun ls hl => ?_)
  refine lv_aload_n hx hb dJ0_init_db425_9 rfl (lv_at hl 2 rfl) ?_
  refine run_i (S := Unit) (run_OL (As := []) (rest := []) (bs := [([(q, .inr (0, [.null, .int (nI 0), .int (nI 0), .int (nI 0)]))] : va_W), sbO E y v ml n, baC E v cp t]) (cb := [sbO E y v ml n]) hx hb hml hown hts hK hZ hA (c_J4_length_8abf5 l E _ y v ml n) rfl ⟨⟨rfl, rfl⟩, Nat.le_of_ble_eq_true rfl, Nat.le_of_ble_eq_true rfl⟩ [1] rfl (by decide) rfl hP hD hS hl.1 rfl (Nat.le_of_ble_eq_true rfl) dJ0_init_db425_10 ⟨by decide, by decide⟩) hA hP hD hS (isC := [1]) rfl [0, 2] [0, 2, 1] (br := [([(q, .inr (0, [.null, .int (nI 0), .int (nI 0), .int (nI 0)]))] : va_W), baC E v cp t]) (bs2 := fun _ => [([(q, .inr (0, [.null, .int (nI 0), .int (nI 0), .int (nI 0)]))] : va_W), sbO E y v ml n, baC E v cp t]) rfl (by decide) (fun _ => rfl) (by decide) (fun r u H locs hw hP hD hS => ?_)
  subst hw
  refine lv_istore (lv' := [(4, .int (nI n)), (3, .ref v), (0, .ref q), (1, .ref (y 0)), (2, .null)]) hx hb dJ0_init_db425_13 hl (by decide) rfl (fun ls hl => ?_)
  refine lv_aload_n hx hb dJ0_init_db425_15 rfl (lv_at hl 3 rfl) ?_
  refine run_i (S := Unit) (run_P (As := []) (rest := []) (bs := [([(q, .inr (0, [.null, .int (nI 0), .int (nI 0), .int (nI 0)]))] : va_W), sbO E y v ml n, baC E v cp t]) (cb := [sbO E y v ml n]) hx hb hml hown hts hK hZ hA (c_J5_isLatin1_aae02 l E _ y v ml n) l_J0_1047 (hts _ q756) rfl ⟨⟨rfl, rfl⟩, Nat.le_of_ble_eq_true rfl, Nat.le_of_ble_eq_true rfl⟩ [1] rfl (by decide) rfl hP hD hS hl.1 rfl (Nat.le_of_ble_eq_true rfl) dJ0_init_db425_16 ⟨Nat.zero_le _, Nat.zero_le _⟩) hA hP hD hS (isC := [1]) rfl [0, 2] [0, 2, 1] (br := [([(q, .inr (0, [.null, .int (nI 0), .int (nI 0), .int (nI 0)]))] : va_W), baC E v cp t]) (bs2 := fun _ => [([(q, .inr (0, [.null, .int (nI 0), .int (nI 0), .int (nI 0)]))] : va_W), sbO E y v ml n, baC E v cp t]) rfl (by decide) (fun _ => rfl) (by decide) (fun r u H locs hw hP hD hS => ?_)
  subst hw
  refine bv_if_eq hx hb (tgt := 41) dJ0_init_db425_19 (by decide) (fun c_1 => ?_) (fun c_1 => ?_)
  · exact absurd c_1 (by decide)
  · skip
    refine lv_aload_n hx hb dJ0_init_db425_22 rfl (lv_at hl 2 rfl) ?_
    refine lv_iconst (v := nI 0) hx hb dJ0_init_db425_23 (by decide) ?_
    refine va_putF (D := E.1) (ci := 0) (v := .int (nI 0)) (ty := .byte) (C := RJ0) (T := TJ0) (N := 4) hx hb hts inJ0 tyJ0 tyJ0_ok nmJ0 hown hK hP hD hS 0 rfl rfl 1 (by decide) (hts _ q912) (fun _ h9 => h9) rfl hin rfl (by decide +kernel) (by decide) rfl (Nat.le_of_ble_eq_true rfl) dJ0_init_db425_24 (fun H locs hP hD hS => ?_)
    have hP : va_P E.1 vwCl ([([(q, .inr (0, [.null, .int (nI 0), .int (nI 0), .int (nI 0)]))] : va_W), sbO E y v ml n, baC E v cp t] : List va_W).flatten H := hP
    have hD : va_D A ([([(q, .inr (0, [.null, .int (nI 0), .int (nI 0), .int (nI 0)]))] : va_W), sbO E y v ml n, baC E v cp t] : List va_W).flatten := hD
    refine lv_aload_n hx hb dJ0_init_db425_27 rfl (lv_at hl 2 rfl) ?_
    refine lv_aload_n hx hb dJ0_init_db425_28 rfl (lv_at hl 1 rfl) ?_
    refine lv_iconst (v := nI 0) hx hb dJ0_init_db425_29 (by decide) ?_
    refine lv_iload hx hb dJ0_init_db425_30 (lv_at hl 0 rfl) ?_
    refine run_q (S := Nat × (Nat → Nat)) (run_S (As := [.ref v, .int (nI 0), .int (nI n)]) (rest := [.ref q]) (bs := [([(q, .inr (0, [.null, .int (nI 0), .int (nI 0), .int (nI 0)]))] : va_W), sbO E y v ml n, baC E v cp t]) (cb := [baC E v cp t]) hx hb hml hown hts hK hZ hA (c_J7_copyOfRange_39247 l E _ v cp t ht n (by omega) (by omega)) l_J0_54 rfl ⟨⟨rfl, rfl⟩, Nat.le_of_ble_eq_true rfl, Nat.le_of_ble_eq_true rfl⟩ [2] rfl (by decide) hP hD hS hl.1 rfl (Nat.le_of_ble_eq_true rfl) dJ0_init_db425_32 ⟨Nat.le_of_ble_eq_true rfl, Nat.le_of_ble_eq_true rfl⟩) hA hP hD hS (isC := [2]) rfl [0, 1] [0, 1, 2, 3] (br := [([(q, .inr (0, [.null, .int (nI 0), .int (nI 0), .int (nI 0)]))] : va_W), sbO E y v ml n]) (bs2 := fun u => [([(q, .inr (0, [.null, .int (nI 0), .int (nI 0), .int (nI 0)]))] : va_W), sbO E y v ml n, baC E v cp t, baC E u.1 n u.2]) rfl (by decide) (fun _ => rfl) (by decide) (fun ⟨q_2, t_3⟩ H locs hw hP hD hS => ?_)
    have ht_3 : ∀ j, t_3 j < 128 := hw
    have hP : va_P E.1 vwCl ([([(q, .inr (0, [.null, .int (nI 0), .int (nI 0), .int (nI 0)]))] : va_W), sbO E y v ml n, baC E v cp t, baC E q_2 n t_3] : List va_W).flatten H := hP
    have hD : va_D A ([([(q, .inr (0, [.null, .int (nI 0), .int (nI 0), .int (nI 0)]))] : va_W), sbO E y v ml n, baC E v cp t, baC E q_2 n t_3] : List va_W).flatten := hD
    refine va_putF (D := E.1) (ci := 0) (v := .ref q_2) (ty := .array .byte) (C := RJ0) (T := TJ0) (N := 4) hx hb hts inJ0 tyJ0 tyJ0_ok nmJ0 hown hK hP hD hS 0 rfl rfl 0 (by decide) (hts _ q911) (fun _ h9 => h9) rfl hin rfl (by decide +kernel) rfl rfl (Nat.le_of_ble_eq_true rfl) dJ0_init_db425_35 (fun H locs hP hD hS => ?_)
    have hP : va_P E.1 vwCl ([([(q, .inr (0, [.ref q_2, .int (nI 0), .int (nI 0), .int (nI 0)]))] : va_W), sbO E y v ml n, baC E v cp t, baC E q_2 n t_3] : List va_W).flatten H := hP
    have hD : va_D A ([([(q, .inr (0, [.ref q_2, .int (nI 0), .int (nI 0), .int (nI 0)]))] : va_W), sbO E y v ml n, baC E v cp t, baC E q_2 n t_3] : List va_W).flatten := hD
    refine lv_goto (tgt := 97) hx hb dJ0_init_db425_38 (by decide) ?_
    have hP : va_P E.1 vwCl ([stO E q q_2, sbO E y v ml n, baC E v cp t, baC E q_2 n t_3] : List va_W).flatten H := hP
    have hD : va_D A ([stO E q q_2, sbO E y v ml n, baC E v cp t, baC E q_2 n t_3] : List va_W).flatten := hD
    exact hret _ _ (q_2, t_3) _ _ hP hD hS ht_3 dJ0_init_db425_97
theorem l_J0_489 : (Cond.methodLink RJ0 489 yJ0_init_db425 ∈ TG ∧ Cond.instanceMethod yJ0_init_db425 ∈ TG ∧ Cond.initialized yJ0_init_db425.cls ∈ TG ∧ Cond.code yJ0_init_db425 cJ0_init_db425 5 none ∈ TG) ∧ yJ0_init_db425.name = "<init>" ∧ (yJ0_init_db425.cls ≠ "java/lang/invoke/MethodHandle" ∧ yJ0_init_db425.cls ≠ "java/lang/invoke/VarHandle" ∧ (parseMethodDescriptor yJ0_init_db425.desc).map (fun d => d.parameters.length) = some 2) := ⟨⟨q863, q864, q30, q865⟩, by decide +kernel⟩
abbrev rm_J0_init_81219 : Room := { frames := 4, cells := 1, slots := 34, locals := 190 }
set_option maxHeartbeats 4000000 in
set_option maxRecDepth 100000 in
theorem c_J0_init_81219 (l : Launch) (E : EE) (sz : Nat) (q : Nat) (y : Nat → Nat) (v ml n cp : Nat) (t : Nat → Nat) (ht : ∀ j, t j < 128) (hn : n ≤ cp) (h34 : cp ≤ 34)  : MV l yJ0_init_81219 cJ0_init_81219 2 rm_J0_init_81219 [.ref q, .ref (y 0)] E sz [([(q, .inr (0, [.null, .int (nI 0), .int (nI 0), .int (nI 0)]))] : va_W), sbO E y v ml n, baC E v cp t] (fun (u : Nat × (Nat → Nat)) => ∀ j, u.2 j < 128) (fun u => [stO E q u.1, sbO E y v ml n, baC E v cp t, baC E u.1 n u.2]) 1 34 := by
  refine mv_go (by decide) (Nat.le_of_ble_eq_true rfl) ?_
  intro p e s m below meth c A Q ls hx hb hml hown hts hK hZ hA hsz hP hD hl hret hnm
  have hS : va_S A s.heap s.heap [] := va_S.rf
  have hl : lv_has ls 2 [(0, .ref q), (1, .ref (y 0))] := hl
  skip
  refine lv_aload_n hx hb dJ0_init_81219_0 rfl (lv_at hl 0 rfl) ?_
  refine lv_aload_n hx hb dJ0_init_81219_1 rfl (lv_at hl 1 rfl) ?_
  refine lv_null hx hb dJ0_init_81219_2 ?_
  refine run_v (S := Nat × (Nat → Nat)) (run_I (As := [.ref (y 0), .null]) (rest := []) (bs := [([(q, .inr (0, [.null, .int (nI 0), .int (nI 0), .int (nI 0)]))] : va_W), sbO E y v ml n, baC E v cp t]) (cb := [([(q, .inr (0, [.null, .int (nI 0), .int (nI 0), .int (nI 0)]))] : va_W), sbO E y v ml n, baC E v cp t]) hx hb hml hown hts hK hZ hA (c_J0_init_db425 l E _ q y v ml n cp t ht hn h34) l_J0_489 rfl ⟨⟨rfl, rfl⟩, Nat.le_of_ble_eq_true rfl, Nat.le_of_ble_eq_true rfl⟩ [0, 1, 2] rfl (by decide) hP hD hS hl.1 rfl (Nat.le_of_ble_eq_true rfl) dJ0_init_81219_3 ⟨Nat.le_of_ble_eq_true rfl, Nat.le_of_ble_eq_true rfl⟩) hA hP hD hS (isC := [0, 1, 2]) rfl [] [0, 1, 2, 3] (br := []) (bs2 := fun u => [stO E q u.1, sbO E y v ml n, baC E v cp t, baC E u.1 n u.2]) rfl (by decide) (fun _ => rfl) (by decide) (fun ⟨v_1, t_2⟩ H locs hw hP hD hS => ?_)
  have ht_2 : ∀ j, t_2 j < 128 := hw
  have hP : va_P E.1 vwCl ([stO E q v_1, sbO E y v ml n, baC E v cp t, baC E v_1 n t_2] : List va_W).flatten H := hP
  have hD : va_D A ([stO E q v_1, sbO E y v ml n, baC E v cp t, baC E v_1 n t_2] : List va_W).flatten := hD
  exact hret _ _ (v_1, t_2) _ _ hP hD hS ht_2 dJ0_init_81219_6
theorem l_J4_137 : (Cond.methodLink RJ4 137 yJ0_init_81219 ∈ TG ∧ Cond.instanceMethod yJ0_init_81219 ∈ TG ∧ Cond.initialized yJ0_init_81219.cls ∈ TG ∧ Cond.code yJ0_init_81219 cJ0_init_81219 2 none ∈ TG) ∧ yJ0_init_81219.name = "<init>" ∧ (yJ0_init_81219.cls ≠ "java/lang/invoke/MethodHandle" ∧ yJ0_init_81219.cls ≠ "java/lang/invoke/VarHandle" ∧ (parseMethodDescriptor yJ0_init_81219.desc).map (fun d => d.parameters.length) = some 1) := ⟨⟨q860, q861, q30, q862⟩, by decide +kernel⟩
abbrev rm_J4_toString_0e30d : Room := { frames := 5, cells := 2, slots := 38, locals := 211 }
set_option maxHeartbeats 4000000 in
set_option maxRecDepth 100000 in
theorem c_J4_toString_0e30d (l : Launch) (E : EE) (sz : Nat) (y : Nat → Nat) (v ml n cp : Nat) (t : Nat → Nat) (ht : ∀ j, t j < 128) (hn : n ≤ cp) (h34 : cp ≤ 34)  : MQ2 l yJ4_toString_0e30d cJ4_toString_0e30d 1 (.object "java/lang/String") rm_J4_toString_0e30d [.ref (y 0)] E sz [sbO E y v ml n, baC E v cp t] (fun (u : Nat × Nat × (Nat → Nat)) => ∀ j, u.2.2 j < 128) (fun u => u.1) (fun u => [sbO E y v ml n, baC E v cp t, stO E u.1 u.2.1, baC E u.2.1 n u.2.2]) 2 38 := by
  refine mq_go (by decide) (Nat.le_of_ble_eq_true rfl) (Or.inl ⟨_, rfl⟩) ?_
  intro p e s m below meth c A Q ls hx hb hml hown hts hK hZ hA hsz hP hD hl hret
  have hS : va_S A s.heap s.heap [] := va_S.rf
  have hl : lv_has ls 1 [(0, .ref (y 0))] := hl
  skip
  refine va_new (D := E.1) (ci := 0) (C := RJ0) (T := TJ0) (N := 4) hx hb hts inJ0 tyJ0 tyJ0_ok hown (hts _ q859) (hts _ q397) (hts _ q30) hK hP hD hS hA rfl (fs := [.null, .int (nI 0), .int (nI 0), .int (nI 0)]) dfJ0 (Nat.le_of_ble_eq_true rfl) (Nat.le_of_ble_eq_true rfl) dJ4_toString_0e30d_0 (fun q_1 H hP hD hS => ?_)
  rw [flat_app] at hP hD
  have hP : va_P E.1 vwCl ([sbO E y v ml n, baC E v cp t, ([(q_1, .inr (0, [.null, .int (nI 0), .int (nI 0), .int (nI 0)]))] : va_W)] : List va_W).flatten H := hP
  have hD : va_D A ([sbO E y v ml n, baC E v cp t, ([(q_1, .inr (0, [.null, .int (nI 0), .int (nI 0), .int (nI 0)]))] : va_W)] : List va_W).flatten := hD
  refine lv_dup hx hb dJ4_toString_0e30d_3 rfl ?_
  refine lv_aload_n hx hb dJ4_toString_0e30d_4 rfl (lv_at hl 0 rfl) ?_
  refine run_v (S := Nat × (Nat → Nat)) (run_I (As := [.ref (y 0)]) (rest := [.ref q_1]) (bs := [sbO E y v ml n, baC E v cp t, ([(q_1, .inr (0, [.null, .int (nI 0), .int (nI 0), .int (nI 0)]))] : va_W)]) (cb := [([(q_1, .inr (0, [.null, .int (nI 0), .int (nI 0), .int (nI 0)]))] : va_W), sbO E y v ml n, baC E v cp t]) hx hb hml hown hts hK hZ hA (c_J0_init_81219 l E _ q_1 y v ml n cp t ht hn h34) l_J4_137 rfl ⟨⟨rfl, rfl⟩, Nat.le_of_ble_eq_true rfl, Nat.le_of_ble_eq_true rfl⟩ [2, 0, 1] rfl (by decide) hP hD hS hl.1 rfl (Nat.le_of_ble_eq_true rfl) dJ4_toString_0e30d_5 ⟨Nat.le_of_ble_eq_true rfl, Nat.le_of_ble_eq_true rfl⟩) hA hP hD hS (isC := [2, 0, 1]) rfl [] [1, 2, 0, 3] (br := []) (bs2 := fun u => [sbO E y v ml n, baC E v cp t, stO E q_1 u.1, baC E u.1 n u.2]) rfl (by decide) (fun _ => rfl) (by decide) (fun ⟨v_2, t_3⟩ H locs hw hP hD hS => ?_)
  have ht_3 : ∀ j, t_3 j < 128 := hw
  have hP : va_P E.1 vwCl ([sbO E y v ml n, baC E v cp t, stO E q_1 v_2, baC E v_2 n t_3] : List va_W).flatten H := hP
  have hD : va_D A ([sbO E y v ml n, baC E v cp t, stO E q_1 v_2, baC E v_2 n t_3] : List va_W).flatten := hD
  exact hret _ _ (q_1, v_2, t_3) _ _ _ _ hP hD hS ht_3 dJ4_toString_0e30d_8 (by omega) (by omega)
