theorem wJ5i : Cond.initialized RJ5 ∈ TG := q28
theorem wJ4n : Cond.instantiable RJ4 4 ∈ TG := q214
theorem wJ5s : Cond.selects RJ4 yJ5_isLatin1_aae02 yJ5_isLatin1_aae02 ∈ TG := q756
theorem wJ45 : Cond.superclass RJ4 RJ5 ∈ TG := tg_of 244 (by decide +kernel) (by decide +kernel)
/-! calls within StringBuilder: up to its superclass, and of the superclass's private methods -/
theorem sel_priv {y y0 y1 : MethodName} {s : State} {args : Array Value} {C : String} {n : Nat} (hyc : y.cls = y1.cls) (hy : y.cls ≠ "java/lang/invoke/MethodHandle" ∧ y.cls ≠ "java/lang/invoke/VarHandle")
    (hins : (Cond.instantiable C n).before args s = true) (hpriv : (Cond.privateMethod y).before args s = true) (hinst : (Cond.instanceMethod y).before args s = true) (h0 : (Cond.selects C y0 y1).before args s = true) :
    (Cond.selects C y y).before args s = true := by
  obtain ⟨c, k, hc, hk, -, hniab, -, -⟩ := Cond.instantiable_spec hins
  obtain ⟨mk, methM, hnamed, hmethM, -, -⟩ := Cond.instanceMethod_spec hinst
  have hfound : s.methodFound? y.cls y.name y.desc = some mk := State.methodFound?_of_named hnamed hy
  have hsel : selectMethod {} s.vm c mk = .method mk := selectMethod_private hmethM (Cond.privateMethod_at hpriv mk methM hnamed hmethM)
  obtain ⟨c2, r2, m2, q17, q18, q20, q4, kP, hkP, hkPi⟩ := Cond.selects_spec h0
  have e1 := findClass_of_methodNamed hnamed
  have e0 := findClass_of_methodNamed q20
  rw [hyc, e0] at e1
  have e2 : m2.cls = mk.cls := Option.some.inj e1
  rw [e2] at hkP
  simp only [Cond.before, Cond.holds, Cond.value, hc, hfound, hnamed, hsel, hkP]
  simp; exact hkPi
section PSU
variable {p : Program} {l : Launch} {e : Env} {R : Room} {s : State} {m : MethodId} {args : Array Value} {below : List Frame} {meth : Method} {c : Code} {H : Heap} {locs : List Loc} {cells slots : Nat} {Q : State → Prop} {cc : ByteArray} {pc : Nat} {ls : Array Slot} {st rest : List Value} {A : Nat → Prop}
variable {own C : String} {idx n ml nL mc ms bb ci N0 : Nat} {y : MethodName} {b : ByteArray} {rt : Option FieldType} {rm : Room} {As : List Value} {fs : List Value} {T0 : u_T} {E : EE} {bs cb : List va_W} {Qc : Array Value → State → Outcome → State → Prop} {free : Addr → Prop} {isC : List Nat}
/-- a private method of the superclass, upon a StringBuilder -/
theorem run_P (hx : p.tables.exec = Jvm.exec) (hb : c.code = cc) (hml : c.maxLocals = nL) (hown : s.vm.findClass own = some m.cls) (hts : ∀ w ∈ TG, w.before args s = true) (hK : va_K E.1 vwCl (tyl E.2.1) s) (hZ : ZZ E A s s.heap) (hA : ∀ q, s.heap.size ≤ q → A q)
    (hM : Met l y (Wd y b ml rt) rm (va_Pc (.ref bb :: As) (PB E H.size cb)) Qc mc ms free) (w : (Cond.methodLink own idx y ∈ TG ∧ Cond.instanceMethod y ∈ TG ∧ Cond.code y b ml rt ∈ TG) ∧ (y.cls = RJ5 ∧ y.cls ≠ "java/lang/invoke/MethodHandle" ∧ y.cls ≠ "java/lang/invoke/VarHandle" ∧ (parseMethodDescriptor y.desc).map (fun d => d.parameters.length) = some n)) (hse : (Cond.selects RJ4 y y).before args s = true) (hn : As.length = n) (hR : (rm.cells = mc ∧ rm.slots = ms) ∧ (rm.frames + 1 ≤ R.frames ∧ 8 + (ml + 11) + rm.locals ≤ R.locals))
    (isC : List Nat) (hC : isC.map (fun i => bs[i]?) = cb.map some) (hnd : va_nd isC = true) (he : cb.flatten[0]? = some (bb, .inr (1, fs))) (hP : va_P E.1 vwCl bs.flatten H) (hD : va_D A bs.flatten) (hS : va_S A s.heap H locs)
    (hlsz : ls.size = nL) (hst : st = As.reverse ++ .ref bb :: rest) (hcat : (rest.map fun v => v.category).sum ≤ 8) (hdg : decode cc pc = .ok (.invokevirtual idx, 3)) (hf : cells + mc ≤ R.cells ∧ slots + ms ≤ R.slots) :
    va_Run p l e R s m args below meth c H locs cells slots mc ms (F0 m pc ls st) rest (Qc (Value.ref bb :: As).toArray) free := by
  obtain ⟨⟨w1, w2, w5⟩, wc, w6⟩ := w
  have hini : (Cond.initialized y.cls).before args s = true := by rw [wc]; exact hts _ wJ5i
  exact va_runV (C := RJ4) (As := As) (rest := rest) ⟨hx, hb, hml, hown, hts⟩ hM ⟨callB_of n hts (tg_in w5) rfl hR.1.1 hR.1.2 hini (hts _ w1) w6 hR.2, hts _ w2, hse⟩ ⟨PB_blind E H.size cb _, va_recv hK (bk_P hC hP) (show vwCl[1]? = some _ from rfl) he, fun U hU hW => ⟨rfl, pb_of hK hZ hA hS hP hD hC hnd hU hW⟩⟩ rfl hn hlsz hst (lv_room hcat) hdg hf
/-- super.m(..) of StringBuilder -/
theorem run_SU (hx : p.tables.exec = Jvm.exec) (hb : c.code = cc) (hml : c.maxLocals = nL) (hown : s.vm.findClass RJ4 = some m.cls) (hts : ∀ w ∈ TG, w.before args s = true) (hK : va_K E.1 vwCl (tyl E.2.1) s) (hZ : ZZ E A s s.heap) (hA : ∀ q, s.heap.size ≤ q → A q)
    (hM : Met l y (Wd y b ml rt) rm (va_Pc (.ref bb :: As) (PB E H.size cb)) Qc mc ms free) (w : (Cond.methodLink RJ4 idx y ∈ TG ∧ Cond.instanceMethod y ∈ TG ∧ Cond.sameMethod y.cls y.cls y.name y.desc ∈ TG ∧ Cond.code y b ml rt ∈ TG) ∧ (y.cls = RJ5 ∧ y.name ≠ "<init>" ∧ (parseMethodDescriptor y.desc).map (fun d => d.parameters.length) = some n)) (hn : As.length = n) (hR : (rm.cells = mc ∧ rm.slots = ms) ∧ (rm.frames + 1 ≤ R.frames ∧ 8 + (ml + 11) + rm.locals ≤ R.locals))
    (isC : List Nat) (hC : isC.map (fun i => bs[i]?) = cb.map some) (hnd : va_nd isC = true) (he : cb.flatten[0]? = some (bb, .inr (1, fs))) (hP : va_P E.1 vwCl bs.flatten H) (hD : va_D A bs.flatten) (hS : va_S A s.heap H locs)
    (hlsz : ls.size = nL) (hst : st = As.reverse ++ .ref bb :: rest) (hcat : (rest.map fun v => v.category).sum ≤ 8) (hdg : decode cc pc = .ok (.invokespecial idx, 3)) (hf : cells + mc ≤ R.cells ∧ slots + ms ≤ R.slots) :
    va_Run p l e R s m args below meth c H locs cells slots mc ms (F0 m pc ls st) rest (Qc (Value.ref bb :: As).toArray) free := by
  obtain ⟨⟨w1, w2, w3, w5⟩, wc, w6⟩ := w
  have hGd : GoodIn TG (va_wsSU RJ4 idx y (Wd y b ml rt)) := by
    intro w hw
    unfold va_wsSU at hw
    rcases List.mem_append.mp hw with hw | hw
    · simp only [List.mem_cons, List.not_mem_nil, or_false] at hw
      rcases hw with rfl | rfl | rfl | rfl | rfl
      · exact ⟨w1, tg_good w1⟩
      · exact ⟨w3, tg_good w3⟩
      · rw [wc]; exact ⟨wJ45, tg_good wJ45⟩
      · exact ⟨w2, tg_good w2⟩
      · rw [wc]; exact ⟨wJ5i, tg_good wJ5i⟩
    · exact tg_in w5 w hw
  exact va_runSU (C := RJ4) (As := As) (rest := rest) ((hK.1 1 _ rfl).2) ⟨hx, hb, hml, hown, hts⟩ hM (va_cwSU n hts hGd rfl hR.1.1 hR.1.2 w6 hR.2) ⟨PB_blind E H.size cb _, va_recv hK (bk_P hC hP) (show vwCl[1]? = some _ from rfl) he, fun U hU hW => ⟨rfl, pb_of hK hZ hA hS hP hD hC hnd hU hW⟩⟩ rfl hn hlsz hst (lv_room hcat) hdg hf
/-- a private method of the superclass, upon a StringBuilder -/
theorem run_Px (hx : p.tables.exec = Jvm.exec) (hb : c.code = cc) (hml : c.maxLocals = nL) (hown : s.vm.findClass own = some m.cls) (hts : ∀ w ∈ TG, w.before args s = true) (hK : va_K E.1 vwCl (tyl E.2.1) s) (hZ : ZZ E A s s.heap) (hDD : DD s) (hA : ∀ q, s.heap.size ≤ q → A q)
    (hM : Met l y (Wd y b ml rt) rm (va_Pc (.ref bb :: As) (PX E H.size cb)) Qc mc ms free) (w : (Cond.methodLink own idx y ∈ TG ∧ Cond.instanceMethod y ∈ TG ∧ Cond.code y b ml rt ∈ TG) ∧ (y.cls = RJ5 ∧ y.cls ≠ "java/lang/invoke/MethodHandle" ∧ y.cls ≠ "java/lang/invoke/VarHandle" ∧ (parseMethodDescriptor y.desc).map (fun d => d.parameters.length) = some n)) (hse : (Cond.selects RJ4 y y).before args s = true) (hn : As.length = n) (hR : (rm.cells = mc ∧ rm.slots = ms) ∧ (rm.frames + 1 ≤ R.frames ∧ 8 + (ml + 11) + rm.locals ≤ R.locals))
    (isC : List Nat) (hC : isC.map (fun i => bs[i]?) = cb.map some) (hnd : va_nd isC = true) (he : cb.flatten[0]? = some (bb, .inr (1, fs))) (hP : va_P E.1 vwCl bs.flatten H) (hD : va_D A bs.flatten) (hS : va_S A s.heap H locs)
    (hlsz : ls.size = nL) (hst : st = As.reverse ++ .ref bb :: rest) (hcat : (rest.map fun v => v.category).sum ≤ 8) (hdg : decode cc pc = .ok (.invokevirtual idx, 3)) (hf : cells + mc ≤ R.cells ∧ slots + ms ≤ R.slots) :
    va_Run p l e R s m args below meth c H locs cells slots mc ms (F0 m pc ls st) rest (Qc (Value.ref bb :: As).toArray) free := by
  obtain ⟨⟨w1, w2, w5⟩, wc, w6⟩ := w
  have hini : (Cond.initialized y.cls).before args s = true := by rw [wc]; exact hts _ wJ5i
  exact va_runV (C := RJ4) (As := As) (rest := rest) ⟨hx, hb, hml, hown, hts⟩ hM ⟨callB_of n hts (tg_in w5) rfl hR.1.1 hR.1.2 hini (hts _ w1) w6 hR.2, hts _ w2, hse⟩ ⟨PX_blind E H.size cb _, va_recv hK (bk_P hC hP) (show vwCl[1]? = some _ from rfl) he, fun U hU hW => ⟨rfl, pb_of hK hZ hA hS hP hD hC hnd hU hW, DD.warm hW hDD⟩⟩ rfl hn hlsz hst (lv_room hcat) hdg hf
/-- super.m(..) of StringBuilder -/
theorem run_SUx (hx : p.tables.exec = Jvm.exec) (hb : c.code = cc) (hml : c.maxLocals = nL) (hown : s.vm.findClass RJ4 = some m.cls) (hts : ∀ w ∈ TG, w.before args s = true) (hK : va_K E.1 vwCl (tyl E.2.1) s) (hZ : ZZ E A s s.heap) (hDD : DD s) (hA : ∀ q, s.heap.size ≤ q → A q)
    (hM : Met l y (Wd y b ml rt) rm (va_Pc (.ref bb :: As) (PX E H.size cb)) Qc mc ms free) (w : (Cond.methodLink RJ4 idx y ∈ TG ∧ Cond.instanceMethod y ∈ TG ∧ Cond.sameMethod y.cls y.cls y.name y.desc ∈ TG ∧ Cond.code y b ml rt ∈ TG) ∧ (y.cls = RJ5 ∧ y.name ≠ "<init>" ∧ (parseMethodDescriptor y.desc).map (fun d => d.parameters.length) = some n)) (hn : As.length = n) (hR : (rm.cells = mc ∧ rm.slots = ms) ∧ (rm.frames + 1 ≤ R.frames ∧ 8 + (ml + 11) + rm.locals ≤ R.locals))
    (isC : List Nat) (hC : isC.map (fun i => bs[i]?) = cb.map some) (hnd : va_nd isC = true) (he : cb.flatten[0]? = some (bb, .inr (1, fs))) (hP : va_P E.1 vwCl bs.flatten H) (hD : va_D A bs.flatten) (hS : va_S A s.heap H locs)
    (hlsz : ls.size = nL) (hst : st = As.reverse ++ .ref bb :: rest) (hcat : (rest.map fun v => v.category).sum ≤ 8) (hdg : decode cc pc = .ok (.invokespecial idx, 3)) (hf : cells + mc ≤ R.cells ∧ slots + ms ≤ R.slots) :
    va_Run p l e R s m args below meth c H locs cells slots mc ms (F0 m pc ls st) rest (Qc (Value.ref bb :: As).toArray) free := by
  obtain ⟨⟨w1, w2, w3, w5⟩, wc, w6⟩ := w
  have hGd : GoodIn TG (va_wsSU RJ4 idx y (Wd y b ml rt)) := by
    intro w hw
    unfold va_wsSU at hw
    rcases List.mem_append.mp hw with hw | hw
    · simp only [List.mem_cons, List.not_mem_nil, or_false] at hw
      rcases hw with rfl | rfl | rfl | rfl | rfl
      · exact ⟨w1, tg_good w1⟩
      · exact ⟨w3, tg_good w3⟩
      · rw [wc]; exact ⟨wJ45, tg_good wJ45⟩
      · exact ⟨w2, tg_good w2⟩
      · rw [wc]; exact ⟨wJ5i, tg_good wJ5i⟩
    · exact tg_in w5 w hw
  exact va_runSU (C := RJ4) (As := As) (rest := rest) ((hK.1 1 _ rfl).2) ⟨hx, hb, hml, hown, hts⟩ hM (va_cwSU n hts hGd rfl hR.1.1 hR.1.2 w6 hR.2) ⟨PX_blind E H.size cb _, va_recv hK (bk_P hC hP) (show vwCl[1]? = some _ from rfl) he, fun U hU hW => ⟨rfl, pb_of hK hZ hA hS hP hD hC hnd hU hW, DD.warm hW hDD⟩⟩ rfl hn hlsz hst (lv_room hcat) hdg hf
theorem run_Vx (hx : p.tables.exec = Jvm.exec) (hb : c.code = cc) (hml : c.maxLocals = nL) (hown : s.vm.findClass own = some m.cls) (hts : ∀ w ∈ TG, w.before args s = true) (hK : va_K E.1 vwCl (tyl E.2.1) s) (hZ : ZZ E A s s.heap) (hDD : DD s) (hA : ∀ q, s.heap.size ≤ q → A q)
    (hM : Met l y (Wd y b ml rt) rm (va_Pc (.ref bb :: As) (PX E H.size cb)) Qc mc ms free) (w : CWV own idx C y b ml rt n) (hn : As.length = n) (hR : (rm.cells = mc ∧ rm.slots = ms) ∧ (rm.frames + 1 ≤ R.frames ∧ 8 + (ml + 11) + rm.locals ≤ R.locals))
    (ci : Nat) (hc : vwCl[ci]? = some (C, T0, N0)) (isC : List Nat) (hC : isC.map (fun i => bs[i]?) = cb.map some) (hnd : va_nd isC = true) (he : cb.flatten[0]? = some (bb, .inr (ci, fs))) (hP : va_P E.1 vwCl bs.flatten H) (hD : va_D A bs.flatten) (hS : va_S A s.heap H locs)
    (hlsz : ls.size = nL) (hst : st = As.reverse ++ .ref bb :: rest) (hcat : (rest.map fun v => v.category).sum ≤ 8) (hdg : decode cc pc = .ok (.invokevirtual idx, 3)) (hf : cells + mc ≤ R.cells ∧ slots + ms ≤ R.slots) :
    va_Run p l e R s m args below meth c H locs cells slots mc ms (F0 m pc ls st) rest (Qc (Value.ref bb :: As).toArray) free := by
  obtain ⟨⟨w1, w2, w3, w4, w5⟩, w6⟩ := w
  refine va_runV (As := As) (rest := rest) ⟨hx, hb, hml, hown, hts⟩ hM (cwV n hts (fun w hw => ?_) rfl hR.1.1 hR.1.2 w6 hR.2) ⟨PX_blind E H.size cb _, va_recv hK (bk_P hC hP) hc he, fun U hU hW => ⟨rfl, pb_of hK hZ hA hS hP hD hC hnd hU hW, DD.warm hW hDD⟩⟩ rfl hn hlsz hst (lv_room hcat) hdg hf
  rcases List.mem_append.mp hw with hw | hw
  · simp only [List.mem_cons, List.not_mem_nil, or_false] at hw
    rcases hw with rfl | rfl | rfl | rfl
    · exact ⟨w1, tg_good w1⟩
    · exact ⟨w2, tg_good w2⟩
    · exact ⟨w3, tg_good w3⟩
    · exact ⟨w4, tg_good w4⟩
  · exact tg_in w5 w hw
end PSU
