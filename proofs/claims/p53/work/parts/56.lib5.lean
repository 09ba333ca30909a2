/-! methods that may throw -/
def NM9 : List String := ["java/lang/RuntimeException", "java/lang/Exception"]
def DXN : List String := ["java/lang/RuntimeException", "java/lang/Exception", "java/lang/Throwable"]
def xs9 : List (String × Nat × Nat) := [("java/lang/IllegalArgumentException", 181, 185), ("java/lang/IndexOutOfBoundsException", 242, 246), ("java/lang/ArithmeticException", 250, 252), ("java/lang/IllegalStateException", 263, 267), ("java/lang/UnsupportedOperationException", 286, 290)]
/-- the constructors that the tables declare -/
def SSL : List MethodName := [yJ5_ensureCapacityInternal_d00df, yJ5_newCapacity_0f7a4, yJ5_putStringAt_47b60, yJ5_inflateIfNeededFor_a7421]
def DD (U : State) : Prop := (∀ X ∈ DXN, va_Nw (.declares (Bundle.initS X)) U) ∧ (∀ y ∈ SSL, (Cond.selects RJ4 y y).before #[] U = true) ∧ va_AO "CricketCooperative$State" U
theorem DD.warm {s U : State} (hW : s.WarmedH U.vm) (h : DD s) : DD U := ⟨fun X hX => (h.1 X hX).warmD hW, fun y hy => word_at hW (Or.inl rfl) (h.2.1 y hy), va_AO.moved hW.alike h.2.2⟩
theorem DD.sel {s : State} {args : Array Value} (h : DD s) {y : MethodName} (hy : y ∈ SSL) : (Cond.selects RJ4 y y).before args s = true := word_at (State.WarmedH.refl s) (Or.inl rfl) (h.2.1 y hy)
theorem xs9_w : ∀ x ∈ xs9, ∀ w ∈ Cond.classLink RX5 x.2.1 x.1 :: Cond.initialized x.1 :: vx_atS RX5 x.2.2 x.1 NM9, w ∈ TG ∨ w = .castable x.1 x.1 ∨ ∃ Y ∈ DXN, w = .declares (Bundle.initS Y) := by decide +kernel
theorem xs9_o : ∀ x ∈ xs9, ∀ w ∈ Cond.classLink RX5 x.2.1 x.1 :: Cond.initialized x.1 :: vx_atS RX5 x.2.2 x.1 NM9, vx_ot w = true := by decide +kernel
theorem xs9_f : ∀ x ∈ xs9, Bundle.fit x.1 = true ∧ (x.1, x.1) ∈ CBW := by decide +kernel
theorem nse9_w : ∀ w ∈ Cond.classLink RX5 152 NSE :: Cond.initialized NSE :: (LN9 RX5 156).filter vx_no, w ∈ TG ∨ ∃ Y ∈ DXN, w = .declares (Bundle.initS Y) := by decide +kernel
theorem nse9_o : ∀ w ∈ Cond.classLink RX5 152 NSE :: Cond.initialized NSE :: (LN9 RX5 156).filter vx_no, vx_ot w = true := by decide +kernel
theorem nm9_f : ∀ n ∈ NM9, Bundle.fit n = true := by decide +kernel
/-- a method's start, where it may throw -/
def PX (E : EE) (sz : Nat) (bs : List va_W) (U : State) : Prop := PB E sz bs U ∧ DD U
theorem PX_blind (E : EE) (sz : Nat) (bs : List va_W) (av : List Value) : FrameBlind (va_Pc av (PX E sz bs)) := fun a U g mk q => by
  obtain ⟨q16, q17, q18⟩ := q
  exact ⟨q16, (PB_blind E sz bs av a U g mk ⟨q16, q17⟩).2, DD.warm (s := U) (U := U.calling g mk a) (State.WarmedH.refl U) q18⟩
abbrev XC9 (E : EE) (sz : Nat) (bs : List va_W) {SX : Type} (px : String → SX → Prop) (bx : SX → List va_W) : String → State → State → Prop := vx_X (fun _ : SX => True) (fun Ex u t => px Ex u ∧ QB E (va_A bs.flatten sz) (bx u) t) (va_A bs.flatten sz)
abbrev XI (l : Launch) (y : MethodName) (b : ByteArray) (ml : Nat) (rt : FieldType) (rm : Room) (Args : List Value) (E : EE) (sz : Nat) (bs : List va_W) {S SX : Type} (post : Int32 → S → Prop) (bs' : S → List va_W) (px : String → SX → Prop) (bx : SX → List va_W) (mc ms : Nat) : Prop :=
  vx_Met l y (Wd y b ml (some rt)) rm (va_Pc Args (PX E sz bs)) (va_Qi post (fun u t => QB E (va_A bs.flatten sz) (bs' u) t) (va_A bs.flatten sz)) (XC9 E sz bs px bx) mc ms (va_A bs.flatten sz)
abbrev XL (l : Launch) (y : MethodName) (b : ByteArray) (ml : Nat) (rm : Room) (Args : List Value) (E : EE) (sz : Nat) (bs : List va_W) {S SX : Type} (post : Int64 → S → Prop) (bs' : S → List va_W) (px : String → SX → Prop) (bx : SX → List va_W) (mc ms : Nat) : Prop :=
  vx_Met l y (Wd y b ml (some .long)) rm (va_Pc Args (PX E sz bs)) (va_Ql post (fun u t => QB E (va_A bs.flatten sz) (bs' u) t) (va_A bs.flatten sz)) (XC9 E sz bs px bx) mc ms (va_A bs.flatten sz)
abbrev XD (l : Launch) (y : MethodName) (b : ByteArray) (ml : Nat) (rm : Room) (Args : List Value) (E : EE) (sz : Nat) (bs : List va_W) {S SX : Type} (post : UInt64 → S → Prop) (bs' : S → List va_W) (px : String → SX → Prop) (bx : SX → List va_W) (mc ms : Nat) : Prop :=
  vx_Met l y (Wd y b ml (some .double)) rm (va_Pc Args (PX E sz bs)) (va_Qd post (fun u t => QB E (va_A bs.flatten sz) (bs' u) t) (va_A bs.flatten sz)) (XC9 E sz bs px bx) mc ms (va_A bs.flatten sz)
abbrev XF (l : Launch) (y : MethodName) (b : ByteArray) (ml : Nat) (rm : Room) (Args : List Value) (E : EE) (sz : Nat) (bs : List va_W) {S SX : Type} (post : UInt32 → S → Prop) (bs' : S → List va_W) (px : String → SX → Prop) (bx : SX → List va_W) (mc ms : Nat) : Prop :=
  vx_Met l y (Wd y b ml (some .float)) rm (va_Pc Args (PX E sz bs)) (va_Qf post (fun u t => QB E (va_A bs.flatten sz) (bs' u) t) (va_A bs.flatten sz)) (XC9 E sz bs px bx) mc ms (va_A bs.flatten sz)
abbrev XV (l : Launch) (y : MethodName) (b : ByteArray) (ml : Nat) (rm : Room) (Args : List Value) (E : EE) (sz : Nat) (bs : List va_W) {S SX : Type} (post : S → Prop) (bs' : S → List va_W) (px : String → SX → Prop) (bx : SX → List va_W) (mc ms : Nat) : Prop :=
  vx_Met l y (Wd y b ml none) rm (va_Pc Args (PX E sz bs)) (va_Qv post (fun u t => QB E (va_A bs.flatten sz) (bs' u) t) (va_A bs.flatten sz)) (XC9 E sz bs px bx) mc ms (va_A bs.flatten sz)
section XG
variable {p : Program} {l : Launch} {e : Env} {R : Room} {s : State} {m : MethodId} {args : Array Value} {below : List Frame} {meth : Method} {c : Code} {H : Heap} {locs : List Loc} {cells slots : Nat} {Q : State → Prop} {A : Nat → Prop}
theorem W_widen {g : JFrame} {k n : Nat} (h1 : cells ≤ k) (h2 : slots ≤ n) (kk : W p l e R s m args below meth c H locs k n Q g) : W p l e R s m args below meth c H locs cells slots Q g := fun T hT X => kk T hT (stand_widen X h1 h2)
/-- an exception goes on to the caller -/
def PrK (p : Program) (l : Launch) (e : Env) (R : Room) (s : State) (m : MethodId) (args : Array Value) (below : List Frame) (meth : Method) (c : Code) (E : EE) (A : Nat → Prop) (Q : State → Prop) {SX : Type} (px : String → SX → Prop) (bx : SX → List va_W) (mc ms : Nat) : Prop :=
  ∀ (Ex : String) (ce : Cell) (q : Addr) (u : SX) (H : Heap) (locs : List Loc) (pc : Nat) (ls : Array Slot) (rest : List Value) (cells slots : Nat), px Ex u → va_P E.1 vwCl (bx u).flatten H → va_D A (bx u).flatten → va_S A s.heap H locs → H[q]? = some ce → ce.vm = .none → s.vm.findClass Ex = some ce.cls → cells ≤ mc → slots ≤ ms → vx_W p l e R s m args below meth c H locs cells slots Q (F0 m pc ls rest) q
/-- throw new X("text") -/
def ThK (p : Program) (l : Launch) (e : Env) (R : Room) (s : State) (m : MethodId) (args : Array Value) (below : List Frame) (meth : Method) (c : Code) (E : EE) (A : Nat → Prop) (Q : State → Prop) (cc : ByteArray) (ml : Nat) {SX : Type} (px : String → SX → Prop) (bx : SX → List va_W) (mc ms : Nat) : Prop :=
  ∀ (x : String × Nat × Nat) (i : Nat) (q : String × Nat × String) (u : SX) (H : Heap) (locs : List Loc) (pc : Nat) (ls : Array Slot) (rest : List Value) (cells slots : Nat), x ∈ (NSE, 152, 156) :: xs9 → sRef[i]? = some q → q.1 = RX5 → px x.1 u → va_P E.1 vwCl (bx u).flatten H → va_D A (bx u).flatten → va_S A s.heap H locs → ls.size = ml →
    decode cc pc = .ok (.new x.2.1, 3) → decode cc (pc + 3) = .ok (.dup, 1) → (decode cc (pc + 4) = .ok (.ldc q.2.1, 2) ∧ decode cc (pc + 6) = .ok (.invokespecial x.2.2, 3) ∧ decode cc (pc + 9) = .ok (.athrow, 1) ∨ decode cc (pc + 4) = .ok (.ldc_w q.2.1, 3) ∧ decode cc (pc + 7) = .ok (.invokespecial x.2.2, 3) ∧ decode cc (pc + 10) = .ok (.athrow, 1)) →
    6 ≤ R.frames → (rest.map fun v => v.category).sum + 82 ≤ R.locals → cells + 1 ≤ R.cells → slots + 6 ≤ R.slots → cells + 1 ≤ mc → slots + 6 ≤ ms → W p l e R s m args below meth c H locs cells slots Q (F0 m pc ls rest)
theorem thr_of {cc : ByteArray} {ml mc ms sz : Nat} {E : EE} {bs : List va_W} {SX : Type} {px : String → SX → Prop} {bx : SX → List va_W} {Qc : Array Value → State → Outcome → State → Prop} (hst : l.stackTraces = false) (hx : p.tables.exec = Jvm.exec) (hb : c.code = cc) (hml : c.maxLocals = ml) (hown : s.vm.findClass RX5 = some m.cls) (hts : ∀ w ∈ TG, w.before args s = true) (hK : va_K E.1 vwCl (tyl E.2.1) s) (hZ : ZZ E (va_A bs.flatten sz) s s.heap) (hDD : DD s) (hA : ∀ q, s.heap.size ≤ q → (va_A bs.flatten sz) q)
    (hout : ∀ x ∈ c.exceptionTable.toList, False) (hlocks : meth.locks = false) : ThK p l e R s m args below meth c E (va_A bs.flatten sz) (vx_MQ below Qc (XC9 E sz bs px bx) args s mc ms (va_A bs.flatten sz)) cc ml px bx mc ms := by
  intro x i q u H locs pc ls rest cells slots hx9 hi hq hpx hP hD hS hls d0 d3 dd hRf hRl hRc hRs hc hs
  have hstr := (hZ.2.2.2.2.1 i q hi).2
  rw [hq] at hstr
  rcases List.mem_cons.mp hx9 with e9 | hx9
  · subst e9
    have hw : ∀ w ∈ Cond.classLink RX5 152 NSE :: Cond.initialized NSE :: (LN9 RX5 156).filter vx_no, w.before args s = true := by
      intro w hw
      rcases nse9_w w hw with h | ⟨Y, hY, h⟩
      · exact hts w h
      · rw [h]; exact va_Nw.use rfl (hDD.1 Y hY)
    have go : ∀ dw : Bool, decode cc (pc + 4) = .ok (if dw then .ldc_w q.2.1 else .ldc q.2.1, if dw then 3 else 2) → decode cc (pc + (if dw then 7 else 6)) = .ok (.invokespecial 156, 3) → decode cc (pc + (if dw then 10 else 9)) = .ok (.athrow, 1) → W p l e R s m args below meth c H locs cells slots (vx_MQ below Qc (XC9 E sz bs px bx) args s mc ms (va_A bs.flatten sz)) (F0 m pc ls rest) := by
      intro dw d4 d6 d9
      refine xn_make hx hb hst hown (hw _ List.mem_cons_self) (hw _ (List.mem_cons_of_mem _ List.mem_cons_self)) hstr (fun w h => hw w (List.mem_cons_of_mem _ (List.mem_cons_of_mem _ h))) nse9_o hZ.1.1 hZ.1.2 hS (hls.trans hml.symm) d0 d3 dw d4 d6 hA (by omega) (by omega) hRc hRs ?_
      intro a ce H1 hz hk h1 h2 h3 hS1
      refine vx_athrow hx hb d9 ?_
      exact vx_out (fun z hz => (hout z hz).elim) hlocks h1 h2 h3 (fun t ht hal => ⟨u, trivial, ⟨hpx, by rw [ht]; exact hP.kept (fun k z hz9 => hk z.1 ((hP k z hz9).lt)), va_K.moved hal hK, hD⟩, hS1.F ht⟩) (fun z hz => hS1.2.2 z hz) hc hs
    rcases dd with ⟨d4, d6, d9⟩ | ⟨d4, d7, d10⟩
    · exact go false d4 d6 d9
    · exact go true d4 d7 d10
  have hw : ∀ w ∈ Cond.classLink RX5 x.2.1 x.1 :: Cond.initialized x.1 :: vx_atS RX5 x.2.2 x.1 NM9, w.before args s = true := by
    intro w hw
    rcases xs9_w x hx9 w hw with h | h | ⟨Y, hY, h⟩
    · exact hts w h
    · rw [h]; exact va_Nw.use rfl (hZ.2.2.1 _ (xs9_f x hx9).2)
    · rw [h]; exact va_Nw.use rfl (hDD.1 Y hY)
  have hxx : ∀ t : State, s.vm.Alike t.vm → H.size ≤ t.heap.size → (∀ a : Nat, a < H.size → t.heap[a]? = H[a]?) → XC9 E sz bs px bx x.1 s t := fun t hal hz hk =>
    ⟨u, trivial, ⟨hpx, hP.kept (fun k z hz9 => hk z.1 ((hP k z hz9).lt)), va_K.moved hal hK, hD⟩, Nat.le_trans hS.1 hz, fun a ha hA => (hk a (Nat.lt_of_lt_of_le ha hS.1)).trans (hS.2.1 a ha hA)⟩
  rcases dd with ⟨d4, d6, d9⟩ | ⟨d4, d7, d10⟩
  · exact vx_throwS hx hb hst hown (xs9_f x hx9).1 nm9_f (hw _ List.mem_cons_self) (hw _ (List.mem_cons_of_mem _ List.mem_cons_self)) hstr (fun w h => hw w (List.mem_cons_of_mem _ (List.mem_cons_of_mem _ h))) (xs9_o x hx9) hZ.1.1 hZ.1.2 hS (hls.trans hml.symm) d0 d3 d4 d6 d9 (fun z hz => (hout z hz).elim) (by show 2 + 3 < R.frames; omega) (by show _ + (13 * (2 + 1) + 43) ≤ R.locals; omega) hRc hRs hlocks hxx (fun z hz => hS.2.2 z hz) hc hs
  · exact vx_throwSW hx hb hst hown (xs9_f x hx9).1 nm9_f (hw _ List.mem_cons_self) (hw _ (List.mem_cons_of_mem _ List.mem_cons_self)) hstr (fun w h => hw w (List.mem_cons_of_mem _ (List.mem_cons_of_mem _ h))) (xs9_o x hx9) hZ.1.1 hZ.1.2 hS (hls.trans hml.symm) d0 d3 d4 d7 d10 (fun z hz => (hout z hz).elim) (by show 2 + 3 < R.frames; omega) (by show _ + (13 * (2 + 1) + 43) ≤ R.locals; omega) hRc hRs hlocks hxx (fun z hz => hS.2.2 z hz) hc hs
theorem prop_of {mc ms sz : Nat} {E : EE} {bs : List va_W} {SX : Type} {px : String → SX → Prop} {bx : SX → List va_W} {Qc : Array Value → State → Outcome → State → Prop} (hK : va_K E.1 vwCl (tyl E.2.1) s) (hout : ∀ x ∈ c.exceptionTable.toList, False) (hlocks : meth.locks = false) : PrK p l e R s m args below meth c E (va_A bs.flatten sz) (vx_MQ below Qc (XC9 E sz bs px bx) args s mc ms (va_A bs.flatten sz)) px bx mc ms := by
  intro Ex ce q u H locs pc ls rest cells slots hpx hP hD hS h1 h2 h3 hc hs
  exact vx_out (fun z hz => (hout z hz).elim) hlocks h1 h2 h3 (fun t ht hal => ⟨u, trivial, ⟨hpx, by rw [ht]; exact hP, va_K.moved hal hK, hD⟩, hS.F ht⟩) (fun z hz => hS.2.2 z hz) hc hs
end XG
section XGO
variable {l : Launch} {y : MethodName} {cc : ByteArray} {ml : Nat} {rt : FieldType} {rm : Room} {Args : List Value} {E : EE} {sz : Nat} {bs : List va_W} {S SX : Type} {bs' : S → List va_W} {px : String → SX → Prop} {bx : SX → List va_W} {mc ms : Nat}
theorem xi_go {post : Int32 → S → Prop} (hst : l.stackTraces = false) (hy : plainName y.cls = true) (hyc : y.cls = RX5) (hlen : (lg_sl Args).length ≤ ml)
    (body : ∀ (p : Program) (e : Env) (s : State) (m : MethodId) (below : List Frame) (meth : Method) (c : Code) (A : Nat → Prop) (Q : State → Prop) (ls : Array Slot), p.tables.exec = Jvm.exec → c.code = cc → c.maxLocals = ml → s.vm.findClass y.cls = some m.cls → (∀ w ∈ TG, w.before Args.toArray s = true) → va_K E.1 vwCl (tyl E.2.1) s → ZZ E A s s.heap → DD s → (∀ q, s.heap.size ≤ q → A q) → s.heap.size = sz → va_P E.1 vwCl bs.flatten s.heap → va_D A bs.flatten → lv_has ls ml (lv_args 0 Args) →
      (∀ (H : Heap) (locs : List Loc) (v : Int32) (u : S) (pc : Nat) (ls : Array Slot) (cells slots : Nat), va_P E.1 vwCl (bs' u).flatten H → va_D A (bs' u).flatten → va_S A s.heap H locs → narrow rt (.int v) = .int v → post v u → decode cc pc = .ok (.ireturn, 1) → cells ≤ mc → slots ≤ ms → W p l e rm s m Args.toArray below meth c H locs cells slots Q (F0 m pc ls [.int v])) →
      PrK p l e rm s m Args.toArray below meth c E A Q px bx mc ms → ThK p l e rm s m Args.toArray below meth c E A Q cc ml px bx mc ms →
      W p l e rm s m Args.toArray below meth c s.heap [] 0 0 Q (F0 m 0 ls [])) : XI l y cc ml rt rm Args E sz bs post bs' px bx mc ms := by
  refine vx_ofW (cc := cc) (maxL := ml) (ret := some rt) hy rfl ?_
  intro p e s m args below meth c s₁ B hml ht9 hv
  obtain ⟨rfl, ⟨hsz, hP, hK, hD0, hZ⟩, hDD⟩ := hv
  rw [lg_entry_eq]
  have hown := findClass_of_methodNamed B.named
  have hts : ∀ w ∈ TG, w.before Args.toArray s = true := fun w hw => atoms_spec B.pre w (List.mem_cons_of_mem _ hw)
  refine body p e s m below meth c (va_A bs.flatten sz) _ _ B.exec B.bytes hml hown hts hK hZ hDD (fun q hq => Or.inr (by rw [← hsz]; exact hq)) hsz hP hD0.self (lv_entry Args hlen) ?_ (prop_of hK ht9 B.notSynchronized) (thr_of hst B.exec B.bytes hml (by rw [← hyc]; exact hown) hts hK hZ hDD (fun q hq => Or.inr (by rw [← hsz]; exact hq)) ht9 B.notSynchronized)
  intro H locs v u pc ls cells slots hP' hD' hS' hn hpost hdg hc hs
  exact W_widen hc hs (vx_ret (W.zret B.exec B.bytes B.returns hn (fun t ht hW => ⟨⟨v, u, rfl, hpost, by rw [ht]; exact hP', va_K.moved hW.alike hK, hD'⟩, hS'.F ht⟩) hS'.2.2 hdg B.notSynchronized))
theorem xl_go {post : Int64 → S → Prop} (hst : l.stackTraces = false) (hy : plainName y.cls = true) (hyc : y.cls = RX5) (hlen : (lg_sl Args).length ≤ ml)
    (body : ∀ (p : Program) (e : Env) (s : State) (m : MethodId) (below : List Frame) (meth : Method) (c : Code) (A : Nat → Prop) (Q : State → Prop) (ls : Array Slot), p.tables.exec = Jvm.exec → c.code = cc → c.maxLocals = ml → s.vm.findClass y.cls = some m.cls → (∀ w ∈ TG, w.before Args.toArray s = true) → va_K E.1 vwCl (tyl E.2.1) s → ZZ E A s s.heap → DD s → (∀ q, s.heap.size ≤ q → A q) → s.heap.size = sz → va_P E.1 vwCl bs.flatten s.heap → va_D A bs.flatten → lv_has ls ml (lv_args 0 Args) →
      (∀ (H : Heap) (locs : List Loc) (v : Int64) (u : S) (pc : Nat) (ls : Array Slot) (cells slots : Nat), va_P E.1 vwCl (bs' u).flatten H → va_D A (bs' u).flatten → va_S A s.heap H locs → post v u → decode cc pc = .ok (.lreturn, 1) → cells ≤ mc → slots ≤ ms → W p l e rm s m Args.toArray below meth c H locs cells slots Q (F0 m pc ls [.long v])) →
      PrK p l e rm s m Args.toArray below meth c E A Q px bx mc ms → ThK p l e rm s m Args.toArray below meth c E A Q cc ml px bx mc ms →
      W p l e rm s m Args.toArray below meth c s.heap [] 0 0 Q (F0 m 0 ls [])) : XL l y cc ml rm Args E sz bs post bs' px bx mc ms := by
  refine vx_ofW (cc := cc) (maxL := ml) (ret := some .long) hy rfl ?_
  intro p e s m args below meth c s₁ B hml ht9 hv
  obtain ⟨rfl, ⟨hsz, hP, hK, hD0, hZ⟩, hDD⟩ := hv
  rw [lg_entry_eq]
  have hown := findClass_of_methodNamed B.named
  have hts : ∀ w ∈ TG, w.before Args.toArray s = true := fun w hw => atoms_spec B.pre w (List.mem_cons_of_mem _ hw)
  refine body p e s m below meth c (va_A bs.flatten sz) _ _ B.exec B.bytes hml hown hts hK hZ hDD (fun q hq => Or.inr (by rw [← hsz]; exact hq)) hsz hP hD0.self (lv_entry Args hlen) ?_ (prop_of hK ht9 B.notSynchronized) (thr_of hst B.exec B.bytes hml (by rw [← hyc]; exact hown) hts hK hZ hDD (fun q hq => Or.inr (by rw [← hsz]; exact hq)) ht9 B.notSynchronized)
  intro H locs v u pc ls cells slots hP' hD' hS' hpost hdg hc hs
  exact W_widen hc hs (vx_ret (W.lret B.exec B.bytes B.returns (fun t ht hW => ⟨⟨v, u, rfl, hpost, by rw [ht]; exact hP', va_K.moved hW.alike hK, hD'⟩, hS'.F ht⟩) hS'.2.2 hdg B.notSynchronized))
theorem xd_go {post : UInt64 → S → Prop} (hst : l.stackTraces = false) (hy : plainName y.cls = true) (hyc : y.cls = RX5) (hlen : (lg_sl Args).length ≤ ml)
    (body : ∀ (p : Program) (e : Env) (s : State) (m : MethodId) (below : List Frame) (meth : Method) (c : Code) (A : Nat → Prop) (Q : State → Prop) (ls : Array Slot), p.tables.exec = Jvm.exec → c.code = cc → c.maxLocals = ml → s.vm.findClass y.cls = some m.cls → (∀ w ∈ TG, w.before Args.toArray s = true) → va_K E.1 vwCl (tyl E.2.1) s → ZZ E A s s.heap → DD s → (∀ q, s.heap.size ≤ q → A q) → s.heap.size = sz → va_P E.1 vwCl bs.flatten s.heap → va_D A bs.flatten → lv_has ls ml (lv_args 0 Args) →
      (∀ (H : Heap) (locs : List Loc) (v : UInt64) (u : S) (pc : Nat) (ls : Array Slot) (cells slots : Nat), va_P E.1 vwCl (bs' u).flatten H → va_D A (bs' u).flatten → va_S A s.heap H locs → post v u → decode cc pc = .ok (.dreturn, 1) → cells ≤ mc → slots ≤ ms → W p l e rm s m Args.toArray below meth c H locs cells slots Q (F0 m pc ls [.double v])) →
      PrK p l e rm s m Args.toArray below meth c E A Q px bx mc ms → ThK p l e rm s m Args.toArray below meth c E A Q cc ml px bx mc ms →
      W p l e rm s m Args.toArray below meth c s.heap [] 0 0 Q (F0 m 0 ls [])) : XD l y cc ml rm Args E sz bs post bs' px bx mc ms := by
  refine vx_ofW (cc := cc) (maxL := ml) (ret := some .double) hy rfl ?_
  intro p e s m args below meth c s₁ B hml ht9 hv
  obtain ⟨rfl, ⟨hsz, hP, hK, hD0, hZ⟩, hDD⟩ := hv
  rw [lg_entry_eq]
  have hown := findClass_of_methodNamed B.named
  have hts : ∀ w ∈ TG, w.before Args.toArray s = true := fun w hw => atoms_spec B.pre w (List.mem_cons_of_mem _ hw)
  refine body p e s m below meth c (va_A bs.flatten sz) _ _ B.exec B.bytes hml hown hts hK hZ hDD (fun q hq => Or.inr (by rw [← hsz]; exact hq)) hsz hP hD0.self (lv_entry Args hlen) ?_ (prop_of hK ht9 B.notSynchronized) (thr_of hst B.exec B.bytes hml (by rw [← hyc]; exact hown) hts hK hZ hDD (fun q hq => Or.inr (by rw [← hsz]; exact hq)) ht9 B.notSynchronized)
  intro H locs v u pc ls cells slots hP' hD' hS' hpost hdg hc hs
  exact W_widen hc hs (vx_ret (W.dret B.exec B.bytes B.returns (fun t ht hW => ⟨⟨v, u, rfl, hpost, by rw [ht]; exact hP', va_K.moved hW.alike hK, hD'⟩, hS'.F ht⟩) hS'.2.2 hdg B.notSynchronized))
theorem xf_go {post : UInt32 → S → Prop} (hst : l.stackTraces = false) (hy : plainName y.cls = true) (hyc : y.cls = RX5) (hlen : (lg_sl Args).length ≤ ml)
    (body : ∀ (p : Program) (e : Env) (s : State) (m : MethodId) (below : List Frame) (meth : Method) (c : Code) (A : Nat → Prop) (Q : State → Prop) (ls : Array Slot), p.tables.exec = Jvm.exec → c.code = cc → c.maxLocals = ml → s.vm.findClass y.cls = some m.cls → (∀ w ∈ TG, w.before Args.toArray s = true) → va_K E.1 vwCl (tyl E.2.1) s → ZZ E A s s.heap → DD s → (∀ q, s.heap.size ≤ q → A q) → s.heap.size = sz → va_P E.1 vwCl bs.flatten s.heap → va_D A bs.flatten → lv_has ls ml (lv_args 0 Args) →
      (∀ (H : Heap) (locs : List Loc) (v : UInt32) (u : S) (pc : Nat) (ls : Array Slot) (cells slots : Nat), va_P E.1 vwCl (bs' u).flatten H → va_D A (bs' u).flatten → va_S A s.heap H locs → post v u → decode cc pc = .ok (.freturn, 1) → cells ≤ mc → slots ≤ ms → W p l e rm s m Args.toArray below meth c H locs cells slots Q (F0 m pc ls [.float v])) →
      PrK p l e rm s m Args.toArray below meth c E A Q px bx mc ms → ThK p l e rm s m Args.toArray below meth c E A Q cc ml px bx mc ms →
      W p l e rm s m Args.toArray below meth c s.heap [] 0 0 Q (F0 m 0 ls [])) : XF l y cc ml rm Args E sz bs post bs' px bx mc ms := by
  refine vx_ofW (cc := cc) (maxL := ml) (ret := some .float) hy rfl ?_
  intro p e s m args below meth c s₁ B hml ht9 hv
  obtain ⟨rfl, ⟨hsz, hP, hK, hD0, hZ⟩, hDD⟩ := hv
  rw [lg_entry_eq]
  have hown := findClass_of_methodNamed B.named
  have hts : ∀ w ∈ TG, w.before Args.toArray s = true := fun w hw => atoms_spec B.pre w (List.mem_cons_of_mem _ hw)
  refine body p e s m below meth c (va_A bs.flatten sz) _ _ B.exec B.bytes hml hown hts hK hZ hDD (fun q hq => Or.inr (by rw [← hsz]; exact hq)) hsz hP hD0.self (lv_entry Args hlen) ?_ (prop_of hK ht9 B.notSynchronized) (thr_of hst B.exec B.bytes hml (by rw [← hyc]; exact hown) hts hK hZ hDD (fun q hq => Or.inr (by rw [← hsz]; exact hq)) ht9 B.notSynchronized)
  intro H locs v u pc ls cells slots hP' hD' hS' hpost hdg hc hs
  exact W_widen hc hs (vx_ret (W.fret B.exec B.bytes B.returns (fun t ht hW => ⟨⟨v, u, rfl, hpost, by rw [ht]; exact hP', va_K.moved hW.alike hK, hD'⟩, hS'.F ht⟩) hS'.2.2 hdg B.notSynchronized))
theorem xv_go {post : S → Prop} (hst : l.stackTraces = false) (hy : plainName y.cls = true) (hyc : y.cls = RX5) (hlen : (lg_sl Args).length ≤ ml)
    (body : ∀ (p : Program) (e : Env) (s : State) (m : MethodId) (below : List Frame) (meth : Method) (c : Code) (A : Nat → Prop) (Q : State → Prop) (ls : Array Slot), p.tables.exec = Jvm.exec → c.code = cc → c.maxLocals = ml → s.vm.findClass y.cls = some m.cls → (∀ w ∈ TG, w.before Args.toArray s = true) → va_K E.1 vwCl (tyl E.2.1) s → ZZ E A s s.heap → DD s → (∀ q, s.heap.size ≤ q → A q) → s.heap.size = sz → va_P E.1 vwCl bs.flatten s.heap → va_D A bs.flatten → lv_has ls ml (lv_args 0 Args) →
      (∀ (H : Heap) (locs : List Loc) (u : S) (pc : Nat) (ls : Array Slot) (cells slots : Nat), va_P E.1 vwCl (bs' u).flatten H → va_D A (bs' u).flatten → va_S A s.heap H locs → post u → decode cc pc = .ok (.return_, 1) → cells ≤ mc → slots ≤ ms → W p l e rm s m Args.toArray below meth c H locs cells slots Q (F0 m pc ls [])) →
      PrK p l e rm s m Args.toArray below meth c E A Q px bx mc ms → ThK p l e rm s m Args.toArray below meth c E A Q cc ml px bx mc ms →
      W p l e rm s m Args.toArray below meth c s.heap [] 0 0 Q (F0 m 0 ls [])) : XV l y cc ml rm Args E sz bs post bs' px bx mc ms := by
  refine vx_ofW (cc := cc) (maxL := ml) (ret := none) hy rfl ?_
  intro p e s m args below meth c s₁ B hml ht9 hv
  obtain ⟨rfl, ⟨hsz, hP, hK, hD0, hZ⟩, hDD⟩ := hv
  rw [lg_entry_eq]
  have hown := findClass_of_methodNamed B.named
  have hts : ∀ w ∈ TG, w.before Args.toArray s = true := fun w hw => atoms_spec B.pre w (List.mem_cons_of_mem _ hw)
  refine body p e s m below meth c (va_A bs.flatten sz) _ _ B.exec B.bytes hml hown hts hK hZ hDD (fun q hq => Or.inr (by rw [← hsz]; exact hq)) hsz hP hD0.self (lv_entry Args hlen) ?_ (prop_of hK ht9 B.notSynchronized) (thr_of hst B.exec B.bytes hml (by rw [← hyc]; exact hown) hts hK hZ hDD (fun q hq => Or.inr (by rw [← hsz]; exact hq)) ht9 B.notSynchronized)
  intro H locs u pc ls cells slots hP' hD' hS' hpost hdg hc hs
  exact W_widen hc hs (vx_ret (W.vret B.exec B.bytes B.returns (fun t ht hW => ⟨⟨u, rfl, hpost, by rw [ht]; exact hP', va_K.moved hW.alike hK, hD'⟩, hS'.F ht⟩) hS'.2.2 hdg B.notSynchronized))
end XGO
