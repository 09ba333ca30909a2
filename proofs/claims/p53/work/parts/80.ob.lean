/-! the law's own methods: the object whole, and methods with an exception table that answer any kind -/
abbrev JT : Type := GG × (Nat → Nat) × (Nat → Nat) × (Nat → Nat) × (Nat → Nat) × (Nat → Nat) × GG × Nat × Nat × Nat × Nat × (Nat → Nat)
/-- what is true of the object's parts that no query shows -/
def JV (j : JT) : Prop := (j.2.2.2.2.2.1 0 ≤ 60 ∧ ∀ i, j.2.2.2.2.2.2.1 0 i < 65536) ∧ j.2.2.2.2.2.2.2.2.2.1 ≤ j.2.2.2.2.2.2.2.2.2.2.1 ∧ (j.2.2.2.2.2.2.2.2.2.2.1 = 16 ∨ j.2.2.2.2.2.2.2.2.2.2.1 = 34) ∧ ∀ i, j.2.2.2.2.2.2.2.2.2.2.2 i < 128
/-- the object: X where its parts lie, g its state, g2 the saved one, hg nx ct the history -/
def OB (E : EE) (X hs : Nat → Nat → Nat) (w : Nat → Nat) (g g2 : GG) (hg : Nat → GG) (nx ct : Nat) (j : JT) : List va_W := [coC E (X 0) (X 1) (X 2) (X 3) (X 4) (X 5) (X 6) (X 7) (X 8) w, stC E (X 1) g, stC E (X 2) g2, stC E (X 3) j.1, hhC E (X 4) hs hg nx ct, diC E (X 5) j.2.1 j.2.2.1, grC E (X 6) j.2.2.2.1 j.2.2.2.2.1, prC E (X 7) j.2.2.2.2.2.1 j.2.2.2.2.2.2.1, sbO E (X 8) j.2.2.2.2.2.2.2.1 j.2.2.2.2.2.2.2.2.1 j.2.2.2.2.2.2.2.2.2.1, baC E j.2.2.2.2.2.2.2.1 j.2.2.2.2.2.2.2.2.2.2.1 j.2.2.2.2.2.2.2.2.2.2.2]
def hgN (b : Bool) (hg : Nat → GG) (nx : Nat) (g : GG) : Nat → GG := if b = true then upa hg nx g else hg
def nxN (b : Bool) (nx : Nat) : Nat := if b = true then (nx + 1) % 8 else nx
def ctN (b : Bool) (ct : Nat) : Nat := if b = true then (if 8 < ct + 1 then 8 else ct + 1) else ct
def gN (b : Bool) (g' g : GG) : GG := if b = true then g' else g
def rfX (n : Nat) : Int32 := if n = 1 then -77 else if n = 2 then -78 else if n = 3 then -79 else -76
def wf (g : GG) (f : Nat → Nat) (p0 : Int32) : Int32 := if hasM g p0 = true then nI (f (tn p0)) else -77
def wf2 (g : GG) (f : Nat → Nat → Nat) (p0 p1 : Int32) : Int32 := if (hasM g p0 && hasM g p1) = true then nI (f (tn p0) (tn p1)) else -77
def wl (g : GG) (p0 : Int32) : Int64 := if hasM g p0 = true then lN (dlk g (tn p0) 60) else -77
def wrk (g : GG) (p0 : Int32) : Int32 := if fst1 (fun a => decide ((mAh g a : Int) = p0.toInt)) (g 8 0) < g 8 0 then nI (fst1 (fun a => decide ((mAh g a : Int) = p0.toInt)) (g 8 0)) else -75
def wch (g : GG) : Int32 := if fsC g < 60 then nI (fsC g + 1) else -75
def wea (g : GG) (p0 : Int32) : Int32 := if 0 ≤ p0.toInt ∧ p0.toInt ≤ 60 then nI (passN g (tn p0)) else -78
def wfv (g : GG) (p0 p1 : Int32) : Int32 := if fMot p0 p1 = 0 then nI (favN g (tn p0) (tn p1)) else -78
def wct (g : GG) (p0 : Int32) : Int32 := if 0 ≤ p0.toInt ∧ p0.toInt ≤ 6 then (if fst1 (fun t => decide (quo g ≤ favN g t (tn p0))) 12 < 12 then nI (fst1 (fun t => decide (quo g ≤ favN g t (tn p0))) 12) else -75) else -78
def wsm (g : GG) : Int32 := if g 8 0 = 0 then -75 else nI (few8 g (2 ^ g 8 0))
def wsp (g : GG) (p0 : Int32) : Int32 := if 0 ≤ p0.toInt ∧ p0.toInt < (g 8 7 : Int) then nI (g 7 (tn p0)) else -77
def wmp (g : GG) : UInt64 := if g 8 0 = 0 then 13858279740860792832 else mpD g
def wps (g : GG) (p0 : Int32) : UInt32 := if hasM g p0 = true then psF g (tn p0) else 3264872448
def apG (g : GG) (x y : Nat) : Nat := ap (g 3 x) (g 3 y)
def lnG (g : GG) (m : Nat) : Nat := (memL g m).length
abbrev WdX (y : MethodName) (b : ByteArray) (ml : Nat) (rt : FieldType) (hh : List (Nat × Nat × Nat × Nat)) : List Cond := Cond.codeWith y b ml (some rt) hh :: TG
abbrev MWL (l : Launch) (y : MethodName) (b : ByteArray) (ml : Nat) (hh : List (Nat × Nat × Nat × Nat)) (rm : Room) (Args : List Value) (E : EE) (sz : Nat) (bs : List va_W) {S : Type} (post : Int64 → S → Prop) (bs' : S → List va_W) (mc ms : Nat) : Prop :=
  Met l y (WdX y b ml .long hh) rm (va_Pc Args (PX E sz bs)) (va_Ql post (fun u t => QB E (va_A bs.flatten sz) (bs' u) t) (va_A bs.flatten sz)) mc ms (va_A bs.flatten sz)
abbrev MWD (l : Launch) (y : MethodName) (b : ByteArray) (ml : Nat) (hh : List (Nat × Nat × Nat × Nat)) (rm : Room) (Args : List Value) (E : EE) (sz : Nat) (bs : List va_W) {S : Type} (post : UInt64 → S → Prop) (bs' : S → List va_W) (mc ms : Nat) : Prop :=
  Met l y (WdX y b ml .double hh) rm (va_Pc Args (PX E sz bs)) (va_Qd post (fun u t => QB E (va_A bs.flatten sz) (bs' u) t) (va_A bs.flatten sz)) mc ms (va_A bs.flatten sz)
abbrev MWF (l : Launch) (y : MethodName) (b : ByteArray) (ml : Nat) (hh : List (Nat × Nat × Nat × Nat)) (rm : Room) (Args : List Value) (E : EE) (sz : Nat) (bs : List va_W) {S : Type} (post : UInt32 → S → Prop) (bs' : S → List va_W) (mc ms : Nat) : Prop :=
  Met l y (WdX y b ml .float hh) rm (va_Pc Args (PX E sz bs)) (va_Qf post (fun u t => QB E (va_A bs.flatten sz) (bs' u) t) (va_A bs.flatten sz)) mc ms (va_A bs.flatten sz)
section GOMX
variable {l : Launch} {y : MethodName} {cc : ByteArray} {ml : Nat} {hh : List (Nat × Nat × Nat × Nat)} {rm : Room} {Args : List Value} {E : EE} {sz : Nat} {bs : List va_W} {S : Type} {bs' : S → List va_W} {mc ms : Nat}
theorem mwl_go {post : Int64 → S → Prop} (hy : plainName y.cls = true) (hlen : (lg_sl Args).length ≤ ml)
    (body : ∀ (p : Program) (e : Env) (s : State) (m : MethodId) (below : List Frame) (meth : Method) (c : Code) (A : Nat → Prop) (Q : State → Prop) (ls : Array Slot), p.tables.exec = Jvm.exec → c.code = cc → c.maxLocals = ml → s.vm.findClass y.cls = some m.cls → (∀ w ∈ TG, w.before Args.toArray s = true) → va_K E.1 vwCl (tyl E.2.1) s → ZZ E A s s.heap → DD s → (∀ q, s.heap.size ≤ q → A q) → s.heap.size = sz → va_P E.1 vwCl bs.flatten s.heap → va_D A bs.flatten → lv_has ls ml (lv_args 0 Args) → c.exceptionTable.toList = tableOf hh →
      (∀ (H : Heap) (locs : List Loc) (v : Int64) (u : S) (pc : Nat) (ls : Array Slot) (cells slots : Nat), va_P E.1 vwCl (bs' u).flatten H → va_D A (bs' u).flatten → va_S A s.heap H locs → post v u → decode cc pc = .ok (.lreturn, 1) → cells ≤ mc → slots ≤ ms → W p l e rm s m Args.toArray below meth c H locs cells slots Q (F0 m pc ls [.long v])) →
      W p l e rm s m Args.toArray below meth c s.heap [] 0 0 Q (F0 m 0 ls [])) : MWL l y cc ml hh rm Args E sz bs post bs' mc ms := by
  refine Met_ofWH (cc := cc) (maxL := ml) (ret := some .long) (hh := hh) hy rfl ?_
  intro p e s m args below meth c s₁ B hml hv
  obtain ⟨rfl, ⟨hsz, hP, hK, hD0, hZ⟩, hDD⟩ := hv
  rw [lg_entry_eq]
  refine body p e s m below meth c (va_A bs.flatten sz) _ _ B.exec B.bytes hml (findClass_of_methodNamed B.named) (fun w hw => atoms_spec B.pre w (List.mem_cons_of_mem _ hw)) hK hZ hDD (fun q hq => Or.inr (by rw [← hsz]; exact hq)) hsz hP hD0.self (lv_entry Args hlen) (vx_table (x := y) B (atoms_spec B.pre _ List.mem_cons_self)) ?_
  intro H locs v u pc ls cells slots hP' hD' hS' hpost hdg hc hs
  exact W_widen hc hs (W.lret B.exec B.bytes B.returns (fun t ht hW => ⟨⟨v, u, rfl, hpost, by rw [ht]; exact hP', va_K.moved hW.alike hK, hD'⟩, hS'.F ht⟩) hS'.2.2 hdg B.notSynchronized)
theorem mwd_go {post : UInt64 → S → Prop} (hy : plainName y.cls = true) (hlen : (lg_sl Args).length ≤ ml)
    (body : ∀ (p : Program) (e : Env) (s : State) (m : MethodId) (below : List Frame) (meth : Method) (c : Code) (A : Nat → Prop) (Q : State → Prop) (ls : Array Slot), p.tables.exec = Jvm.exec → c.code = cc → c.maxLocals = ml → s.vm.findClass y.cls = some m.cls → (∀ w ∈ TG, w.before Args.toArray s = true) → va_K E.1 vwCl (tyl E.2.1) s → ZZ E A s s.heap → DD s → (∀ q, s.heap.size ≤ q → A q) → s.heap.size = sz → va_P E.1 vwCl bs.flatten s.heap → va_D A bs.flatten → lv_has ls ml (lv_args 0 Args) → c.exceptionTable.toList = tableOf hh →
      (∀ (H : Heap) (locs : List Loc) (v : UInt64) (u : S) (pc : Nat) (ls : Array Slot) (cells slots : Nat), va_P E.1 vwCl (bs' u).flatten H → va_D A (bs' u).flatten → va_S A s.heap H locs → post v u → decode cc pc = .ok (.dreturn, 1) → cells ≤ mc → slots ≤ ms → W p l e rm s m Args.toArray below meth c H locs cells slots Q (F0 m pc ls [.double v])) →
      W p l e rm s m Args.toArray below meth c s.heap [] 0 0 Q (F0 m 0 ls [])) : MWD l y cc ml hh rm Args E sz bs post bs' mc ms := by
  refine Met_ofWH (cc := cc) (maxL := ml) (ret := some .double) (hh := hh) hy rfl ?_
  intro p e s m args below meth c s₁ B hml hv
  obtain ⟨rfl, ⟨hsz, hP, hK, hD0, hZ⟩, hDD⟩ := hv
  rw [lg_entry_eq]
  refine body p e s m below meth c (va_A bs.flatten sz) _ _ B.exec B.bytes hml (findClass_of_methodNamed B.named) (fun w hw => atoms_spec B.pre w (List.mem_cons_of_mem _ hw)) hK hZ hDD (fun q hq => Or.inr (by rw [← hsz]; exact hq)) hsz hP hD0.self (lv_entry Args hlen) (vx_table (x := y) B (atoms_spec B.pre _ List.mem_cons_self)) ?_
  intro H locs v u pc ls cells slots hP' hD' hS' hpost hdg hc hs
  exact W_widen hc hs (W.dret B.exec B.bytes B.returns (fun t ht hW => ⟨⟨v, u, rfl, hpost, by rw [ht]; exact hP', va_K.moved hW.alike hK, hD'⟩, hS'.F ht⟩) hS'.2.2 hdg B.notSynchronized)
theorem mwf_go {post : UInt32 → S → Prop} (hy : plainName y.cls = true) (hlen : (lg_sl Args).length ≤ ml)
    (body : ∀ (p : Program) (e : Env) (s : State) (m : MethodId) (below : List Frame) (meth : Method) (c : Code) (A : Nat → Prop) (Q : State → Prop) (ls : Array Slot), p.tables.exec = Jvm.exec → c.code = cc → c.maxLocals = ml → s.vm.findClass y.cls = some m.cls → (∀ w ∈ TG, w.before Args.toArray s = true) → va_K E.1 vwCl (tyl E.2.1) s → ZZ E A s s.heap → DD s → (∀ q, s.heap.size ≤ q → A q) → s.heap.size = sz → va_P E.1 vwCl bs.flatten s.heap → va_D A bs.flatten → lv_has ls ml (lv_args 0 Args) → c.exceptionTable.toList = tableOf hh →
      (∀ (H : Heap) (locs : List Loc) (v : UInt32) (u : S) (pc : Nat) (ls : Array Slot) (cells slots : Nat), va_P E.1 vwCl (bs' u).flatten H → va_D A (bs' u).flatten → va_S A s.heap H locs → post v u → decode cc pc = .ok (.freturn, 1) → cells ≤ mc → slots ≤ ms → W p l e rm s m Args.toArray below meth c H locs cells slots Q (F0 m pc ls [.float v])) →
      W p l e rm s m Args.toArray below meth c s.heap [] 0 0 Q (F0 m 0 ls [])) : MWF l y cc ml hh rm Args E sz bs post bs' mc ms := by
  refine Met_ofWH (cc := cc) (maxL := ml) (ret := some .float) (hh := hh) hy rfl ?_
  intro p e s m args below meth c s₁ B hml hv
  obtain ⟨rfl, ⟨hsz, hP, hK, hD0, hZ⟩, hDD⟩ := hv
  rw [lg_entry_eq]
  refine body p e s m below meth c (va_A bs.flatten sz) _ _ B.exec B.bytes hml (findClass_of_methodNamed B.named) (fun w hw => atoms_spec B.pre w (List.mem_cons_of_mem _ hw)) hK hZ hDD (fun q hq => Or.inr (by rw [← hsz]; exact hq)) hsz hP hD0.self (lv_entry Args hlen) (vx_table (x := y) B (atoms_spec B.pre _ List.mem_cons_self)) ?_
  intro H locs v u pc ls cells slots hP' hD' hS' hpost hdg hc hs
  exact W_widen hc hs (W.fret B.exec B.bytes B.returns (fun t ht hW => ⟨⟨v, u, rfl, hpost, by rw [ht]; exact hP', va_K.moved hW.alike hK, hD'⟩, hS'.F ht⟩) hS'.2.2 hdg B.notSynchronized)
end GOMX
abbrev MIx (l : Launch) (y : MethodName) (b : ByteArray) (ml : Nat) (rt : FieldType) (rm : Room) (Args : List Value) (E : EE) (sz : Nat) (bs : List va_W) {S : Type} (post : Int32 → S → Prop) (bs' : S → List va_W) (mc ms : Nat) : Prop :=
  Met l y (Wd y b ml (some rt)) rm (va_Pc Args (PX E sz bs)) (va_Qi post (fun u t => QB E (va_A bs.flatten sz) (bs' u) t) (va_A bs.flatten sz)) mc ms (va_A bs.flatten sz)
abbrev MLx (l : Launch) (y : MethodName) (b : ByteArray) (ml : Nat) (rm : Room) (Args : List Value) (E : EE) (sz : Nat) (bs : List va_W) {S : Type} (post : Int64 → S → Prop) (bs' : S → List va_W) (mc ms : Nat) : Prop :=
  Met l y (Wd y b ml (some .long)) rm (va_Pc Args (PX E sz bs)) (va_Ql post (fun u t => QB E (va_A bs.flatten sz) (bs' u) t) (va_A bs.flatten sz)) mc ms (va_A bs.flatten sz)
section GOIX
variable {l : Launch} {y : MethodName} {cc : ByteArray} {ml : Nat} {rt : FieldType} {rm : Room} {Args : List Value} {E : EE} {sz : Nat} {bs : List va_W} {S : Type} {bs' : S → List va_W} {mc ms : Nat}
theorem mi_gox {post : Int32 → S → Prop} (hy : plainName y.cls = true) (hlen : (lg_sl Args).length ≤ ml)
    (body : ∀ (p : Program) (e : Env) (s : State) (m : MethodId) (below : List Frame) (meth : Method) (c : Code) (A : Nat → Prop) (Q : State → Prop) (ls : Array Slot), p.tables.exec = Jvm.exec → c.code = cc → c.maxLocals = ml → s.vm.findClass y.cls = some m.cls → (∀ w ∈ TG, w.before Args.toArray s = true) → va_K E.1 vwCl (tyl E.2.1) s → ZZ E A s s.heap → DD s → (∀ q, s.heap.size ≤ q → A q) → s.heap.size = sz → va_P E.1 vwCl bs.flatten s.heap → va_D A bs.flatten → lv_has ls ml (lv_args 0 Args) →
      (∀ (H : Heap) (locs : List Loc) (v : Int32) (u : S) (pc : Nat) (ls : Array Slot) (cells slots : Nat), va_P E.1 vwCl (bs' u).flatten H → va_D A (bs' u).flatten → va_S A s.heap H locs → narrow rt (.int v) = .int v → post v u → decode cc pc = .ok (.ireturn, 1) → cells ≤ mc → slots ≤ ms → W p l e rm s m Args.toArray below meth c H locs cells slots Q (F0 m pc ls [.int v])) →
      W p l e rm s m Args.toArray below meth c s.heap [] 0 0 Q (F0 m 0 ls [])) : MIx l y cc ml rt rm Args E sz bs post bs' mc ms := by
  refine Met.ofW (cc := cc) (maxL := ml) (ret := some rt) hy rfl ?_
  intro p e s m args below meth c s₁ B hml hv
  obtain ⟨rfl, ⟨hsz, hP, hK, hD0, hZ⟩, hDD⟩ := hv
  rw [lg_entry_eq]
  refine body p e s m below meth c (va_A bs.flatten sz) _ _ B.exec B.bytes hml (findClass_of_methodNamed B.named) (fun w hw => atoms_spec B.pre w (List.mem_cons_of_mem _ hw)) hK hZ hDD (fun q hq => Or.inr (by rw [← hsz]; exact hq)) hsz hP hD0.self (lv_entry Args hlen) ?_
  intro H locs v u pc ls cells slots hP' hD' hS' hn hpost hdg hc hs
  exact W_widen hc hs (W.zret B.exec B.bytes B.returns hn (fun t ht hW => ⟨⟨v, u, rfl, hpost, by rw [ht]; exact hP', va_K.moved hW.alike hK, hD'⟩, hS'.F ht⟩) hS'.2.2 hdg B.notSynchronized)
theorem ml_gox {post : Int64 → S → Prop} (hy : plainName y.cls = true) (hlen : (lg_sl Args).length ≤ ml)
    (body : ∀ (p : Program) (e : Env) (s : State) (m : MethodId) (below : List Frame) (meth : Method) (c : Code) (A : Nat → Prop) (Q : State → Prop) (ls : Array Slot), p.tables.exec = Jvm.exec → c.code = cc → c.maxLocals = ml → s.vm.findClass y.cls = some m.cls → (∀ w ∈ TG, w.before Args.toArray s = true) → va_K E.1 vwCl (tyl E.2.1) s → ZZ E A s s.heap → DD s → (∀ q, s.heap.size ≤ q → A q) → s.heap.size = sz → va_P E.1 vwCl bs.flatten s.heap → va_D A bs.flatten → lv_has ls ml (lv_args 0 Args) →
      (∀ (H : Heap) (locs : List Loc) (v : Int64) (u : S) (pc : Nat) (ls : Array Slot) (cells slots : Nat), va_P E.1 vwCl (bs' u).flatten H → va_D A (bs' u).flatten → va_S A s.heap H locs → post v u → decode cc pc = .ok (.lreturn, 1) → cells ≤ mc → slots ≤ ms → W p l e rm s m Args.toArray below meth c H locs cells slots Q (F0 m pc ls [.long v])) →
      W p l e rm s m Args.toArray below meth c s.heap [] 0 0 Q (F0 m 0 ls [])) : MLx l y cc ml rm Args E sz bs post bs' mc ms := by
  refine Met.ofW (cc := cc) (maxL := ml) (ret := some .long) hy rfl ?_
  intro p e s m args below meth c s₁ B hml hv
  obtain ⟨rfl, ⟨hsz, hP, hK, hD0, hZ⟩, hDD⟩ := hv
  rw [lg_entry_eq]
  refine body p e s m below meth c (va_A bs.flatten sz) _ _ B.exec B.bytes hml (findClass_of_methodNamed B.named) (fun w hw => atoms_spec B.pre w (List.mem_cons_of_mem _ hw)) hK hZ hDD (fun q hq => Or.inr (by rw [← hsz]; exact hq)) hsz hP hD0.self (lv_entry Args hlen) ?_
  intro H locs v u pc ls cells slots hP' hD' hS' hpost hdg hc hs
  exact W_widen hc hs (W.lret B.exec B.bytes B.returns (fun t ht hW => ⟨⟨v, u, rfl, hpost, by rw [ht]; exact hP', va_K.moved hW.alike hK, hD'⟩, hS'.F ht⟩) hS'.2.2 hdg B.notSynchronized)
end GOIX
def CWX (own : String) (idx : Nat) (y : MethodName) (b : ByteArray) (ml : Nat) (rt : FieldType) (hh : List (Nat × Nat × Nat × Nat)) (n : Nat) : Prop :=
  (Cond.methodLink own idx y ∈ TG ∧ Cond.static y ∈ TG ∧ Cond.initialized y.cls ∈ TG ∧ Cond.codeWith y b ml (some rt) hh ∈ TG) ∧ y.cls ≠ "java/lang/invoke/MethodHandle" ∧ y.cls ≠ "java/lang/invoke/VarHandle" ∧ (parseMethodDescriptor y.desc).map (fun d => d.parameters.length) = some n
section XCX
variable {p : Program} {l : Launch} {e : Env} {R : Room} {s : State} {m : MethodId} {args : Array Value} {below : List Frame} {meth : Method} {c : Code} {H : Heap} {locs : List Loc} {cells slots : Nat} {Q : State → Prop} {cc : ByteArray} {pc : Nat} {ls : Array Slot} {st rest : List Value} {A : Nat → Prop}
variable {rt : FieldType} {own : String} {idx n ml nL mc ms : Nat} {y : MethodName} {b : ByteArray} {hh : List (Nat × Nat × Nat × Nat)} {rm : Room} {As : List Value} {E : EE} {bs cb : List va_W} {Qc : Array Value → State → Outcome → State → Prop} {free : Addr → Prop} {isC : List Nat}
theorem run_SX (hx : p.tables.exec = Jvm.exec) (hb : c.code = cc) (hml : c.maxLocals = nL) (hown : s.vm.findClass own = some m.cls) (hts : ∀ w ∈ TG, w.before args s = true) (hK : va_K E.1 vwCl (tyl E.2.1) s) (hZ : ZZ E A s s.heap) (hDD : DD s) (hA : ∀ q, s.heap.size ≤ q → A q)
    (hM : Met l y (WdX y b ml rt hh) rm (va_Pc As (PX E H.size cb)) Qc mc ms free) (w : CWX own idx y b ml rt hh n) (hn : As.length = n) (hR : (rm.cells = mc ∧ rm.slots = ms) ∧ (rm.frames + 1 ≤ R.frames ∧ 8 + (ml + 11) + rm.locals ≤ R.locals))
    (isC : List Nat) (hC : isC.map (fun i => bs[i]?) = cb.map some) (hnd : va_nd isC = true) (hP : va_P E.1 vwCl bs.flatten H) (hD : va_D A bs.flatten) (hS : va_S A s.heap H locs)
    (hlsz : ls.size = nL) (hst : st = As.reverse ++ rest) (hcat : (rest.map fun v => v.category).sum ≤ 8) (hdg : decode cc pc = .ok (.invokestatic idx, 3)) (hf : cells + mc ≤ R.cells ∧ slots + ms ≤ R.slots) :
    va_Run p l e R s m args below meth c H locs cells slots mc ms (F0 m pc ls st) rest (Qc As.toArray) free := by
  obtain ⟨⟨w1, w2, w3, w5⟩, w6⟩ := w
  refine vx_runSW (As := As) (rest := rest) ⟨hx, hb, hml, hown, hts⟩ hM (vx_cwSW n hts (fun w hw => ?_) rfl hR.1.1 hR.1.2 w6 hR.2) ⟨PX_blind E H.size cb _, fun U hU hW => ⟨rfl, pb_of hK hZ hA hS hP hD hC hnd hU hW, DD.warm hW hDD⟩⟩ rfl hn hlsz hst (lv_room hcat) hdg hf
  unfold va_wsS at hw
  rcases List.mem_append.mp hw with hw | hw
  · simp only [List.mem_cons, List.not_mem_nil, or_false] at hw
    rcases hw with rfl | rfl | rfl
    · exact ⟨w1, tg_good w1⟩
    · exact ⟨w2, tg_good w2⟩
    · exact ⟨w3, tg_good w3⟩
  · rcases List.mem_cons.mp hw with rfl | hw
    · exact ⟨w5, tg_good w5⟩
    · exact ⟨hw, tg_good hw⟩
end XCX
section XSX
variable {p : Program} {l : Launch} {e : Env} {R : Room} {s : State} {m : MethodId} {args : Array Value} {below : List Frame} {meth : Method} {c : Code} {H : Heap} {locs : List Loc} {cells slots : Nat} {Q : State → Prop} {cc : ByteArray} {pc : Nat} {ls : Array Slot} {st rest : List Value} {A : Nat → Prop}
variable {rt : Option FieldType} {own : String} {idx n ml nL mc ms : Nat} {y : MethodName} {b : ByteArray} {hh : List (Nat × Nat × Nat × Nat)} {rm : Room} {As : List Value} {E : EE} {bs cb : List va_W} {Qc : Array Value → State → Outcome → State → Prop} {free : Addr → Prop} {isC : List Nat}
theorem run_Sx (hx : p.tables.exec = Jvm.exec) (hb : c.code = cc) (hml : c.maxLocals = nL) (hown : s.vm.findClass own = some m.cls) (hts : ∀ w ∈ TG, w.before args s = true) (hK : va_K E.1 vwCl (tyl E.2.1) s) (hZ : ZZ E A s s.heap) (hDD : DD s) (hA : ∀ q, s.heap.size ≤ q → A q)
    (hM : Met l y (Wd y b ml rt) rm (va_Pc As (PX E H.size cb)) Qc mc ms free) (w : CWS own idx y b ml rt n) (hn : As.length = n) (hR : (rm.cells = mc ∧ rm.slots = ms) ∧ (rm.frames + 1 ≤ R.frames ∧ 8 + (ml + 11) + rm.locals ≤ R.locals))
    (isC : List Nat) (hC : isC.map (fun i => bs[i]?) = cb.map some) (hnd : va_nd isC = true) (hP : va_P E.1 vwCl bs.flatten H) (hD : va_D A bs.flatten) (hS : va_S A s.heap H locs)
    (hlsz : ls.size = nL) (hst : st = As.reverse ++ rest) (hcat : (rest.map fun v => v.category).sum ≤ 8) (hdg : decode cc pc = .ok (.invokestatic idx, 3)) (hf : cells + mc ≤ R.cells ∧ slots + ms ≤ R.slots) :
    va_Run p l e R s m args below meth c H locs cells slots mc ms (F0 m pc ls st) rest (Qc As.toArray) free := by
  obtain ⟨⟨w1, w2, w3, w5⟩, w6⟩ := w
  exact va_runS (As := As) (rest := rest) ⟨hx, hb, hml, hown, hts⟩ hM ⟨callB_of n hts (tg_in w5) rfl hR.1.1 hR.1.2 (hts _ w3) (hts _ w1) w6 hR.2, hts _ w2⟩ ⟨PX_blind E H.size cb _, fun U hU hW => ⟨rfl, pb_of hK hZ hA hS hP hD hC hnd hU hW, DD.warm hW hDD⟩⟩ rfl hn hlsz hst (lv_room hcat) hdg hf
end XSX
