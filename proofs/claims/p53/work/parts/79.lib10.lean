/-! the law's own methods: each calls the face, and catches -/
theorem nn_of {f : FP.Core.Fmt} {n : Nat} (h : n % (f.tails * f.exps) ≤ (f.exps - 1) * f.tails) : FP.Core.decode f n ≠ .nan := by
  unfold FP.Core.decode
  split
  · rename_i he
    have ht : FP.Core.fieldT f n = 0 := by
      unfold FP.Core.fieldE at he
      unfold FP.Core.fieldT
      rw [Nat.mod_mul, he, Nat.mul_comm] at h
      omega
    rw [if_pos ht]
    intro q
    cases q
  · split <;> (intro q; cases q)
theorem nn_64 {x : UInt64} (h : vf_n64 x) : FP.Core.decode FP.Core.b64 x.toNat ≠ .nan := by
  refine nn_of ?_
  unfold vf_n64 at h
  rw [UInt64.le_iff_toNat_le, UInt64.toNat_and, show (0x7fffffffffffffff : UInt64).toNat = 2 ^ 63 - 1 from by decide, Nat.and_two_pow_sub_one_eq_mod] at h
  have e1 : FP.Core.b64.tails * FP.Core.b64.exps = 2 ^ 63 := by decide +kernel
  have e2 : (FP.Core.b64.exps - 1) * FP.Core.b64.tails = 0x7ff0000000000000 := by decide +kernel
  rw [e1, e2]
  exact h
theorem nn_32 {x : UInt32} (h : vf_n32 x) : FP.Core.decode FP.Core.b32 x.toNat ≠ .nan := by
  refine nn_of ?_
  unfold vf_n32 at h
  rw [UInt32.le_iff_toNat_le, UInt32.toNat_and, show (0x7fffffff : UInt32).toNat = 2 ^ 31 - 1 from by decide, Nat.and_two_pow_sub_one_eq_mod] at h
  have e1 : FP.Core.b32.tails * FP.Core.b32.exps = 2 ^ 31 := by decide +kernel
  have e2 : (FP.Core.b32.exps - 1) * FP.Core.b32.tails = 0x7f800000 := by decide +kernel
  rw [e1, e2]
  exact h
theorem f2d_n {x : UInt32} (h : vf_n32 x) : vf_n64 (FP.f2d x) := by
  have h1 := nn_32 h
  have e : FP.Core.fIsNaN x = false := decide_eq_false h1
  unfold FP.f2d
  rw [e]
  show vf_n64 (UInt64.ofNat (FP.Core.encode FP.Core.b64 (FP.Core.round FP.Core.b64 (FP.Core.decode FP.Core.b32 x.toNat))))
  refine n64_of ?_
  revert h1
  generalize FP.Core.decode FP.Core.b32 x.toNat = D
  intro h1
  cases D with
  | nan => exact absurd rfl h1
  | inf s => trivial
  | fin s c q => exact gd_round (by decide) (by decide +kernel)
theorem cmp_i (i : Int) : compare i i = .eq := by simp [compare, compareOfLessAndEq]
theorem ord_self {D : FP.Core.Datum} (h : D ≠ .nan) : FP.Core.order D D = some .eq := by
  cases D with
  | nan => exact absurd rfl h
  | inf s => exact congrArg some (cmp_i _)
  | fin s c q => exact congrArg some (cmp_i _)
theorem dcmp_xx {x : UInt64} (h : vf_n64 x) : FP.dcmp x x = some .eq := ord_self (nn_64 h)
def loC (E : EE) (o : Nat) (f : Nat → Int64) : va_W := [(o, .inl (E.2.1 4, 1, .inr (.inl f)))]
def dbC (E : EE) (o : Nat) (f : Nat → UInt64) : va_W := [(o, .inl (E.2.1 5, 1, .inr (.inr (.inr (.inl f)))))]
theorem Met_ofWH {l : Launch} {y : MethodName} {ws ws' : List Cond} {rm : Room} {Pc : Array Value → State → Prop} {Qc : Array Value → State → Outcome → State → Prop} {mc ms : Nat} {free : Addr → Prop} {cc : ByteArray} {maxL : Nat} {ret : Option FieldType} {hh : List (Nat × Nat × Nat × Nat)}
    (hy : plainName y.cls = true) (hw : ws = Cond.codeWith y cc maxL ret hh :: ws')
    (body : ∀ p e s m args below meth c s₁, BodyLoose p l y (headSpec ws rm) cc maxL ret e s m args below meth c s₁ → c.maxLocals = maxL → Pc args s →
      W p l e (headSpec ws rm).room s m args below meth c s.heap [] 0 0 (MQ below Qc args s mc ms free) (entryFrame m args maxL)) : Met l y ws rm Pc Qc mc ms free := by
  refine MetFree.of_bodyS (code := cc) (maxLocals := maxL) (ret := ret) hy ?_ ?_
  · intro args s m h hn
    obtain ⟨m9, meth, c, hn9, h1, h2, h3, h4, -, h5, h6, -⟩ := Cond.codeWith_spec (atoms_spec (ws := ws) h _ (by rw [hw]; exact List.mem_cons_self))
    cases hn.symm.trans hn9
    exact ⟨meth, c, h1, h2, h3, h4, h5, h6⟩
  · intro p e s m args below meth c s₁ B hml hP _
    have hh0 : s₁.heap = s.heap := by rw [B.state]; rfl
    obtain ⟨t, a1, o, b1, b2, b3⟩ := body p e s m args below meth c s₁ B hml hP s₁ hh0 (Stand.of_body B)
    exact ⟨t, o, a1, b1, b2, ⟨b3.1, b3.2⟩⟩
abbrev WdW (y : MethodName) (b : ByteArray) (ml : Nat) (hh : List (Nat × Nat × Nat × Nat)) : List Cond := Cond.codeWith y b ml (some .int) hh :: TG
abbrev MW (l : Launch) (y : MethodName) (b : ByteArray) (ml : Nat) (hh : List (Nat × Nat × Nat × Nat)) (rm : Room) (Args : List Value) (E : EE) (sz : Nat) (bs : List va_W) {S : Type} (post : Int32 → S → Prop) (bs' : S → List va_W) (mc ms : Nat) : Prop :=
  Met l y (WdW y b ml hh) rm (va_Pc Args (PX E sz bs)) (va_Qi post (fun u t => QB E (va_A bs.flatten sz) (bs' u) t) (va_A bs.flatten sz)) mc ms (va_A bs.flatten sz)
section GOMW
variable {l : Launch} {y : MethodName} {cc : ByteArray} {ml : Nat} {hh : List (Nat × Nat × Nat × Nat)} {rm : Room} {Args : List Value} {E : EE} {sz : Nat} {bs : List va_W} {S : Type} {bs' : S → List va_W} {mc ms : Nat}
theorem mw_go {post : Int32 → S → Prop} (hy : plainName y.cls = true) (hlen : (lg_sl Args).length ≤ ml)
    (body : ∀ (p : Program) (e : Env) (s : State) (m : MethodId) (below : List Frame) (meth : Method) (c : Code) (A : Nat → Prop) (Q : State → Prop) (ls : Array Slot), p.tables.exec = Jvm.exec → c.code = cc → c.maxLocals = ml → s.vm.findClass y.cls = some m.cls → (∀ w ∈ TG, w.before Args.toArray s = true) → va_K E.1 vwCl (tyl E.2.1) s → ZZ E A s s.heap → DD s → (∀ q, s.heap.size ≤ q → A q) → s.heap.size = sz → va_P E.1 vwCl bs.flatten s.heap → va_D A bs.flatten → lv_has ls ml (lv_args 0 Args) → c.exceptionTable.toList = tableOf hh →
      (∀ (H : Heap) (locs : List Loc) (v : Int32) (u : S) (pc : Nat) (ls : Array Slot) (cells slots : Nat), va_P E.1 vwCl (bs' u).flatten H → va_D A (bs' u).flatten → va_S A s.heap H locs → post v u → decode cc pc = .ok (.ireturn, 1) → cells ≤ mc → slots ≤ ms → W p l e rm s m Args.toArray below meth c H locs cells slots Q (F0 m pc ls [.int v])) →
      W p l e rm s m Args.toArray below meth c s.heap [] 0 0 Q (F0 m 0 ls [])) : MW l y cc ml hh rm Args E sz bs post bs' mc ms := by
  refine Met_ofWH (cc := cc) (maxL := ml) (ret := some .int) (hh := hh) hy rfl ?_
  intro p e s m args below meth c s₁ B hml hv
  obtain ⟨rfl, ⟨hsz, hP, hK, hD0, hZ⟩, hDD⟩ := hv
  rw [lg_entry_eq]
  refine body p e s m below meth c (va_A bs.flatten sz) _ _ B.exec B.bytes hml (findClass_of_methodNamed B.named) (fun w hw => atoms_spec B.pre w (List.mem_cons_of_mem _ hw)) hK hZ hDD (fun q hq => Or.inr (by rw [← hsz]; exact hq)) hsz hP hD0.self (lv_entry Args hlen) (vx_table (x := y) B (atoms_spec B.pre _ List.mem_cons_self)) ?_
  intro H locs v u pc ls cells slots hP' hD' hS' hpost hdg hc hs
  exact W_widen hc hs (W.iret B.exec B.bytes B.returns (fun t ht hW => ⟨⟨v, u, rfl, hpost, by rw [ht]; exact hP', va_K.moved hW.alike hK, hD'⟩, hS'.F ht⟩) hS'.2.2 hdg B.notSynchronized)
end GOMW
def CWW (own : String) (idx : Nat) (y : MethodName) (b : ByteArray) (ml : Nat) (hh : List (Nat × Nat × Nat × Nat)) (n : Nat) : Prop :=
  (Cond.methodLink own idx y ∈ TG ∧ Cond.static y ∈ TG ∧ Cond.initialized y.cls ∈ TG ∧ Cond.codeWith y b ml (some .int) hh ∈ TG) ∧ y.cls ≠ "java/lang/invoke/MethodHandle" ∧ y.cls ≠ "java/lang/invoke/VarHandle" ∧ (parseMethodDescriptor y.desc).map (fun d => d.parameters.length) = some n
section XCW
variable {p : Program} {l : Launch} {e : Env} {R : Room} {s : State} {m : MethodId} {args : Array Value} {below : List Frame} {meth : Method} {c : Code} {H : Heap} {locs : List Loc} {cells slots : Nat} {Q : State → Prop} {cc : ByteArray} {pc : Nat} {ls : Array Slot} {st rest : List Value} {A : Nat → Prop}
variable {own : String} {idx n ml nL mc ms : Nat} {y : MethodName} {b : ByteArray} {hh : List (Nat × Nat × Nat × Nat)} {rm : Room} {As : List Value} {E : EE} {bs cb : List va_W} {Qc : Array Value → State → Outcome → State → Prop} {free : Addr → Prop} {isC : List Nat}
theorem run_SW (hx : p.tables.exec = Jvm.exec) (hb : c.code = cc) (hml : c.maxLocals = nL) (hown : s.vm.findClass own = some m.cls) (hts : ∀ w ∈ TG, w.before args s = true) (hK : va_K E.1 vwCl (tyl E.2.1) s) (hZ : ZZ E A s s.heap) (hDD : DD s) (hA : ∀ q, s.heap.size ≤ q → A q)
    (hM : Met l y (WdW y b ml hh) rm (va_Pc As (PX E H.size cb)) Qc mc ms free) (w : CWW own idx y b ml hh n) (hn : As.length = n) (hR : (rm.cells = mc ∧ rm.slots = ms) ∧ (rm.frames + 1 ≤ R.frames ∧ 8 + (ml + 11) + rm.locals ≤ R.locals))
    (isC : List Nat) (hC : isC.map (fun i => bs[i]?) = cb.map some) (hnd : va_nd isC = true) (hP : va_P E.1 vwCl bs.flatten H) (hD : va_D A bs.flatten) (hS : va_S A s.heap H locs)
    (hlsz : ls.size = nL) (hst : st = As.reverse ++ rest) (hcat : (rest.map fun v => v.category).sum ≤ 8) (hdg : decode cc pc = .ok (.invokestatic idx, 3)) (hf : cells + mc ≤ R.cells ∧ slots + ms ≤ R.slots) :
    va_Run p l e R s m args below meth c H locs cells slots mc ms (F0 m pc ls st) rest (Qc As.toArray) free := by
  obtain ⟨⟨w1, w2, w3, w5⟩, w6⟩ := w
  refine vx_runSW (As := As) (rest := rest) ⟨hx, hb, hml, hown, hts⟩ hM (vx_cwSW n hts (fun w hw => ?_) rfl hR.1.1 hR.1.2 w6 hR.2) ⟨PX_blind E H.size cb _, fun U hU hW => ⟨rfl, pb_of hK hZ hA hS hP hD hC hnd hU hW, DD.warm hW hDD⟩⟩ rfl hn hlsz hst (lv_room hcat) hdg hf
  unfold va_wsS at hw
  rcases List.mem_append.mp hw with hw | hw
  · simp only [List.mem_cons, List.not_mem_nil, or_false] at hw
    rcases hw with rfl | rfl | rfl
    · exact ⟨w1, tg_good w1⟩
    · exact ⟨w2, tg_good w2⟩
    · exact ⟨w3, tg_good w3⟩
  · rcases List.mem_cons.mp hw with rfl | hw
    · exact ⟨w5, tg_good w5⟩
    · exact ⟨hw, tg_good hw⟩
end XCW
theorem fJ_v {g : GG} {p0 p1 p2 p3 : Int32} : fJoin g p0 p1 p2 p3 = 0 ∨ fJoin g p0 p1 p2 p3 = 2 ∨ fJoin g p0 p1 p2 p3 = 3 := by unfold fJoin; (repeat' split) <;> omega
theorem fW_v {g : GG} {p0 p1 : Int32} : fWind g p0 p1 = 0 ∨ fWind g p0 p1 = 1 ∨ fWind g p0 p1 = 2 ∨ fWind g p0 p1 = 3 := by unfold fWind; (repeat' split) <;> omega
theorem fT_v {g : GG} {p0 p1 : Int32} : fTune g p0 p1 = 0 ∨ fTune g p0 p1 = 1 ∨ fTune g p0 p1 = 2 := by unfold fTune; (repeat' split) <;> omega
theorem fB_v {g : GG} {p0 p1 : Int32} : fBuy g p0 p1 = 0 ∨ fBuy g p0 p1 = 1 ∨ fBuy g p0 p1 = 2 ∨ fBuy g p0 p1 = 3 ∨ fBuy g p0 p1 = 4 := by unfold fBuy; (repeat' split) <;> omega
theorem fP_v {p0 : Int32} : fPass p0 = 0 ∨ fPass p0 = 2 := by unfold fPass; (repeat' split) <;> omega
theorem fM_v {p0 p1 : Int32} : fMot p0 p1 = 0 ∨ fMot p0 p1 = 2 := by unfold fMot; (repeat' split) <;> omega
theorem fQ_v {g : GG} : fPay g = 0 ∨ fPay g = 3 := by unfold fPay; (repeat' split) <;> omega
