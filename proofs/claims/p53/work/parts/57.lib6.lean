/-! calls of methods that may throw -/
section XCALL
variable {p : Program} {l : Launch} {e : Env} {R : Room} {s : State} {m : MethodId} {args : Array Value} {below : List Frame} {meth : Method} {c : Code} {H : Heap} {locs : List Loc} {cells slots : Nat} {Q : State → Prop} {cc : ByteArray} {pc : Nat} {ls : Array Slot} {st rest : List Value} {A : Nat → Prop}
variable {own C : String} {idx n ml nL mc ms bb ci N0 : Nat} {y : MethodName} {b : ByteArray} {rt : Option FieldType} {rm : Room} {As : List Value} {fs : List Value} {T0 : u_T} {E : EE} {bs cb : List va_W} {Qc : Array Value → State → Outcome → State → Prop} {free : Addr → Prop} {isC : List Nat}
variable {XC : String → State → State → Prop}
theorem run_XV (hx : p.tables.exec = Jvm.exec) (hb : c.code = cc) (hml : c.maxLocals = nL) (hown : s.vm.findClass own = some m.cls) (hts : ∀ w ∈ TG, w.before args s = true) (hK : va_K E.1 vwCl (tyl E.2.1) s) (hZ : ZZ E A s s.heap) (hDD : DD s) (hA : ∀ q, s.heap.size ≤ q → A q)
    (hM : vx_Met l y (Wd y b ml rt) rm (va_Pc (.ref bb :: As) (PX E H.size cb)) Qc XC mc ms free) (w : CWV own idx C y b ml rt n) (hn : As.length = n) (hR : (rm.cells = mc ∧ rm.slots = ms) ∧ (rm.frames + 1 ≤ R.frames ∧ 8 + (ml + 11) + rm.locals ≤ R.locals))
    (ci : Nat) (hc : vwCl[ci]? = some (C, T0, N0)) (isC : List Nat) (hC : isC.map (fun i => bs[i]?) = cb.map some) (hnd : va_nd isC = true) (he : cb.flatten[0]? = some (bb, .inr (ci, fs))) (hP : va_P E.1 vwCl bs.flatten H) (hD : va_D A bs.flatten) (hS : va_S A s.heap H locs)
    (hlsz : ls.size = nL) (hst : st = As.reverse ++ .ref bb :: rest) (hcat : (rest.map fun v => v.category).sum ≤ 8) (hdg : decode cc pc = .ok (.invokevirtual idx, 3)) (hf : cells + mc ≤ R.cells ∧ slots + ms ≤ R.slots) :
    vx_Run p l e R s m args below meth c H locs cells slots mc ms (F0 m pc ls st) rest (Qc (Value.ref bb :: As).toArray) XC free := by
  obtain ⟨⟨w1, w2, w3, w4, w5⟩, w6⟩ := w
  refine vx_runV (As := As) (rest := rest) ⟨hx, hb, hml, hown, hts⟩ hM (cwV n hts (fun w hw => ?_) rfl hR.1.1 hR.1.2 w6 hR.2) ⟨PX_blind E H.size cb _, va_recv hK (bk_P hC hP) hc he, fun U hU hW => ⟨rfl, pb_of hK hZ hA hS hP hD hC hnd hU hW, DD.warm hW hDD⟩⟩ rfl hn hlsz hst (lv_room hcat) hdg hf
  rcases List.mem_append.mp hw with hw | hw
  · simp only [List.mem_cons, List.not_mem_nil, or_false] at hw
    rcases hw with rfl | rfl | rfl | rfl
    · exact ⟨w1, tg_good w1⟩
    · exact ⟨w2, tg_good w2⟩
    · exact ⟨w3, tg_good w3⟩
    · exact ⟨w4, tg_good w4⟩
  · exact tg_in w5 w hw
theorem run_XS (hx : p.tables.exec = Jvm.exec) (hb : c.code = cc) (hml : c.maxLocals = nL) (hown : s.vm.findClass own = some m.cls) (hts : ∀ w ∈ TG, w.before args s = true) (hK : va_K E.1 vwCl (tyl E.2.1) s) (hZ : ZZ E A s s.heap) (hDD : DD s) (hA : ∀ q, s.heap.size ≤ q → A q)
    (hM : vx_Met l y (Wd y b ml rt) rm (va_Pc As (PX E H.size cb)) Qc XC mc ms free) (w : CWS own idx y b ml rt n) (hn : As.length = n) (hR : (rm.cells = mc ∧ rm.slots = ms) ∧ (rm.frames + 1 ≤ R.frames ∧ 8 + (ml + 11) + rm.locals ≤ R.locals))
    (isC : List Nat) (hC : isC.map (fun i => bs[i]?) = cb.map some) (hnd : va_nd isC = true) (hP : va_P E.1 vwCl bs.flatten H) (hD : va_D A bs.flatten) (hS : va_S A s.heap H locs)
    (hlsz : ls.size = nL) (hst : st = As.reverse ++ rest) (hcat : (rest.map fun v => v.category).sum ≤ 8) (hdg : decode cc pc = .ok (.invokestatic idx, 3)) (hf : cells + mc ≤ R.cells ∧ slots + ms ≤ R.slots) :
    vx_Run p l e R s m args below meth c H locs cells slots mc ms (F0 m pc ls st) rest (Qc As.toArray) XC free := by
  obtain ⟨⟨w1, w2, w3, w5⟩, w6⟩ := w
  exact vx_runS (As := As) (rest := rest) ⟨hx, hb, hml, hown, hts⟩ hM ⟨callB_of n hts (tg_in w5) rfl hR.1.1 hR.1.2 (hts _ w3) (hts _ w1) w6 hR.2, hts _ w2⟩ ⟨PX_blind E H.size cb _, fun U hU hW => ⟨rfl, pb_of hK hZ hA hS hP hD hC hnd hU hW, DD.warm hW hDD⟩⟩ rfl hn hlsz hst (lv_room hcat) hdg hf
theorem run_xi {S SX : Type} {post : Int32 → S → Prop} {px : String → SX → Prop} {cb' : S → List va_W} {cx : SX → List va_W} {a : Array Value} (hr : vx_Run p l e R s m args below meth c H locs cells slots mc ms (F0 m pc ls st) rest (va_Qi post (fun u t => QB E (va_A cb.flatten H.size) (cb' u) t) (va_A cb.flatten H.size) a) (XC9 E H.size cb px cx) (va_A cb.flatten H.size))
    (hA : ∀ q, s.heap.size ≤ q → A q) (hP : va_P E.1 vwCl bs.flatten H) (hD : va_D A bs.flatten) (hS : va_S A s.heap H locs) (hC : isC.map (fun i => bs[i]?) = cb.map some) (isR ks : List Nat) {br : List va_W} {bs2 : S → List va_W} {bx2 : SX → List va_W} (hR : isR.map (fun i => bs[i]?) = br.map some) (hn : va_nd (isC ++ isR) = true)
    (hk : ∀ u, ks.map (fun i => (br ++ cb' u)[i]?) = (bs2 u).map some) (hkx : ∀ u, ks.map (fun i => (br ++ cx u)[i]?) = (bx2 u).map some) (hk2 : va_nd ks = true)
    (kx : ∀ (Ex : String) (ce : Cell) (q : Addr) (u : SX) (H1 : Heap) (locs1 : List Loc), px Ex u → va_P E.1 vwCl (bx2 u).flatten H1 → va_D A (bx2 u).flatten → va_S A s.heap H1 locs1 → H1[q]? = some ce → ce.vm = .none → s.vm.findClass Ex = some ce.cls → vx_W p l e R s m args below meth c H1 locs1 (cells + mc) (slots + ms) Q (F0 m pc ls rest) q)
    (kk : ∀ (r : Int32) (u : S) (H1 : Heap) (locs1 : List Loc), post r u → va_P E.1 vwCl (bs2 u).flatten H1 → va_D A (bs2 u).flatten → va_S A s.heap H1 locs1 → W p l e R s m args below meth c H1 locs1 (cells + mc) (slots + ms) Q (F0 m (pc + 3) ls (.int r :: rest))) : W p l e R s m args below meth c H locs cells slots Q (F0 m pc ls st) := by
  have hF := bk_free hC hD hS hA
  refine vx_calli hr hS (fun q _ h => hF q h) hF (fun q _ h => hF q h) (fun Ex ce q u t H1 locs1 ht hvm _ hB hz1 hk1 hS1 h1 h2 h3 => ?_) (fun r u t H1 locs1 ht hvm hw hB hz1 hk1 hS1 => ?_)
  · obtain ⟨hpx, hP1, -, hD1⟩ := hB
    rw [ht] at hP1
    obtain ⟨g1, g2⟩ := bk_call hC hR hn (hkx u) hk2 hP hD hk1 hF hP1 hD1
    exact kx Ex ce q u H1 locs1 hpx g1 g2 hS1 h1 h2 h3
  · obtain ⟨hP1, -, hD1⟩ := hB
    rw [ht] at hP1
    obtain ⟨g1, g2⟩ := bk_call hC hR hn (hk u) hk2 hP hD hk1 hF hP1 hD1
    exact kk r u H1 locs1 hw g1 g2 hS1
theorem run_xl {S SX : Type} {post : Int64 → S → Prop} {px : String → SX → Prop} {cb' : S → List va_W} {cx : SX → List va_W} {a : Array Value} (hr : vx_Run p l e R s m args below meth c H locs cells slots mc ms (F0 m pc ls st) rest (va_Ql post (fun u t => QB E (va_A cb.flatten H.size) (cb' u) t) (va_A cb.flatten H.size) a) (XC9 E H.size cb px cx) (va_A cb.flatten H.size))
    (hA : ∀ q, s.heap.size ≤ q → A q) (hP : va_P E.1 vwCl bs.flatten H) (hD : va_D A bs.flatten) (hS : va_S A s.heap H locs) (hC : isC.map (fun i => bs[i]?) = cb.map some) (isR ks : List Nat) {br : List va_W} {bs2 : S → List va_W} {bx2 : SX → List va_W} (hR : isR.map (fun i => bs[i]?) = br.map some) (hn : va_nd (isC ++ isR) = true)
    (hk : ∀ u, ks.map (fun i => (br ++ cb' u)[i]?) = (bs2 u).map some) (hkx : ∀ u, ks.map (fun i => (br ++ cx u)[i]?) = (bx2 u).map some) (hk2 : va_nd ks = true)
    (kx : ∀ (Ex : String) (ce : Cell) (q : Addr) (u : SX) (H1 : Heap) (locs1 : List Loc), px Ex u → va_P E.1 vwCl (bx2 u).flatten H1 → va_D A (bx2 u).flatten → va_S A s.heap H1 locs1 → H1[q]? = some ce → ce.vm = .none → s.vm.findClass Ex = some ce.cls → vx_W p l e R s m args below meth c H1 locs1 (cells + mc) (slots + ms) Q (F0 m pc ls rest) q)
    (kk : ∀ (r : Int64) (u : S) (H1 : Heap) (locs1 : List Loc), post r u → va_P E.1 vwCl (bs2 u).flatten H1 → va_D A (bs2 u).flatten → va_S A s.heap H1 locs1 → W p l e R s m args below meth c H1 locs1 (cells + mc) (slots + ms) Q (F0 m (pc + 3) ls (.long r :: rest))) : W p l e R s m args below meth c H locs cells slots Q (F0 m pc ls st) := by
  have hF := bk_free hC hD hS hA
  refine vx_calll hr hS (fun q _ h => hF q h) hF (fun q _ h => hF q h) (fun Ex ce q u t H1 locs1 ht hvm _ hB hz1 hk1 hS1 h1 h2 h3 => ?_) (fun r u t H1 locs1 ht hvm hw hB hz1 hk1 hS1 => ?_)
  · obtain ⟨hpx, hP1, -, hD1⟩ := hB
    rw [ht] at hP1
    obtain ⟨g1, g2⟩ := bk_call hC hR hn (hkx u) hk2 hP hD hk1 hF hP1 hD1
    exact kx Ex ce q u H1 locs1 hpx g1 g2 hS1 h1 h2 h3
  · obtain ⟨hP1, -, hD1⟩ := hB
    rw [ht] at hP1
    obtain ⟨g1, g2⟩ := bk_call hC hR hn (hk u) hk2 hP hD hk1 hF hP1 hD1
    exact kk r u H1 locs1 hw g1 g2 hS1
theorem run_xd {S SX : Type} {post : UInt64 → S → Prop} {px : String → SX → Prop} {cb' : S → List va_W} {cx : SX → List va_W} {a : Array Value} (hr : vx_Run p l e R s m args below meth c H locs cells slots mc ms (F0 m pc ls st) rest (va_Qd post (fun u t => QB E (va_A cb.flatten H.size) (cb' u) t) (va_A cb.flatten H.size) a) (XC9 E H.size cb px cx) (va_A cb.flatten H.size))
    (hA : ∀ q, s.heap.size ≤ q → A q) (hP : va_P E.1 vwCl bs.flatten H) (hD : va_D A bs.flatten) (hS : va_S A s.heap H locs) (hC : isC.map (fun i => bs[i]?) = cb.map some) (isR ks : List Nat) {br : List va_W} {bs2 : S → List va_W} {bx2 : SX → List va_W} (hR : isR.map (fun i => bs[i]?) = br.map some) (hn : va_nd (isC ++ isR) = true)
    (hk : ∀ u, ks.map (fun i => (br ++ cb' u)[i]?) = (bs2 u).map some) (hkx : ∀ u, ks.map (fun i => (br ++ cx u)[i]?) = (bx2 u).map some) (hk2 : va_nd ks = true)
    (kx : ∀ (Ex : String) (ce : Cell) (q : Addr) (u : SX) (H1 : Heap) (locs1 : List Loc), px Ex u → va_P E.1 vwCl (bx2 u).flatten H1 → va_D A (bx2 u).flatten → va_S A s.heap H1 locs1 → H1[q]? = some ce → ce.vm = .none → s.vm.findClass Ex = some ce.cls → vx_W p l e R s m args below meth c H1 locs1 (cells + mc) (slots + ms) Q (F0 m pc ls rest) q)
    (kk : ∀ (r : UInt64) (u : S) (H1 : Heap) (locs1 : List Loc), post r u → va_P E.1 vwCl (bs2 u).flatten H1 → va_D A (bs2 u).flatten → va_S A s.heap H1 locs1 → W p l e R s m args below meth c H1 locs1 (cells + mc) (slots + ms) Q (F0 m (pc + 3) ls (.double r :: rest))) : W p l e R s m args below meth c H locs cells slots Q (F0 m pc ls st) := by
  have hF := bk_free hC hD hS hA
  refine vx_calld hr hS (fun q _ h => hF q h) hF (fun q _ h => hF q h) (fun Ex ce q u t H1 locs1 ht hvm _ hB hz1 hk1 hS1 h1 h2 h3 => ?_) (fun r u t H1 locs1 ht hvm hw hB hz1 hk1 hS1 => ?_)
  · obtain ⟨hpx, hP1, -, hD1⟩ := hB
    rw [ht] at hP1
    obtain ⟨g1, g2⟩ := bk_call hC hR hn (hkx u) hk2 hP hD hk1 hF hP1 hD1
    exact kx Ex ce q u H1 locs1 hpx g1 g2 hS1 h1 h2 h3
  · obtain ⟨hP1, -, hD1⟩ := hB
    rw [ht] at hP1
    obtain ⟨g1, g2⟩ := bk_call hC hR hn (hk u) hk2 hP hD hk1 hF hP1 hD1
    exact kk r u H1 locs1 hw g1 g2 hS1
theorem run_xf {S SX : Type} {post : UInt32 → S → Prop} {px : String → SX → Prop} {cb' : S → List va_W} {cx : SX → List va_W} {a : Array Value} (hr : vx_Run p l e R s m args below meth c H locs cells slots mc ms (F0 m pc ls st) rest (va_Qf post (fun u t => QB E (va_A cb.flatten H.size) (cb' u) t) (va_A cb.flatten H.size) a) (XC9 E H.size cb px cx) (va_A cb.flatten H.size))
    (hA : ∀ q, s.heap.size ≤ q → A q) (hP : va_P E.1 vwCl bs.flatten H) (hD : va_D A bs.flatten) (hS : va_S A s.heap H locs) (hC : isC.map (fun i => bs[i]?) = cb.map some) (isR ks : List Nat) {br : List va_W} {bs2 : S → List va_W} {bx2 : SX → List va_W} (hR : isR.map (fun i => bs[i]?) = br.map some) (hn : va_nd (isC ++ isR) = true)
    (hk : ∀ u, ks.map (fun i => (br ++ cb' u)[i]?) = (bs2 u).map some) (hkx : ∀ u, ks.map (fun i => (br ++ cx u)[i]?) = (bx2 u).map some) (hk2 : va_nd ks = true)
    (kx : ∀ (Ex : String) (ce : Cell) (q : Addr) (u : SX) (H1 : Heap) (locs1 : List Loc), px Ex u → va_P E.1 vwCl (bx2 u).flatten H1 → va_D A (bx2 u).flatten → va_S A s.heap H1 locs1 → H1[q]? = some ce → ce.vm = .none → s.vm.findClass Ex = some ce.cls → vx_W p l e R s m args below meth c H1 locs1 (cells + mc) (slots + ms) Q (F0 m pc ls rest) q)
    (kk : ∀ (r : UInt32) (u : S) (H1 : Heap) (locs1 : List Loc), post r u → va_P E.1 vwCl (bs2 u).flatten H1 → va_D A (bs2 u).flatten → va_S A s.heap H1 locs1 → W p l e R s m args below meth c H1 locs1 (cells + mc) (slots + ms) Q (F0 m (pc + 3) ls (.float r :: rest))) : W p l e R s m args below meth c H locs cells slots Q (F0 m pc ls st) := by
  have hF := bk_free hC hD hS hA
  refine vx_callf hr hS (fun q _ h => hF q h) hF (fun q _ h => hF q h) (fun Ex ce q u t H1 locs1 ht hvm _ hB hz1 hk1 hS1 h1 h2 h3 => ?_) (fun r u t H1 locs1 ht hvm hw hB hz1 hk1 hS1 => ?_)
  · obtain ⟨hpx, hP1, -, hD1⟩ := hB
    rw [ht] at hP1
    obtain ⟨g1, g2⟩ := bk_call hC hR hn (hkx u) hk2 hP hD hk1 hF hP1 hD1
    exact kx Ex ce q u H1 locs1 hpx g1 g2 hS1 h1 h2 h3
  · obtain ⟨hP1, -, hD1⟩ := hB
    rw [ht] at hP1
    obtain ⟨g1, g2⟩ := bk_call hC hR hn (hk u) hk2 hP hD hk1 hF hP1 hD1
    exact kk r u H1 locs1 hw g1 g2 hS1
theorem run_xv {S SX : Type} {post : S → Prop} {px : String → SX → Prop} {cb' : S → List va_W} {cx : SX → List va_W} {a : Array Value} (hr : vx_Run p l e R s m args below meth c H locs cells slots mc ms (F0 m pc ls st) rest (va_Qv post (fun u t => QB E (va_A cb.flatten H.size) (cb' u) t) (va_A cb.flatten H.size) a) (XC9 E H.size cb px cx) (va_A cb.flatten H.size))
    (hA : ∀ q, s.heap.size ≤ q → A q) (hP : va_P E.1 vwCl bs.flatten H) (hD : va_D A bs.flatten) (hS : va_S A s.heap H locs) (hC : isC.map (fun i => bs[i]?) = cb.map some) (isR ks : List Nat) {br : List va_W} {bs2 : S → List va_W} {bx2 : SX → List va_W} (hR : isR.map (fun i => bs[i]?) = br.map some) (hn : va_nd (isC ++ isR) = true)
    (hk : ∀ u, ks.map (fun i => (br ++ cb' u)[i]?) = (bs2 u).map some) (hkx : ∀ u, ks.map (fun i => (br ++ cx u)[i]?) = (bx2 u).map some) (hk2 : va_nd ks = true)
    (kx : ∀ (Ex : String) (ce : Cell) (q : Addr) (u : SX) (H1 : Heap) (locs1 : List Loc), px Ex u → va_P E.1 vwCl (bx2 u).flatten H1 → va_D A (bx2 u).flatten → va_S A s.heap H1 locs1 → H1[q]? = some ce → ce.vm = .none → s.vm.findClass Ex = some ce.cls → vx_W p l e R s m args below meth c H1 locs1 (cells + mc) (slots + ms) Q (F0 m pc ls rest) q)
    (kk : ∀ (u : S) (H1 : Heap) (locs1 : List Loc), post u → va_P E.1 vwCl (bs2 u).flatten H1 → va_D A (bs2 u).flatten → va_S A s.heap H1 locs1 → W p l e R s m args below meth c H1 locs1 (cells + mc) (slots + ms) Q (F0 m (pc + 3) ls (rest))) : W p l e R s m args below meth c H locs cells slots Q (F0 m pc ls st) := by
  have hF := bk_free hC hD hS hA
  refine vx_callv hr hS (fun q _ h => hF q h) hF (fun q _ h => hF q h) (fun Ex ce q u t H1 locs1 ht hvm _ hB hz1 hk1 hS1 h1 h2 h3 => ?_) (fun u t H1 locs1 ht hvm hw hB hz1 hk1 hS1 => ?_)
  · obtain ⟨hpx, hP1, -, hD1⟩ := hB
    rw [ht] at hP1
    obtain ⟨g1, g2⟩ := bk_call hC hR hn (hkx u) hk2 hP hD hk1 hF hP1 hD1
    exact kx Ex ce q u H1 locs1 hpx g1 g2 hS1 h1 h2 h3
  · obtain ⟨hP1, -, hD1⟩ := hB
    rw [ht] at hP1
    obtain ⟨g1, g2⟩ := bk_call hC hR hn (hk u) hk2 hP hD hk1 hF hP1 hD1
    exact kk u H1 locs1 hw g1 g2 hS1
theorem run_d {S : Type} {post : UInt64 → S → Prop} {cb' : S → List va_W} {a : Array Value} (hr : va_Run p l e R s m args below meth c H locs cells slots mc ms (F0 m pc ls st) rest (va_Qd post (fun u t => QB E (va_A cb.flatten H.size) (cb' u) t) (va_A cb.flatten H.size) a) (va_A cb.flatten H.size))
    (hA : ∀ q, s.heap.size ≤ q → A q) (hP : va_P E.1 vwCl bs.flatten H) (hD : va_D A bs.flatten) (hS : va_S A s.heap H locs) (hC : isC.map (fun i => bs[i]?) = cb.map some) (isR ks : List Nat) {br : List va_W} {bs2 : S → List va_W} (hR : isR.map (fun i => bs[i]?) = br.map some) (hn : va_nd (isC ++ isR) = true)
    (hk : ∀ u, ks.map (fun i => (br ++ cb' u)[i]?) = (bs2 u).map some) (hk2 : va_nd ks = true)
    (kk : ∀ (r : UInt64) (u : S) (H1 : Heap) (locs1 : List Loc), post r u → va_P E.1 vwCl (bs2 u).flatten H1 → va_D A (bs2 u).flatten → va_S A s.heap H1 locs1 → W p l e R s m args below meth c H1 locs1 (cells + mc) (slots + ms) Q (F0 m (pc + 3) ls (.double r :: rest))) : W p l e R s m args below meth c H locs cells slots Q (F0 m pc ls st) := by
  have hF := bk_free hC hD hS hA
  refine va_calld hr hS (fun q _ h => hF q h) hF (fun r u t H1 locs1 ht hvm hw hB hz1 hk1 hS1 => ?_)
  obtain ⟨hP1, -, hD1⟩ := hB
  rw [ht] at hP1
  obtain ⟨g1, g2⟩ := bk_call hC hR hn (hk u) hk2 hP hD hk1 hF hP1 hD1
  exact kk r u H1 locs1 hw g1 g2 hS1
theorem run_f {S : Type} {post : UInt32 → S → Prop} {cb' : S → List va_W} {a : Array Value} (hr : va_Run p l e R s m args below meth c H locs cells slots mc ms (F0 m pc ls st) rest (va_Qf post (fun u t => QB E (va_A cb.flatten H.size) (cb' u) t) (va_A cb.flatten H.size) a) (va_A cb.flatten H.size))
    (hA : ∀ q, s.heap.size ≤ q → A q) (hP : va_P E.1 vwCl bs.flatten H) (hD : va_D A bs.flatten) (hS : va_S A s.heap H locs) (hC : isC.map (fun i => bs[i]?) = cb.map some) (isR ks : List Nat) {br : List va_W} {bs2 : S → List va_W} (hR : isR.map (fun i => bs[i]?) = br.map some) (hn : va_nd (isC ++ isR) = true)
    (hk : ∀ u, ks.map (fun i => (br ++ cb' u)[i]?) = (bs2 u).map some) (hk2 : va_nd ks = true)
    (kk : ∀ (r : UInt32) (u : S) (H1 : Heap) (locs1 : List Loc), post r u → va_P E.1 vwCl (bs2 u).flatten H1 → va_D A (bs2 u).flatten → va_S A s.heap H1 locs1 → W p l e R s m args below meth c H1 locs1 (cells + mc) (slots + ms) Q (F0 m (pc + 3) ls (.float r :: rest))) : W p l e R s m args below meth c H locs cells slots Q (F0 m pc ls st) := by
  have hF := bk_free hC hD hS hA
  refine va_callf hr hS (fun q _ h => hF q h) hF (fun r u t H1 locs1 ht hvm hw hB hz1 hk1 hS1 => ?_)
  obtain ⟨hP1, -, hD1⟩ := hB
  rw [ht] at hP1
  obtain ⟨g1, g2⟩ := bk_call hC hR hn (hk u) hk2 hP hD hk1 hF hP1 hD1
  exact kk r u H1 locs1 hw g1 g2 hS1
end XCALL
