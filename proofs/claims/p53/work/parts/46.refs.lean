/-! methods that answer a reference: the address is a constant's -/
abbrev MR (l : Launch) (y : MethodName) (b : ByteArray) (ml : Nat) (rt : FieldType) (rm : Room) (Args : List Value) (E : EE) (sz : Nat) (bs : List va_W) (ra : Nat) (bs' : List va_W) (mc ms : Nat) : Prop :=
  Met l y (Wd y b ml (some rt)) rm (va_Pc Args (PB E sz bs)) (va_Qr (S := Unit) (fun _ => True) (fun _ a t => a = ra ∧ QB E (va_A bs.flatten sz) bs' t) (va_A bs.flatten sz)) mc ms (va_A bs.flatten sz)
section RR
variable {p : Program} {l : Launch} {e : Env} {R : Room} {s : State} {m : MethodId} {args : Array Value} {below : List Frame} {meth : Method} {c : Code} {H : Heap} {locs : List Loc} {cells slots : Nat} {Q : State → Prop} {cc : ByteArray} {pc : Nat} {ls : Array Slot} {st rest : List Value} {A : Nat → Prop}
variable {mc ms : Nat} {E : EE} {bs cb : List va_W} {isC : List Nat}
theorem run_r {cb' : List va_W} {ra : Nat} {a : Array Value} (hr : va_Run p l e R s m args below meth c H locs cells slots mc ms (F0 m pc ls st) rest (va_Qr (S := Unit) (fun _ => True) (fun _ x t => x = ra ∧ QB E (va_A cb.flatten H.size) cb' t) (va_A cb.flatten H.size) a) (va_A cb.flatten H.size))
    (hA : ∀ q, s.heap.size ≤ q → A q) (hP : va_P E.1 vwCl bs.flatten H) (hD : va_D A bs.flatten) (hS : va_S A s.heap H locs) (hC : isC.map (fun i => bs[i]?) = cb.map some) (isR ks : List Nat) {br : List va_W} {bs2 : List va_W} (hR : isR.map (fun i => bs[i]?) = br.map some) (hn : va_nd (isC ++ isR) = true)
    (hk : ks.map (fun i => (br ++ cb')[i]?) = bs2.map some) (hk2 : va_nd ks = true)
    (kk : ∀ (H1 : Heap) (locs1 : List Loc), va_P E.1 vwCl bs2.flatten H1 → va_D A bs2.flatten → va_S A s.heap H1 locs1 → W p l e R s m args below meth c H1 locs1 (cells + mc) (slots + ms) Q (F0 m (pc + 3) ls (.ref ra :: rest))) : W p l e R s m args below meth c H locs cells slots Q (F0 m pc ls st) := by
  have hF := bk_free hC hD hS hA
  refine va_callr hr hS (fun q _ h => hF q h) hF (fun u x t H1 locs1 ht hvm hw hB hz1 hk1 hS1 => ?_)
  obtain ⟨rfl, hP1, -, hD1⟩ := hB
  rw [ht] at hP1
  obtain ⟨g1, g2⟩ := bk_call hC hR hn hk hk2 hP hD hk1 hF hP1 hD1
  exact kk H1 locs1 g1 g2 hS1
end RR
section GOR
variable {l : Launch} {y : MethodName} {cc : ByteArray} {ml : Nat} {rt : FieldType} {rm : Room} {Args : List Value} {E : EE} {sz : Nat} {bs : List va_W} {bs' : List va_W} {mc ms ra : Nat}
theorem mr_go (hy : plainName y.cls = true) (hlen : (lg_sl Args).length ≤ ml) (hrt : (∃ n, rt = .object n) ∨ ∃ t, rt = .array t)
    (body : ∀ (p : Program) (e : Env) (s : State) (m : MethodId) (below : List Frame) (meth : Method) (c : Code) (A : Nat → Prop) (Q : State → Prop) (ls : Array Slot), p.tables.exec = Jvm.exec → c.code = cc → c.maxLocals = ml → s.vm.findClass y.cls = some m.cls → (∀ w ∈ TG, w.before Args.toArray s = true) → va_K E.1 vwCl (tyl E.2.1) s → ZZ E A s s.heap → (∀ q, s.heap.size ≤ q → A q) → s.heap.size = sz → va_P E.1 vwCl bs.flatten s.heap → va_D A bs.flatten → lv_has ls ml (lv_args 0 Args) →
      (∀ (H : Heap) (locs : List Loc) (pc : Nat) (ls : Array Slot), va_P E.1 vwCl bs'.flatten H → va_D A bs'.flatten → va_S A s.heap H locs → decode cc pc = .ok (.areturn, 1) → W p l e rm s m Args.toArray below meth c H locs mc ms Q (F0 m pc ls [.ref ra])) →
      W p l e rm s m Args.toArray below meth c s.heap [] 0 0 Q (F0 m 0 ls [])) : MR l y cc ml rt rm Args E sz bs ra bs' mc ms := by
  refine Met.ofW (cc := cc) (maxL := ml) (ret := some rt) hy rfl ?_
  intro p e s m args below meth c s₁ B hml hv
  obtain ⟨rfl, hsz, hP, hK, hD0, hZ⟩ := hv
  rw [lg_entry_eq]
  refine body p e s m below meth c (va_A bs.flatten sz) _ _ B.exec B.bytes hml (findClass_of_methodNamed B.named) (fun w hw => atoms_spec B.pre w (List.mem_cons_of_mem _ hw)) hK hZ (fun q hq => Or.inr (by rw [← hsz]; exact hq)) hsz hP hD0.self (lv_entry Args hlen) ?_
  intro H locs pc ls hP' hD' hS' hdg
  exact W.aret B.exec B.bytes B.returns hrt (Or.inr ⟨ra, rfl⟩) (fun t ht hW => ⟨⟨(), ra, rfl, trivial, rfl, by rw [ht]; exact hP', va_K.moved hW.alike hK, hD'⟩, hS'.F ht⟩) hS'.2.2 hdg B.notSynchronized
end GOR
