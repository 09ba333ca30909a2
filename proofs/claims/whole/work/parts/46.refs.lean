/-! methods that answer a reference: the address is a constant's -/
abbrev MR (l : Launch) (y : MethodName) (b : ByteArray) (ml : Nat) (rt : FieldType) (rm : Room) (Args : List Value) (E : EE) (sz : Nat) (bs : List va_W) (ra : Nat) (bs' : List va_W) (mc ms : Nat) : Prop :=
  Met l y (Wd y b ml (some rt)) rm (va_Pc Args (PB E sz bs)) (va_Qr (S := Unit) (fun _ => True) (fun _ a t => a = ra ∧ QB E (va_A bs.flatten sz) bs' t) (va_A bs.flatten sz)) mc ms (va_A bs.flatten sz)
section RR
variable {p : Program} {l : Launch} {e : Env} {R : Room} {s : State} {m : MethodId} {args : Array Value} {below : List Frame} {meth : Method} {c : Code} {H : Heap} {locs : List Loc} {cells slots : Nat} {Q : State → Prop} {cc : ByteArray} {pc : Nat} {ls : Array Slot} {st rest : List Value} {A : Nat → Prop}
variable {mc ms : Nat} {E : EE} {bs cb : List va_W} {isC : List Nat}
theorem run_r {cb' : List va_W} {ra : Nat} {a : Array Value} (hr : va_Run p l e R s m args below meth c H locs cells slots mc ms (F0 m pc ls st) rest (va_Qr (S := Unit) (fun _ => True) (fun _ x t => x = ra ∧ QB E (va_A cb.flatten H.size) cb' t) (va_A cb.flatten H.size) a) (va_A cb.flatten H.size))
    (hA : ∀ q, s.heap.size ≤ q → A q) (hP : va_P E.1 vwCl bs.flatten H) (hD : va_D A bs.flatten) (hS : va_S A s.heap H locs) (hC : isC.map (fun i => bs[i]?) = cb.map some) (isR ks : List Nat) {br : List va_W} {bs2 : List va_W} (hR : isR.map (fun i => bs[i]?) = br.map some) (hn : va_nd (isC ++ isR) = true)
    (hk : ks.map (fun i => (br ++ cb')[i]?) = bs2.map some) (hk2 : va_nd ks = true)
    (kk : ∀ (H1 : Heap) (locs1 : List Loc), va_P E.1 vwCl bs2.flatten H1 → va_D A bs2.flatten → va_S A s.heap H1 locs1 → W p l e R s m args below meth c H1 locs1 (cells + mc) (slots + ms) Q (F0 m (pc + 3) ls (.ref ra :: rest))) : W p l e R s m args below meth c H locs cells slots Q (F0 m pc ls st) := by
  have hF := bk_free hC hD hS hA
  refine va_callr hr hS (fun q _ h => hF q h) hF (fun u x t H1 locs1 ht hvm hw hB hz1 hk1 hS1 => ?_)
  obtain ⟨rfl, hP1, -, hD1⟩ := hB
  rw [ht] at hP1
  obtain ⟨g1, g2⟩ := bk_call hC hR hn hk hk2 hP hD hk1 hF hP1 hD1
  exact kk H1 locs1 g1 g2 hS1
end RR
