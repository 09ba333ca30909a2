/-! due beats by doubling -/
def pat (f p : Nat) : Nat → Nat
  | 0 => 1 * 2 ^ f
  | d + 1 => pat f p d ||| (pat f p d * 2 ^ (p * 2 ^ d)) % 2 ^ 64
theorem pat_lt {f p : Nat} (hf : f < 64) : ∀ {d : Nat}, pat f p d < 2 ^ 64
  | 0 => by show 1 * 2 ^ f < 2 ^ 64; rw [Nat.one_mul]; exact Nat.pow_lt_pow_right (by decide) hf
  | d + 1 => Nat.or_lt_two_pow (pat_lt hf) (Nat.mod_lt _ (by decide))
theorem pat_bit {f p : Nat} (hf : f < p) (hp : p ≤ 12) : ∀ {d k : Nat}, k < 64 → (pat f p d).testBit k = decide (k < p * 2 ^ d ∧ k % p = f)
  | 0, k, hk => by
    show (1 * 2 ^ f).testBit k = _
    rw [Nat.one_mul, Nat.testBit_two_pow]
    by_cases e : f = k
    · subst e
      rw [decide_eq_true rfl, decide_eq_true ⟨by simpa using hf, Nat.mod_eq_of_lt hf⟩]
    · rw [decide_eq_false e]
      symm
      refine decide_eq_false (fun q => e ?_)
      have h1 : k < p := by simpa using q.1
      have h2 := q.2
      rw [Nat.mod_eq_of_lt h1] at h2
      exact h2.symm
  | d + 1, k, hk => by
    have h2 : p * 2 ^ (d + 1) = p * 2 ^ d + p * 2 ^ d := by rw [Nat.pow_succ, ← Nat.mul_assoc]; omega
    show (pat f p d ||| (pat f p d * 2 ^ (p * 2 ^ d)) % 2 ^ 64).testBit k = _
    rw [Nat.testBit_or, Nat.testBit_mod_two_pow, Nat.testBit_mul_two_pow, pat_bit hf hp hk, h2]
    by_cases g : p * 2 ^ d ≤ k
    · rw [pat_bit hf hp (show k - p * 2 ^ d < 64 by omega)]
      have hm : (k - p * 2 ^ d) % p = k % p := by
        rw [← Nat.add_mul_mod_self_left (k - p * 2 ^ d) p (2 ^ d), Nat.sub_add_cancel g]
      rw [hm, decide_eq_true hk, decide_eq_true g]
      by_cases z : k % p = f
      · by_cases y : k < p * 2 ^ d + p * 2 ^ d
        · rw [decide_eq_true (show k - p * 2 ^ d < p * 2 ^ d ∧ k % p = f from ⟨by omega, z⟩), decide_eq_true (show k < p * 2 ^ d + p * 2 ^ d ∧ k % p = f from ⟨y, z⟩)]
          simp
        · rw [decide_eq_false (show ¬ (k - p * 2 ^ d < p * 2 ^ d ∧ k % p = f) from fun q => y (by omega)), decide_eq_false (show ¬ (k < p * 2 ^ d + p * 2 ^ d ∧ k % p = f) from fun q => y q.1), decide_eq_false (show ¬ (k < p * 2 ^ d ∧ k % p = f) from fun q => y (by omega))]
          simp
      · rw [decide_eq_false (show ¬ (k - p * 2 ^ d < p * 2 ^ d ∧ k % p = f) from fun q => z q.2), decide_eq_false (show ¬ (k < p * 2 ^ d + p * 2 ^ d ∧ k % p = f) from fun q => z q.2), decide_eq_false (show ¬ (k < p * 2 ^ d ∧ k % p = f) from fun q => z q.2)]
        simp
    · rw [decide_eq_false g]
      by_cases z : k % p = f
      · rw [decide_eq_true (show k < p * 2 ^ d ∧ k % p = f from ⟨by omega, z⟩), decide_eq_true (show k < p * 2 ^ d + p * 2 ^ d ∧ k % p = f from ⟨by omega, z⟩)]
        simp
      · rw [decide_eq_false (show ¬ (k < p * 2 ^ d ∧ k % p = f) from fun q => z q.2), decide_eq_false (show ¬ (k < p * 2 ^ d + p * 2 ^ d ∧ k % p = f) from fun q => z q.2)]
        simp
theorem dlk_bit {g : GG} {m : Nat} : ∀ {n k : Nat}, (dlk g m n).testBit k = (decide (k < n) && dueB g m (g 8 1 + 1 + k))
  | 0, k => by
    show Nat.testBit 0 k = _
    rw [Nat.zero_testBit]
    simp
  | n + 1, k => by
    show (if dueB g m (g 8 1 + 1 + n) then dlk g m n ||| 1 * 2 ^ n else dlk g m n).testBit k = _
    by_cases e : n = k
    · subst e
      by_cases h : dueB g m (g 8 1 + 1 + n) = true
      · rw [if_pos h, Nat.testBit_or, Nat.one_mul, Nat.testBit_two_pow, h]; simp
      · rw [if_neg h, dlk_bit]; simp [h]
    · by_cases h : dueB g m (g 8 1 + 1 + n) = true
      · rw [if_pos h, Nat.testBit_or, Nat.one_mul, Nat.testBit_two_pow, decide_eq_false e, dlk_bit, Bool.or_false]
        by_cases q : k < n
        · rw [decide_eq_true q, decide_eq_true (show k < n + 1 by omega)]
        · rw [decide_eq_false q, decide_eq_false (show ¬ k < n + 1 by omega)]
      · rw [if_neg h, dlk_bit]
        by_cases q : k < n
        · rw [decide_eq_true q, decide_eq_true (show k < n + 1 by omega)]
        · rw [decide_eq_false q, decide_eq_false (show ¬ k < n + 1 by omega)]
theorem fmd_iff {g : GG} {m k : Nat} (hp : 0 < g 1 m) : dueB g m (g 8 1 + 1 + k) = decide (k % g 1 m = fmd g m) := by
  have hp' : (0 : Int) < (g 1 m : Int) := by omega
  have h0 := Int.emod_nonneg ((g 2 m : Int) - (g 8 1 : Int) - 1) (show (g 1 m : Int) ≠ 0 by omega)
  have hf : (fmd g m : Int) = ((g 2 m : Int) - (g 8 1 : Int) - 1) % (g 1 m : Int) := by unfold fmd; omega
  unfold dueB
  refine decide_eq_decide.mpr ⟨fun q => ?_, fun q => ⟨hp, ?_⟩⟩
  · have h1 : ((k : Int) - ((g 2 m : Int) - (g 8 1 : Int) - 1)) % (g 1 m : Int) = 0 := by
      refine Int.emod_eq_zero_of_dvd ?_
      have := q.2
      rw [show ((g 8 1 + 1 + k : Nat) : Int) - (g 2 m : Int) = (k : Int) - ((g 2 m : Int) - (g 8 1 : Int) - 1) by omega] at this
      exact this
    have h2 := Int.emod_emod_of_dvd (k : Int) (Int.dvd_refl (g 1 m : Int))
    have h3 : (k : Int) % (g 1 m : Int) = ((g 2 m : Int) - (g 8 1 : Int) - 1) % (g 1 m : Int) := Int.emod_eq_emod_iff_emod_sub_eq_zero.mpr h1
    have h4 : ((k % g 1 m : Nat) : Int) = (k : Int) % (g 1 m : Int) := Int.natCast_emod k (g 1 m)
    omega
  · have h4 : ((k % g 1 m : Nat) : Int) = (k : Int) % (g 1 m : Int) := Int.natCast_emod k (g 1 m)
    have h3 : (k : Int) % (g 1 m : Int) = ((g 2 m : Int) - (g 8 1 : Int) - 1) % (g 1 m : Int) := by rw [← h4, q, hf]
    have h1 := Int.emod_eq_emod_iff_emod_sub_eq_zero.mp h3
    rw [show ((g 8 1 + 1 + k : Nat) : Int) - (g 2 m : Int) = (k : Int) - ((g 2 m : Int) - (g 8 1 : Int) - 1) by omega]
    exact Int.dvd_of_emod_eq_zero h1
theorem fmd_lt {g : GG} {m : Nat} (hp : 0 < g 1 m) : fmd g m < g 1 m := by
  have h1 := Int.emod_lt_of_pos ((g 2 m : Int) - (g 8 1 : Int) - 1) (show (0 : Int) < (g 1 m : Int) by omega)
  have h0 := Int.emod_nonneg ((g 2 m : Int) - (g 8 1 : Int) - 1) (show (g 1 m : Int) ≠ 0 by omega)
  unfold fmd
  omega
theorem pat_dlk {g : GG} {m d : Nat} (hp : 0 < g 1 m) (h12 : g 1 m ≤ 12) (hd : 60 ≤ g 1 m * 2 ^ d) : pat (fmd g m) (g 1 m) d &&& (2 ^ 60 - 1) = dlk g m 60 := by
  have hf := fmd_lt hp
  refine Nat.eq_of_testBit_eq (fun k => ?_)
  rw [Nat.testBit_and, Nat.testBit_two_pow_sub_one, dlk_bit]
  by_cases hk : k < 60
  · rw [pat_bit hf h12 (by omega), decide_eq_true hk, fmd_iff hp, Bool.and_true, Bool.true_and]
    exact decide_eq_decide.mpr ⟨fun q => q.2, fun q => ⟨by omega, q⟩⟩
  · rw [decide_eq_false hk, Bool.and_false, Bool.false_and]
theorem msb_xor_n {x : Int32} {n : Nat} (hn : n < 2 ^ 31) : 0 ≤ (x ^^^ nI n).toInt ↔ 0 ≤ x.toInt := by
  have h1 : (x ^^^ nI n).toBitVec.msb = x.toBitVec.msb := by
    rw [Int32.toBitVec_xor, BitVec.msb_xor]
    have : (nI n).toBitVec.msb = false := by
      rw [BitVec.msb_eq_toInt]
      refine decide_eq_false ?_
      have := nI_toInt hn
      show ¬ (nI n).toInt < 0
      omega
    rw [this, Bool.xor_false]
  rw [BitVec.msb_eq_toInt, BitVec.msb_eq_toInt] at h1
  have h2 := decide_eq_decide.mp h1
  constructor
  · intro h; exact Int.not_lt.mp (fun q => absurd h (Int.not_le.mpr (h2.mpr q)))
  · intro h; exact Int.not_lt.mp (fun q => absurd h (Int.not_le.mpr (h2.mp q)))
theorem fav_le {g : GG} {B t k : Nat} (h : IB B g) {i : Nat} (hi : i ≤ g 8 0) : sm (fun m => if inF g m t k then g 0 m else 0) i ≤ 50 * i := sm_le (fun m hm => by
  have := (h.mem (m := m) (by omega)).1.2
  split <;> omega)
theorem mAh_le {g : GG} {m i : Nat} : sm (fun o => if ahd g o m then 1 else 0) i ≤ 1 * i := sm_le (fun o ho => by split <;> omega)
theorem eq_nI {x : Int32} {Y Z : Int} (h : x.toInt = Y) (e : Y = Z) (hz : 0 ≤ Z ∧ Z < 2147483648) : x = nI Z.toNat := by
  refine Int32.toInt_inj.mp ?_
  rw [h, e, nI_toInt (by omega)]
  omega
section GOF
theorem Met.ofWF {l : Launch} {y : MethodName} {ws ws' : List Cond} {rm : Room} {Pc : Array Value → State → Prop} {Qc : Array Value → State → Outcome → State → Prop} {mc ms : Nat} {free : Addr → Prop} {cc : ByteArray} {maxL : Nat} {ret : Option FieldType}
    (hy : plainFor y = true) (hw : ws = Cond.code y cc maxL ret :: ws')
    (body : ∀ p e s m args below meth c s₁, BodyLoose p l y (headSpec ws rm) cc maxL ret e s m args below meth c s₁ → c.maxLocals = maxL → Pc args s →
      W p l e (headSpec ws rm).room s m args below meth c s.heap [] 0 0 (MQ below Qc args s mc ms free) (entryFrame m args maxL)) : Met l y ws rm Pc Qc mc ms free := by
  refine MetFree.of_bodySF (code := cc) (maxLocals := maxL) (ret := ret) hy ?_ ?_
  · intro args s m h hn
    obtain ⟨meth, c, h1, h2, h3, h4, h5, h6, -, -⟩ := Cond.code_spec hn (atoms_spec (ws := ws) h _ (by rw [hw]; exact List.mem_cons_self))
    exact ⟨meth, c, h1, h2, h3, h4, h5, h6⟩
  · intro p e s m args below meth c s₁ B hml hP _
    have hh0 : s₁.heap = s.heap := by rw [B.state]; rfl
    obtain ⟨t, a1, o, b1, b2, b3⟩ := body p e s m args below meth c s₁ B hml hP s₁ hh0 (Stand.of_body B)
    exact ⟨t, o, a1, b1, b2, ⟨b3.1, b3.2⟩⟩
variable {l : Launch} {y : MethodName} {cc : ByteArray} {ml : Nat} {rt : FieldType} {rm : Room} {Args : List Value} {E : EE} {sz : Nat} {bs : List va_W} {S : Type} {bs' : S → List va_W} {mc ms : Nat}
theorem mi_goF {post : Int32 → S → Prop} (hy : plainFor y = true) (hlen : (lg_sl Args).length ≤ ml)
    (body : ∀ (p : Program) (e : Env) (s : State) (m : MethodId) (below : List Frame) (meth : Method) (c : Code) (A : Nat → Prop) (Q : State → Prop) (ls : Array Slot), p.tables.exec = Jvm.exec → c.code = cc → c.maxLocals = ml → s.vm.findClass y.cls = some m.cls → (∀ w ∈ TG, w.before Args.toArray s = true) → va_K E.1 vwCl (tyl E.2.1) s → ZZ E A s s.heap → (∀ q, s.heap.size ≤ q → A q) → s.heap.size = sz → va_P E.1 vwCl bs.flatten s.heap → va_D A bs.flatten → lv_has ls ml (lv_args 0 Args) →
      (∀ (H : Heap) (locs : List Loc) (v : Int32) (u : S) (pc : Nat) (ls : Array Slot), va_P E.1 vwCl (bs' u).flatten H → va_D A (bs' u).flatten → va_S A s.heap H locs → narrow rt (.int v) = .int v → post v u → decode cc pc = .ok (.ireturn, 1) → W p l e rm s m Args.toArray below meth c H locs mc ms Q (F0 m pc ls [.int v])) →
      W p l e rm s m Args.toArray below meth c s.heap [] 0 0 Q (F0 m 0 ls [])) : MI l y cc ml rt rm Args E sz bs post bs' mc ms := by
  refine Met.ofWF (cc := cc) (maxL := ml) (ret := some rt) hy rfl ?_
  intro p e s m args below meth c s₁ B hml hv
  obtain ⟨rfl, hsz, hP, hK, hD0, hZ⟩ := hv
  rw [lg_entry_eq]
  refine body p e s m below meth c (va_A bs.flatten sz) _ _ B.exec B.bytes hml (findClass_of_methodNamed B.named) (fun w hw => atoms_spec B.pre w (List.mem_cons_of_mem _ hw)) hK hZ (fun q hq => Or.inr (by rw [← hsz]; exact hq)) hsz hP hD0.self (lv_entry Args hlen) ?_
  intro H locs v u pc ls hP' hD' hS' hn hpost hdg
  exact W.zret B.exec B.bytes B.returns hn (fun t ht hW => ⟨⟨v, u, rfl, hpost, by rw [ht]; exact hP', va_K.moved hW.alike hK, hD'⟩, hS'.F ht⟩) hS'.2.2 hdg B.notSynchronized
end GOF
