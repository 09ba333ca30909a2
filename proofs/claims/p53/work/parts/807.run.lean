/-! a program that was carried out -/
theorem run_IB {B e : Nat} {g : GG} {tx t : Nat → Nat} (he : e ≤ 60) (h : IB B g) (hB : B + 420 ≤ 300000) (hv : (prgR tx e 20 0 0 t).2.2.1 = 0) (hN : exN g (prgR tx e 20 0 0 t).2.2.2 (prgR tx e 20 0 0 t).1 = (prgR tx e 20 0 0 t).1) : IB (B + 420) (exG g (prgR tx e 20 0 0 t).2.2.2 (prgR tx e 20 0 0 t).1) := by
  obtain ⟨-, r2, r3⟩ := frm_whole (tx := tx) (e := e) he (A := fun _ => 0) (K := fun _ => 0) (t := t)
  have h7 := r3 (r2.mpr hv)
  have h8 : (prgR tx e 20 0 0 t).1 ≤ 7 := by rw [← h7.1]; exact h7.2.1
  exact (exG_IB h _ (exN_all hN) (by omega)).le (by omega) hB
/-- what a program that was carried out has done -/
def RUNP (g g' : GG) (r : Int32) : Prop := ∃ (T : Nat → Nat) (C : Nat), C ≤ 7 ∧ exN g T C = C ∧ g' = exG g T C ∧ r = nI C
theorem RUNP_of {e : Nat} {g : GG} {tx t : Nat → Nat} {r : Int32} (he : e ≤ 60) (hv : (prgR tx e 20 0 0 t).2.2.1 = 0) (hN : exN g (prgR tx e 20 0 0 t).2.2.2 (prgR tx e 20 0 0 t).1 = (prgR tx e 20 0 0 t).1) (hr : r = nI (prgR tx e 20 0 0 t).1) : RUNP g (exG g (prgR tx e 20 0 0 t).2.2.2 (prgR tx e 20 0 0 t).1) r := by
  obtain ⟨-, r2, r3⟩ := frm_whole (tx := tx) (e := e) he (A := fun _ => 0) (K := fun _ => 0) (t := t)
  have h7 := r3 (r2.mpr hv)
  exact ⟨_, _, by rw [← h7.1]; exact h7.2.1, hN, rfl, hr⟩
theorem RUNP.ib {B : Nat} {g g' : GG} {r : Int32} (h : RUNP g g' r) (hI : IB B g) (hB : B + 420 ≤ 300000) : IB (B + 420) g' := by
  obtain ⟨T, C, h7, hN, rfl, -⟩ := h
  exact (exG_IB hI _ (exN_all hN) (by omega)).le (by omega) hB
theorem JV_app {g3 : GG} {co re so gw q : Nat → Nat} {F : GG} {v ml n cp : Nat} {t : Nat → Nat} {n0 : Nat} (hj : JV (g3, co, re, so, gw, q, F, v, ml, n, cp, t)) (h : q 0 < 60) (hn : n0 < 65536) : JV (g3, co, re, so, gw, upn q 0 (q 0 + 1), upr F 0 (upn (F 0) (q 0) n0), v, ml, n, cp, t) := by
  refine ⟨⟨?_, ?_⟩, hj.2⟩
  · show upn q 0 (q 0 + 1) 0 ≤ 60
    rw [upn_s]; omega
  · intro i
    show upr F 0 (upn (F 0) (q 0) n0) 0 i < 65536
    unfold upr upn
    rw [if_pos rfl]
    split
    · exact hn
    · exact hj.1.2 i
