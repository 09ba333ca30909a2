/-! the law's turns: what each kind of call leaves -/
def LCL (p : Program) (l : Launch) (s : State) (m : MethodId) (args : Array Value) (c : Code) (E : EE) (A : Nat → Prop) : Prop :=
  p.tables.exec = Jvm.exec ∧ c.code = cL_law ∧ c.maxLocals = 32 ∧ s.vm.findClass RL = some m.cls ∧ (∀ w ∈ TG, w.before args s = true) ∧ va_K E.1 vwCl (tyl E.2.1) s ∧ ZZ E A s s.heap ∧ DD s ∧ (∀ q, s.heap.size ≤ q → A q) ∧ l.stackTraces = false ∧ E.2.2 203 ≤ 260
/-- what holds before the turn n -/
def TRN (n : Nat) (g : GG) (hg : Nat → GG) (nx ct : Nat) (j : JT) (made : Nat) (f : Nat → Int64) : Prop :=
  IB (420 * n) g ∧ JG g ∧ nx < 8 ∧ made ≤ n ∧ ct = (if made < 8 then made else 8) ∧ JV j ∧ sumF g = f made ∧ ∀ i, i < ct → IB 24000 (hg ((nx + 8 - 1 - i) % 8)) ∧ sumF (hg ((nx + 8 - 1 - i) % 8)) = f (made - 1 - i)
theorem TRN.ct8 {n nx ct made : Nat} {g : GG} {hg : Nat → GG} {j : JT} {f : Nat → Int64} (h : TRN n g hg nx ct j made f) : ct ≤ 8 := by
  rw [h.2.2.2.2.1]
  split <;> omega
theorem TRN_0 {j : JT} (hj : JV j) {f : Nat → Int64} (hf : sumF (fun _ _ => 0) = f 0) : TRN 0 (fun _ _ => 0) (fun _ => (fun _ _ => 0)) 0 0 j 0 f :=
  ⟨⟨⟨by decide, by decide, by decide⟩, fun m h => absurd h (Nat.not_lt_zero _), fun m _ => ⟨rfl, rfl, rfl⟩, ⟨by decide, by decide, fun _ => Nat.le_of_ble_eq_true rfl, fun _ => Nat.le_of_ble_eq_true rfl⟩, ⟨by decide, by decide, rfl⟩, by decide⟩, JG_0, by decide, by decide, rfl, hj, hf, fun i hi => absurd hi (Nat.not_lt_zero _)⟩
theorem TRN.jv {n nx ct made : Nat} {g : GG} {hg : Nat → GG} {j j' : JT} {f : Nat → Int64} (h : TRN n g hg nx ct j made f) (hj : JV j') : TRN n g hg nx ct j' made f :=
  ⟨h.1, h.2.1, h.2.2.1, h.2.2.2.1, h.2.2.2.2.1, hj, h.2.2.2.2.2.2⟩
theorem TRN_no {n nx ct made : Nat} {g : GG} {hg : Nat → GG} {j j' : JT} {f : Nat → Int64} (hn : n < 56) (h : TRN n g hg nx ct j made f) (hj : JV j') : TRN (n + 1) g (hgN false hg nx g) (nxN false nx) (ctN false ct) j' made f :=
  ⟨h.1.le (by omega) (by omega), h.2.1, h.2.2.1, by have := h.2.2.2.1; omega, h.2.2.2.2.1, hj, h.2.2.2.2.2.2⟩
theorem updL_s {f : Nat → Int64} {k : Nat} {x : Int64} : vp_updL f k x k = x := if_pos rfl
theorem updL_n {f : Nat → Int64} {k i : Nat} {x : Int64} (h : i ≠ k) : vp_updL f k x i = f i := if_neg h
theorem TRN_ok {n nx ct made : Nat} {g g' : GG} {hg : Nat → GG} {j j' : JT} {f : Nat → Int64} (hn : n < 56) (h : TRN n g hg nx ct j made f) (h1 : IB (420 * n + 420) g') (h2 : JG g') (hj : JV j') :
    TRN (n + 1) g' (hgN true hg nx g) (nxN true nx) (ctN true ct) j' (made + 1) (vp_updL f (made + 1) (sumF g')) := by
  obtain ⟨a1, a2, a3, a4, a5, a6, a7, a8⟩ := h
  have e1 : nxN true nx = (nx + 1) % 8 := rfl
  have e2 : ctN true ct = if 8 < ct + 1 then 8 else ct + 1 := rfl
  have e3 : hgN true hg nx g = upa hg nx g := rfl
  have a5' : (made < 8 ∧ ct = made) ∨ (8 ≤ made ∧ ct = 8) := by
    rw [a5]
    split
    · exact Or.inl ⟨by assumption, rfl⟩
    · exact Or.inr ⟨by omega, rfl⟩
  refine ⟨h1, h2, ?_, by omega, ?_, hj, updL_s.symm, ?_⟩
  · rw [e1]; exact Nat.mod_lt _ (by decide)
  · rw [e2]
    split <;> split <;> omega
  · intro i hi
    have hi8 : i < 8 ∧ i < ct + 1 := by
      rw [e2] at hi
      split at hi <;> omega
    rw [e1, e3]
    have ix : ((nx + 1) % 8 + 8 - 1 - i) % 8 = (nx + 8 - i) % 8 := by omega
    rw [ix]
    by_cases c : i = 0
    · subst c
      rw [show (nx + 8 - 0) % 8 = nx by omega, upa_s, updL_n (by omega)]
      exact ⟨a1.le (by omega) (by decide), a7⟩
    · have ne : (nx + 8 - i) % 8 ≠ nx := by omega
      rw [upa_n ne, updL_n (by omega)]
      have h9 := a8 (i - 1) (by omega)
      rw [show (nx + 8 - 1 - (i - 1)) % 8 = (nx + 8 - i) % 8 by omega, show made - 1 - (i - 1) = made + 1 - 1 - i by omega] at h9
      exact h9
/-- a done call keeps the bounds -/
theorem DOK.ij {B kind m beats tone tol bought : Nat} {g g' : GG} {r : Int32} (h : DOK g kind m beats tone tol bought g' r) (hI : IB B g) (hJ : JG g) (hB : B + 420 ≤ 300000) (hk : kind < 38) (hb2 : beats ≤ 20) (ht : tone < 12) : IB (B + 420) g' ∧ JG g' := by
  obtain ⟨k0, k1, k2, k3, k4, k5, k6, k7⟩ := h
  have e8 : kind < 4 ∨ (4 ≤ kind ∧ kind < 13) ∨ (13 ≤ kind ∧ kind < 16) ∨ (16 ≤ kind ∧ kind < 19) ∨ (19 ≤ kind ∧ kind < 28) ∨ (28 ≤ kind ∧ kind < 31) ∨ (31 ≤ kind ∧ kind < 36) ∨ 36 ≤ kind := by omega
  rcases e8 with q | ⟨q1, q2⟩ | ⟨q1, q2⟩ | ⟨q1, q2⟩ | ⟨q1, q2⟩ | ⟨q1, q2⟩ | ⟨q1, q2⟩ | q
  · obtain ⟨a, b, c, d, f0, -, rfl⟩ := k0 q
    have h9 := fJoin_0 f0
    have e0 := tn_t (x := a) (by omega)
    have e1 := tn_t (x := b) (by omega)
    have e2 := tn_t (x := c) (by omega)
    have e3 := tn_t (x := d) (by omega)
    exact ⟨(IB_join hI (by omega) ⟨by omega, by omega⟩ ⟨by omega, by omega⟩ (by omega) (by omega)).le (by omega) hB, JG_join hJ⟩
  · obtain ⟨a, b, f0, -, rfl⟩ := k1 q1 q2
    have h9 := fWind_0 f0
    have e0 := tn_t (x := a) (by omega)
    have e1 := tn_t (x := b) (by omega)
    exact ⟨(IB_wind hI (by omega) (by omega) (by omega)).le (by omega) hB, JG_wind hJ⟩
  · obtain ⟨a, b, f0, -, rfl⟩ := k2 q1 q2
    have h9 := fTune_0 f0
    have e1 := tn_t (x := b) (by omega)
    exact ⟨(IB_tune hI (by omega)).le (by omega) hB, JG_tune hJ⟩
  · obtain ⟨f0, -, rfl⟩ := k3 q1 q2
    have h9 := fBuy_0 f0
    have e0 := tn_t (x := nI m) (by omega)
    have e1 := tn_t (x := nI bought) (by omega)
    exact ⟨(IB_buy hI (by omega) (by omega) (by omega)).le (by omega) hB, JG_buy hJ⟩
  · obtain ⟨f0, -, rfl⟩ := k4 q1 q2
    rw [tn_nI (by omega)]
    exact ⟨(IB_pass hI (by omega)).le (by omega) hB, JG_pass hJ _⟩
  · obtain ⟨f0, -, rfl⟩ := k5 q1 q2
    exact ⟨(IB_pay hI (fPay_0 f0) (by omega)).le (by omega) hB, JG_pay hJ⟩
  · obtain ⟨-, rfl⟩ := k6 q1 q2
    rw [tn_nI (show tone < 2147483648 by omega)]
    exact ⟨(IB_vote hI (by omega) (by omega)).le (by omega) hB, JG_vote hJ⟩
  · exact ⟨(k7 q).ib hI hB, (k7 q).jg hJ⟩
/-! what the law asks, kind by kind -/
theorem dk_join {g : GG} {a b c d : Nat} : joinG g a b c d 8 0 = g 8 0 + 1 ∧ joinG g a b c d 4 (g 8 0) = 0 ∧ joinG g a b c d 5 (g 8 0) = 0 ∧ joinG g a b c d 6 (g 8 0) = 0 ∧ joinG g a b c d 8 1 = g 8 1 ∧ joinG g a b c d 8 6 = g 8 6 :=
  ⟨rfl, show upn _ (g 8 0) 0 (g 8 0) = 0 from upn_s, show upn _ (g 8 0) 0 (g 8 0) = 0 from upn_s, show upn _ (g 8 0) 0 (g 8 0) = 0 from upn_s, rfl, rfl⟩
theorem dk_buy {g : GG} {m t : Nat} : buyG g m t 8 0 = g 8 0 ∧ buyG g m t 5 m = g 5 m - t * 5 ∧ buyG g m t 8 2 = g 8 2 + t * 5 ∧ buyG g m t 8 1 = g 8 1 ∧ buyG g m t 8 6 = g 8 6 :=
  ⟨rfl, show upn _ m (g 5 m - t * 5) m = _ from upn_s, rfl, rfl, rfl⟩
theorem wf_sp {B B' : Nat} {g : GG} (hI : IB B g) {k m : Nat} (hm : m ≤ 8) : (wf (passG g k) (passG g k 4) (nI m)).toInt ≤ (wf g (g 4) (nI m)).toInt := by
  have hmc := hI.mc
  have hn := pass_n (g := g) k
  by_cases c : m < g 8 0
  · rw [wf_in (by omega) (by omega), wf_in hmc c]
    have h1 := pass_spring (g := g) m k
    have h2 := (hI.mem c).2.2.2
    rw [nI_toInt (by omega), nI_toInt (by omega)]
    omega
  · rw [wf_out (by omega) (by omega) hm, wf_out hmc (by omega) hm]
    exact Int.le_refl _
theorem i32_ii {x y : Int32} : x.toInt = y.toInt ↔ x = y := Int32.toInt_inj
