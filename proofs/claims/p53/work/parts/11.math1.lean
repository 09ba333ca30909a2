/-! what is true of a state stays true: a beat -/
theorem sm_add (f g : Nat → Nat) : ∀ n, sm (fun m => f m + g m) n = sm f n + sm g n
  | 0 => rfl
  | n + 1 => by
    show sm (fun m => f m + g m) n + (f n + g n) = sm f n + f n + (sm g n + g n)
    rw [sm_add f g n]
    omega
theorem sm_cut {f : Nat → Nat} {k : Nat} (h : ∀ m, k ≤ m → f m = 0) : ∀ {n : Nat}, k ≤ n → sm f n = sm f k
  | 0, hn => by rw [show k = 0 by omega]
  | n + 1, hn => by
    rcases Nat.lt_or_ge n k with q | q
    · rw [show k = n + 1 by omega]
    · show sm f n + f n = _
      rw [sm_cut h q, h n q]
      rfl
theorem spr_sum {g : GG} {k n : Nat} (h : k ≤ n) : sm (fl (g 4) (spN g) k) n + chN g k = sm (g 4) n := by
  have h1 : sm (fun m => if m < k then (if chp g m then 1 else 0) else 0) n = chN g k := by
    rw [sm_cut (k := k) (fun m hm => if_neg (by omega)) h]
    exact sm_cong (fun m hm => if_pos hm)
  rw [← h1, ← sm_add]
  refine sm_cong (fun m _ => ?_)
  unfold fl spN
  by_cases hm : m < k
  · rw [if_pos hm, if_pos hm]
    by_cases hc : chp g m = true
    · rw [if_pos hc, if_pos hc]
      have : 0 < g 4 m := by
        unfold chp at hc
        exact of_decide_eq_true (Bool.and_eq_true_iff.mp hc).2
      omega
    · rw [if_neg hc, if_neg hc]; rfl
  · rw [if_neg hm, if_neg hm]; rfl
theorem IB_mid {B : Nat} {g : GG} (h : IB B g) : IB (B + 1) (midG g) → True := fun _ => trivial
theorem IB_one {B : Nat} {g : GG} (h : IB B g) (hB : B < 300000) : IB (B + 1) (oneG g) := by
  have hs := spr_sum (g := g) (k := g 8 0) (n := 8) h.mc
  obtain ⟨⟨a1, a2, a3⟩, b, c, ⟨d1, d2, d3, d4⟩, ⟨e1, e2, e3⟩, -⟩ := h
  have hsp : ∀ m, m < g 8 0 → fl (g 4) (spN g) (g 8 0) m ≤ 60 := fun m hm => by
    rw [fl_lo hm]
    have := (b m hm).2.2.2
    unfold spN
    split <;> omega
  have hmem : ∀ m, m < g 8 0 → (1 ≤ g 0 m ∧ g 0 m ≤ 50) ∧ (2 ≤ g 1 m ∧ g 1 m ≤ 12 ∧ g 2 m < g 1 m) ∧ g 3 m ≤ 11 ∧ fl (g 4) (spN g) (g 8 0) m ≤ 60 := fun m hm => ⟨(b m hm).1, (b m hm).2.1, (b m hm).2.2.1, hsp m hm⟩
  have hz : ∀ m, g 8 0 ≤ m → fl (g 4) (spN g) (g 8 0) m = 0 ∧ g 5 m = 0 ∧ g 6 m = 0 := fun m hm => ⟨by rw [fl_hi hm]; exact (c m hm).1, (c m hm).2⟩
  unfold oneG
  split
  · have h7 : ∀ j, upn (shf (g 7) 0) 0 (g 8 1 + 1) j ≤ B + 1 := fun j => by
      unfold upn shf
      split
      · omega
      · split
        · have := d4 (j - 1); omega
        · have := d4 j; omega
    refine ⟨⟨a1, a2, ?_⟩, hmem, hz, ⟨?_, ?_, ?_, h7⟩, ⟨?_, ?_, e3⟩, by omega⟩
    · show (if 10 < g 8 7 + 1 then 10 else g 8 7 + 1) ≤ 10
      split <;> omega
    · show g 8 1 + 1 ≤ B + 1; omega
    · show g 8 4 ≤ B + 1; omega
    · exact fun m => Nat.le_succ_of_le (d3 m)
    · show g 8 5 + sm (fl (g 4) (spN g) (g 8 0)) 8 ≤ B + 1; omega
    · show g 8 6 + chN g (g 8 0) + sm (fl (g 4) (spN g) (g 8 0)) 8 ≤ B + 1; omega
  · refine ⟨⟨a1, a2, a3⟩, hmem, hz, ⟨?_, ?_, ?_, fun j => Nat.le_succ_of_le (d4 j)⟩, ⟨?_, ?_, ?_⟩, by omega⟩
    · show g 8 1 + 1 ≤ B + 1; omega
    · show g 8 4 ≤ B + 1; omega
    · exact fun m => Nat.le_succ_of_le (d3 m)
    · show g 8 5 + chN g (g 8 0) + sm (fl (g 4) (spN g) (g 8 0)) 8 ≤ B + 1; omega
    · show g 8 6 + chN g (g 8 0) + sm (fl (g 4) (spN g) (g 8 0)) 8 ≤ B + 1; omega
    · show sm (g 5) 8 + (g 8 2 + chN g (g 8 0)) = g 8 5 + chN g (g 8 0); omega
theorem IB_pass {B : Nat} {g : GG} (h : IB B g) : ∀ {k : Nat}, B + k ≤ 300000 → IB (B + k) (passG g k)
  | 0, _ => h
  | k + 1, hk => IB_one (B := B + k) (IB_pass h (k := k) (by omega)) (by omega)
theorem sur_one (g : GG) : g 8 2 ≤ oneG g 8 2 := by
  unfold oneG
  split
  · exact Nat.le_refl _
  · exact Nat.le_add_right _ _
theorem sur_pass (g : GG) : ∀ k, g 8 2 ≤ passG g k 8 2
  | 0 => Nat.le_refl _
  | k + 1 => Nat.le_trans (sur_pass g k) (sur_one _)
theorem IB.le {B B' : Nat} {g : GG} (h : IB B g) (hB : B ≤ B') (h3 : B' ≤ 300000) : IB B' g := by
  obtain ⟨a, b, c, ⟨d1, d2, d3, d4⟩, ⟨e1, e2, e3⟩, -⟩ := h
  exact ⟨a, b, c, ⟨by omega, by omega, fun m => Nat.le_trans (d3 m) hB, fun m => Nat.le_trans (d4 m) hB⟩, ⟨by omega, by omega, e3⟩, h3⟩
theorem passG_0 {g : GG} : passG g 0 = g := rfl
/-! due beats by doubling -/
def fmd (g : GG) (m : Nat) : Nat := (((g 2 m : Int) - (g 8 1 : Int) - 1) % (g 1 m : Int)).toNat
