/-! what the law asks of the state: counting -/
theorem upa_n {α : Type} {f : Nat → α} {k j : Nat} {v : α} (h : j ≠ k) : upa f k v j = f j := if_neg h
theorem upa_s {α : Type} {f : Nat → α} {k : Nat} {v : α} : upa f k v k = v := if_pos rfl
theorem exG_IB {B : Nat} {g : GG} {t : Nat → Nat} (h : IB B g) : ∀ k, (∀ j, j < k → exF g t j = 0) → B + 60 * k ≤ 300000 → IB (B + 60 * k) (exG g t k)
  | 0, _, _ => h
  | k + 1, hf, hB => by
    have h1 := exG_IB h k (fun j hj => hf j (by omega)) (by omega)
    have := IB_do h1 (hf k (Nat.lt_succ_self k)) (by omega)
    rw [show B + 60 * k + 60 = B + 60 * (k + 1) by omega] at this
    exact this
theorem fst1_min {p : Nat → Bool} {j : Nat} (hj : p j = true) : ∀ {n : Nat}, j < n → fst1 p n ≤ j
  | 0, h => absurd h (Nat.not_lt_zero _)
  | n + 1, h => by
    show (if fst1 p n < n then fst1 p n else if p n then n else n + 1) ≤ j
    by_cases e : j = n
    · subst e
      rw [if_pos hj]
      split <;> omega
    · have := fst1_min hj (n := n) (by omega)
      rw [if_pos (by omega)]
      exact this
theorem exN_all {g : GG} {t : Nat → Nat} {c : Nat} (h : exN g t c = c) : ∀ j, j < c → exF g t j = 0 := by
  intro j hj
  by_cases e : exF g t j = 0
  · exact e
  · exfalso
    have := fst1_min (p := fun k => decide (exF g t k ≠ 0)) (n := c) (j := j) (decide_eq_true e) hj
    unfold exN at h
    omega
theorem fst1_lt {p : Nat → Bool} : ∀ {n : Nat}, fst1 p n < n → p (fst1 p n) = true ∧ ∀ j, j < fst1 p n → p j = false
  | 0, h => absurd h (Nat.not_lt_zero _)
  | n + 1, h => by
    have e : fst1 p (n + 1) = if fst1 p n < n then fst1 p n else if p n then n else n + 1 := rfl
    rw [e] at h ⊢
    by_cases c : fst1 p n < n
    · rw [if_pos c]
      exact fst1_lt c
    · rw [if_neg c] at h ⊢
      by_cases d : p n = true
      · rw [if_pos d]
        refine ⟨d, fun j hj => ?_⟩
        cases q : p j with
        | false => rfl
        | true => have := fst1_min q hj; omega
      · rw [if_neg d] at h
        omega
theorem fst1_ge {p : Nat → Bool} {n : Nat} (h : ¬ fst1 p n < n) : ∀ j, j < n → p j = false := by
  intro j hj
  cases q : p j with
  | false => rfl
  | true => have := fst1_min q hj; omega
theorem cnt_inj {φ : Nat → Nat} {P : Nat → Bool} {M : Nat} : ∀ {N : Nat} {h : Nat → Nat}, (∀ q, q < N → P q = true → φ q < M ∧ 1 ≤ h (φ q)) → (∀ a b, a < N → b < a → P a = true → P b = true → φ b ≠ φ a) → sm (fun q => if P q = true then 1 else 0) N ≤ sm h M
  | 0, _, _, _ => Nat.zero_le _
  | N + 1, h, h1, h2 => by
    show sm (fun q => if P q = true then 1 else 0) N + (if P N = true then 1 else 0) ≤ sm h M
    by_cases c : P N = true
    · obtain ⟨k1, k2⟩ := h1 N (Nat.lt_succ_self _) c
      have hs := sm_upn (f := h) (k := φ N) (v := h (φ N) - 1) (n := M) k1
      have ih := cnt_inj (φ := φ) (P := P) (M := M) (N := N) (h := upn h (φ N) (h (φ N) - 1)) (fun q hq hp => by
        have h3 := h1 q (by omega) hp
        refine ⟨h3.1, ?_⟩
        rw [upn_n (h2 N q (Nat.lt_succ_self _) hq c hp)]
        exact h3.2) (fun a b ha hb pa pb => h2 a b (by omega) hb pa pb)
      rw [if_pos c]
      omega
    · have ih := cnt_inj (φ := φ) (P := P) (M := M) (N := N) (h := h) (fun q hq hp => h1 q (by omega) hp) (fun a b ha hb pa pb => h2 a b (by omega) hb pa pb)
      rw [if_neg c]
      omega
theorem sm_lt2 {f h : Nat → Nat} {n i : Nat} (h1 : ∀ k, k < n → f k ≤ h k) (hi : i < n) (h2 : f i < h i) : sm f n < sm h n := by
  have a := sm_upn (f := f) (k := i) (v := f i + 1) (n := n) hi
  have b : sm (upn f i (f i + 1)) n ≤ sm h n := sm_le2 (fun k hk => by
    unfold upn
    split
    · rename_i e; subst e; exact h2
    · exact h1 k hk)
  omega
theorem sm_two (P : Nat → Bool) : ∀ n, sm (fun q => if P q = true then 1 else 0) n + sm (fun q => if P q = true then 0 else 1) n = n
  | 0 => rfl
  | n + 1 => by
    have ih := sm_two P n
    show sm (fun q => if P q = true then 1 else 0) n + (if P n = true then 1 else 0) + (sm (fun q => if P q = true then 0 else 1) n + (if P n = true then 0 else 1)) = n + 1
    split <;> omega
/-! ranks -/
theorem ahd_tr {g : GG} {a b c : Nat} (h1 : ahd g a b = true) (h2 : ahd g b c = true) : ahd g a c = true := by
  unfold ahd at *
  by_cases e1 : g 0 a ≠ g 0 b
  · rw [if_pos e1] at h1
    have h1 := of_decide_eq_true h1
    by_cases e2 : g 0 b ≠ g 0 c
    · rw [if_pos e2] at h2
      have h2 := of_decide_eq_true h2
      rw [if_pos (by omega)]
      exact decide_eq_true (by omega)
    · rw [if_pos (by omega)]
      exact decide_eq_true (by omega)
  · rw [if_neg e1] at h1
    by_cases e2 : g 0 b ≠ g 0 c
    · rw [if_pos e2] at h2
      have h2 := of_decide_eq_true h2
      rw [if_pos (by omega)]
      exact decide_eq_true (by omega)
    · rw [if_neg e2] at h2
      rw [if_neg (by omega)]
      by_cases f1 : g 5 a ≠ g 5 b
      · rw [if_pos f1] at h1
        have h1 := of_decide_eq_true h1
        by_cases f2 : g 5 b ≠ g 5 c
        · rw [if_pos f2] at h2
          have h2 := of_decide_eq_true h2
          rw [if_pos (by omega)]
          exact decide_eq_true (by omega)
        · rw [if_pos (by omega)]
          exact decide_eq_true (by omega)
      · rw [if_neg f1] at h1
        by_cases f2 : g 5 b ≠ g 5 c
        · rw [if_pos f2] at h2
          have h2 := of_decide_eq_true h2
          rw [if_pos (by omega)]
          exact decide_eq_true (by omega)
        · rw [if_neg f2] at h2
          have h1 := of_decide_eq_true h1
          have h2 := of_decide_eq_true h2
          rw [if_neg (by omega)]
          exact decide_eq_true (by omega)
theorem ahd_tot {g : GG} {a b : Nat} (h : a ≠ b) : ahd g a b = true ∨ ahd g b a = true := by
  unfold ahd
  by_cases e1 : g 0 a ≠ g 0 b
  · rw [if_pos e1, if_pos (Ne.symm e1)]
    rcases Nat.lt_or_gt_of_ne e1 with q | q
    · exact Or.inr (decide_eq_true q)
    · exact Or.inl (decide_eq_true q)
  · rw [if_neg e1, if_neg (fun q => e1 (Ne.symm q))]
    by_cases e2 : g 5 a ≠ g 5 b
    · rw [if_pos e2, if_pos (Ne.symm e2)]
      rcases Nat.lt_or_gt_of_ne e2 with q | q
      · exact Or.inr (decide_eq_true q)
      · exact Or.inl (decide_eq_true q)
    · rw [if_neg e2, if_neg (fun q => e2 (Ne.symm q))]
      rcases Nat.lt_or_gt_of_ne h with q | q
      · exact Or.inl (decide_eq_true q)
      · exact Or.inr (decide_eq_true q)
theorem mAh_mono {g : GG} {a b : Nat} (ha : a < g 8 0) (h : ahd g a b = true) : mAh g a < mAh g b := by
  unfold mAh
  refine sm_lt2 (i := a) (fun k _ => ?_) ha ?_
  · by_cases c : ahd g k a = true
    · rw [if_pos c, if_pos (ahd_tr c h)]
      exact Nat.le_refl _
    · rw [if_neg c]
      exact Nat.zero_le _
  · rw [ahd_self, h, if_neg (by decide), if_pos rfl]
    decide
theorem mAh_lt {g : GG} {a : Nat} (ha : a < g 8 0) : mAh g a < g 8 0 := by
  have h1 : mAh g a < sm (fun _ => 1) (g 8 0) := by
    unfold mAh
    refine sm_lt2 (i := a) (fun k _ => ?_) ha ?_
    · show (if _ then 1 else 0) ≤ 1
      split <;> omega
    · show (if _ then 1 else 0) < 1
      rw [ahd_self, if_neg (by decide)]
      decide
  rw [sm_const, Nat.one_mul] at h1
  exact h1
theorem mAh_at {g : GG} {r : Nat} (hr : r < g 8 0) : ∃ a, a < g 8 0 ∧ mAh g a = r := by
  cases hc : decide (∃ a, a < g 8 0 ∧ mAh g a = r) with
  | true => exact of_decide_eq_true hc
  | false =>
    exfalso
    have hc := of_decide_eq_false hc
    have hs := sm_upn (f := fun _ => 1) (k := r) (v := 0) (n := g 8 0) hr
    have h1 := cnt_inj (φ := mAh g) (P := fun _ => true) (M := g 8 0) (N := g 8 0) (h := upn (fun _ => 1) r 0) (fun q hq _ => ⟨mAh_lt hq, by
      rw [upn_n (fun e => hc ⟨q, hq, e⟩)]
      exact Nat.le_refl _⟩) (fun a b ha hb _ _ => by
        rcases ahd_tot (g := g) (a := a) (b := b) (by omega) with q | q
        · have := mAh_mono ha q; omega
        · have := mAh_mono (show b < g 8 0 by omega) q; omega)
    have h2 : sm (fun q => if (fun _ => true) q = true then 1 else 0) (g 8 0) = sm (fun _ => 1) (g 8 0) := sm_cong (fun k _ => rfl)
    rw [h2] at h1
    omega
theorem wrk_at {g : GG} (hm : g 8 0 ≤ 8) {r : Nat} (hr : r < g 8 0) : ∃ a, a < g 8 0 ∧ mAh g a = r ∧ wrk g (nI r) = nI a := by
  obtain ⟨a0, h0, h1⟩ := mAh_at hr
  have ht : (nI r).toInt = (r : Int) := nI_toInt (by omega)
  have hp : (fun a => decide ((mAh g a : Int) = (nI r).toInt)) a0 = true := decide_eq_true (by rw [ht, h1])
  have hlt : fst1 (fun a => decide ((mAh g a : Int) = (nI r).toInt)) (g 8 0) < g 8 0 := by
    have := fst1_min (p := fun a => decide ((mAh g a : Int) = (nI r).toInt)) hp h0
    omega
  have h2 := (fst1_lt hlt).1
  have h3 := (of_decide_eq_true h2).trans ht
  exact ⟨_, hlt, Int.ofNat.inj h3, if_pos hlt⟩
theorem wrk_out {g : GG} (hm : g 8 0 ≤ 8) : wrk g (nI (g 8 0)) = -75 := by
  refine if_neg (fun h => ?_)
  have h3 := (of_decide_eq_true (fst1_lt h).1).trans (nI_toInt (by omega))
  have h4 := mAh_lt h
  have h5 := Int.ofNat.inj h3
  omega
theorem rank_ok {g : GG} {r a b : Nat} (ha : a < g 8 0) (hb : b < g 8 0) (h1 : mAh g a = r) (h2 : mAh g b = r + 1) : g 0 b ≤ g 0 a ∧ (g 0 a = g 0 b → g 5 b ≤ g 5 a ∧ (g 5 a = g 5 b → a < b)) := by
  have hab : ahd g a b = true := by
    rcases ahd_tot (g := g) (a := a) (b := b) (fun e => by subst e; omega) with q | q
    · exact q
    · have := mAh_mono hb q; omega
  unfold ahd at hab
  by_cases e1 : g 0 a ≠ g 0 b
  · rw [if_pos e1] at hab
    have := of_decide_eq_true hab
    exact ⟨by omega, fun q => absurd q e1⟩
  · rw [if_neg e1] at hab
    refine ⟨by omega, fun _ => ?_⟩
    by_cases e2 : g 5 a ≠ g 5 b
    · rw [if_pos e2] at hab
      have := of_decide_eq_true hab
      exact ⟨by omega, fun q => absurd q e2⟩
    · rw [if_neg e2] at hab
      have := of_decide_eq_true hab
      exact ⟨by omega, fun _ => this⟩
