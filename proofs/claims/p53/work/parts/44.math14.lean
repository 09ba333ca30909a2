/-! a form, read sign by sign: the place, whether it was read, the arguments -/
def frmR (tx : Nat → Nat) (e : Nat) : List Nat → Nat → Nat → (Nat → Nat) → Nat × Nat × (Nat → Nat)
  | [], sp, _, A => (sp, 1, A)
  | c :: l, sp, pl, A => if c ≠ 35 ∧ c ≠ 63 then (if sp < e ∧ tx sp = c then frmR tx e l (sp + 1) pl A else (sp, 0, A)) else if sp < e ∧ 48 ≤ tx sp ∧ tx sp ≤ 57 then frmR tx e l (digR tx e (if c = 35 then 2 else 1) sp 0 0).1 (pl + 1) (upn A pl (digR tx e (if c = 35 then 2 else 1) sp 0 0).2.1) else (sp, 0, A)
theorem frmR_s {tx : Nat → Nat} {e c sp pl : Nat} {l : List Nat} {A : Nat → Nat} (h : c ≠ 35 ∧ c ≠ 63) (h1 : sp < e ∧ tx sp = c) : frmR tx e (c :: l) sp pl A = frmR tx e l (sp + 1) pl A := by
  show (if c ≠ 35 ∧ c ≠ 63 then (if sp < e ∧ tx sp = c then _ else _) else _) = _
  rw [if_pos h, if_pos h1]
theorem frmR_sf {tx : Nat → Nat} {e c sp pl : Nat} {l : List Nat} {A : Nat → Nat} (h : c ≠ 35 ∧ c ≠ 63) (h1 : ¬ (sp < e ∧ tx sp = c)) : frmR tx e (c :: l) sp pl A = (sp, 0, A) := by
  show (if c ≠ 35 ∧ c ≠ 63 then (if sp < e ∧ tx sp = c then _ else _) else _) = _
  rw [if_pos h, if_neg h1]
theorem frmR_d {tx : Nat → Nat} {e c sp pl : Nat} {l : List Nat} {A : Nat → Nat} (h : ¬ (c ≠ 35 ∧ c ≠ 63)) (h1 : sp < e ∧ 48 ≤ tx sp ∧ tx sp ≤ 57) : frmR tx e (c :: l) sp pl A = frmR tx e l (digR tx e (if c = 35 then 2 else 1) sp 0 0).1 (pl + 1) (upn A pl (digR tx e (if c = 35 then 2 else 1) sp 0 0).2.1) := by
  show (if c ≠ 35 ∧ c ≠ 63 then _ else if sp < e ∧ 48 ≤ tx sp ∧ tx sp ≤ 57 then _ else _) = _
  rw [if_neg h, if_pos h1]
theorem frmR_df {tx : Nat → Nat} {e c sp pl : Nat} {l : List Nat} {A : Nat → Nat} (h : ¬ (c ≠ 35 ∧ c ≠ 63)) (h1 : ¬ (sp < e ∧ 48 ≤ tx sp ∧ tx sp ≤ 57)) : frmR tx e (c :: l) sp pl A = (sp, 0, A) := by
  show (if c ≠ 35 ∧ c ≠ 63 then _ else if sp < e ∧ 48 ≤ tx sp ∧ tx sp ≤ 57 then _ else _) = _
  rw [if_neg h, if_neg h1]
/-- number signs among the first k -/
def cnS (t : String) : Nat → Nat
  | 0 => 0
  | k + 1 => cnS t k + (if sch t k ≠ 35 ∧ sch t k ≠ 63 then 0 else 1)
theorem frm_4 : ∀ i, 11 ≤ i → i < 18 → ∀ q, sRef[i]? = some q → ∀ k, k < q.2.2.length → cnS q.2.2 (k + 1) ≤ 4 := by
  have h : ∀ i, i < 18 → 11 ≤ i → ∀ q ∈ (sRef[i]?).toList, ∀ k, k < q.2.2.length → cnS q.2.2 (k + 1) ≤ 4 := by decide +kernel
  intro i h1 h2 q hq
  exact h i h2 h1 q (by rw [hq]; exact List.mem_singleton.mpr rfl)
