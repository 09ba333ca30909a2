/-! the class's commands, one by one -/
theorem exF_at9 {g : GG} {A K : Nat → Nat} (k : Nat) : exF g (tOf A K) k = doF (exG g (tOf A K) k) (sgK (K k)) (A (k * 4 + 0)) (A (k * 4 + 1)) (A (k * 4 + 2)) (A (k * 4 + 3)) ∧ exG g (tOf A K) (k + 1) = doG (exG g (tOf A K) k) (sgK (K k)) (A (k * 4 + 0)) (A (k * 4 + 1)) (A (k * 4 + 2)) (A (k * 4 + 3)) := by
  have h1 : tOf A K (5 * k + 1) = A (k * 4 + 0) := (tOf_s (i := 0) (by decide)).trans (by rw [Nat.mul_comm])
  have h2 : tOf A K (5 * k + 2) = A (k * 4 + 1) := (tOf_s (i := 1) (by decide)).trans (by rw [Nat.mul_comm])
  have h3 : tOf A K (5 * k + 3) = A (k * 4 + 2) := (tOf_s (i := 2) (by decide)).trans (by rw [Nat.mul_comm])
  have h4 : tOf A K (5 * k + 4) = A (k * 4 + 3) := (tOf_s (i := 3) (by decide)).trans (by rw [Nat.mul_comm])
  constructor
  · show doF (exG g (tOf A K) k) _ _ _ _ _ = _
    rw [tOf_0, h1, h2, h3, h4]
  · show doG (exG g (tOf A K) k) _ _ _ _ _ = _
    rw [tOf_0, h1, h2, h3, h4]
section DK9
variable {g : GG} {K a b c d : Nat}
theorem dk_0 (h : K = 0) : doF g (sgK K) a b c d = fJoin g (nI a) (nI b) (nI c) (nI d) ∧ doG g (sgK K) a b c d = joinG g (tn (nI a)) (tn (nI b)) (tn (nI c)) (tn (nI d)) := by subst h; have e : sgK 0 = 106 := rfl; rw [e]; exact ⟨by simp [doF], by simp [doG]⟩
theorem dk_1 (h : K = 1) : doF g (sgK K) a b c d = fWind g (nI a) (nI b) ∧ doG g (sgK K) a b c d = windG g (tn (nI a)) (tn (nI b)) := by subst h; have e : sgK 1 = 119 := rfl; rw [e]; exact ⟨by simp [doF], by simp [doG]⟩
theorem dk_2 (h : K = 2) : doF g (sgK K) a b c d = fTune g (nI a) (nI b) ∧ doG g (sgK K) a b c d = up2 g 3 (tn (nI a)) (tn (nI b)) := by subst h; have e : sgK 2 = 116 := rfl; rw [e]; exact ⟨by simp [doF], by simp [doG]⟩
theorem dk_3 (h : K = 3) : doF g (sgK K) a b c d = fBuy g (nI a) (nI b) ∧ doG g (sgK K) a b c d = buyG g (tn (nI a)) (tn (nI b)) := by subst h; have e : sgK 3 = 98 := rfl; rw [e]; exact ⟨by simp [doF], by simp [doG]⟩
theorem dk_4 (h : K = 4) : doF g (sgK K) a b c d = fPass (nI a) ∧ doG g (sgK K) a b c d = passG g (tn (nI a)) := by subst h; have e : sgK 4 = 101 := rfl; rw [e]; exact ⟨by simp [doF], by simp [doG]⟩
theorem dk_5 (h : K = 5) : doF g (sgK K) a b c d = fPay g ∧ doG g (sgK K) a b c d = payG g := by subst h; have e : sgK 5 = 113 := rfl; rw [e]; exact ⟨by simp [doF], by simp [doG]⟩
theorem dk_6 (h : K = 6) : doF g (sgK K) a b c d = fMot (nI a) (nI b) ∧ doG g (sgK K) a b c d = voteG g (tn (nI a)) (tn (nI b)) := by subst h; have e : sgK 6 = 118 := rfl; rw [e]; exact ⟨by simp [doF], by simp [doG]⟩
theorem do_4 : doF g K a b c d ≤ 4 := by
  unfold doF fPay fPass fJoin fMot fBuy fTune fWind
  (repeat' split) <;> omega
end DK9
theorem exN_le {g : GG} {t : Nat → Nat} {c : Nat} : exN g t c ≤ c := fst1_le _ c
