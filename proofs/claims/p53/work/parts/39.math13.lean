/-! a program, as the reference reads it -/
theorem sayR_p {tx : Nat → Nat} {e : Nat} {l : List Nat} : ∀ {sp w : Nat}, (sayR tx e l sp w).2 = 0 → w = 0 ∧ (sayR tx e l sp w).1 = sp + l.length := by
  induction l with
  | nil => intro sp w h; exact ⟨h, rfl⟩
  | cons c l ih =>
    intro sp w h
    by_cases hw : w = 0
    · subst hw
      by_cases hc : sp < e ∧ tx sp = c
      · rw [sayR_t hc.1 hc.2] at h ⊢
        have h2 := (ih h).2
        exact ⟨rfl, by rw [h2, List.length_cons]; omega⟩
      · rw [sayR_f hc] at h; cases h
    · rw [sayR_w hw] at h; exact absurd h hw
theorem digR_a {tx : Nat → Nat} {e : Nat} : ∀ {f sp n d : Nat}, (digR tx e f sp n d).1 + d = sp + (digR tx e f sp n d).2.2
  | 0, sp, n, d => rfl
  | f + 1, sp, n, d => by
    unfold digR
    split
    · have := digR_a (tx := tx) (e := e) (f := f) (sp := sp + 1) (n := 10 * n + tx sp - 48) (d := d + 1); omega
    · rfl
theorem numR_p {tx : Nat → Nat} {e most sp w : Nat} {t : List Nat} (h : (numR tx e t most sp w).2.1 = 0) : w = 0 ∧ sp + t.length + 1 ≤ (numR tx e t most sp w).1 := by
  unfold numR at h ⊢
  split at h
  · rename_i q
    rw [if_pos q]
    have h2 := sayR_p q
    have h3 := digR_a (tx := tx) (e := e) (f := most) (sp := (sayR tx e t sp w).1) (n := 0) (d := 0)
    have h4 : (if (digR tx e most (sayR tx e t sp w).1 0 0).2.2 = 0 then 1 else 0) = 0 := h
    refine ⟨h2.1, ?_⟩
    show sp + t.length + 1 ≤ (digR tx e most (sayR tx e t sp w).1 0 0).1
    split at h4
    · cases h4
    · omega
  · rename_i q; exact absurd h q
theorem seqR_le {tx : Nat → Nat} {e c : Nat} : ∀ {l : List (List Nat × Nat × Nat)} {sp w : Nat} {t : Nat → Nat}, sp ≤ e → w ≤ 1 → sp ≤ (seqR tx e c l (sp, w, t)).1 ∧ (seqR tx e c l (sp, w, t)).1 ≤ e ∧ (seqR tx e c l (sp, w, t)).2.1 ≤ 1
  | [], sp, w, t, h, hw => ⟨Nat.le_refl _, h, hw⟩
  | (p, k, m) :: l, sp, w, t, h, hw => by
    obtain ⟨a, b, d, -⟩ := numR_le (tx := tx) (most := m) (t := p) h hw
    obtain ⟨x, y, z⟩ := seqR_le (tx := tx) (c := c) (l := l) (t := upn t (5 * c + k) (numR tx e p m sp w).2.2) b d
    exact ⟨Nat.le_trans a x, y, z⟩
def slen : List (List Nat × Nat × Nat) → Nat
  | [] => 0
  | (p, _, _) :: l => p.length + 1 + slen l
theorem seqR_q {tx : Nat → Nat} {e c : Nat} : ∀ {l : List (List Nat × Nat × Nat)} {sp w : Nat} {t : Nat → Nat}, (seqR tx e c l (sp, w, t)).2.1 = 0 → w = 0 ∧ sp + slen l ≤ (seqR tx e c l (sp, w, t)).1
  | [], sp, w, t, h => ⟨h, Nat.le_refl _⟩
  | (p, k, m) :: l, sp, w, t, h => by
    obtain ⟨h1, h2⟩ := seqR_q (tx := tx) (e := e) (c := c) (l := l) (sp := (numR tx e p m sp w).1) (w := (numR tx e p m sp w).2.1) (t := upn t (5 * c + k) (numR tx e p m sp w).2.2) h
    obtain ⟨h3, h4⟩ := numR_p h1
    refine ⟨h3, ?_⟩
    show sp + (p.length + 1 + slen l) ≤ (seqR tx e c l ((numR tx e p m sp w).1, (numR tx e p m sp w).2.1, upn t (5 * c + k) (numR tx e p m sp w).2.2)).1
    omega
theorem seqR_keep {tx : Nat → Nat} {e c i : Nat} : ∀ {l : List (List Nat × Nat × Nat)} {s : Nat × Nat × (Nat → Nat)}, (∀ q ∈ l, 1 ≤ q.2.1) → i ≤ 5 * c → (seqR tx e c l s).2.2 i = s.2.2 i
  | [], s, _, _ => rfl
  | (p, k, m) :: l, s, h, hi => by
    show (seqR tx e c l ((numR tx e p m s.1 s.2.1).1, (numR tx e p m s.1 s.2.1).2.1, upn s.2.2 (5 * c + k) (numR tx e p m s.1 s.2.1).2.2)).2.2 i = s.2.2 i
    rw [seqR_keep (fun q hq => h q (List.mem_cons_of_mem _ hq)) hi]
    have hk : 1 ≤ k := h (p, k, m) List.mem_cons_self
    exact upn_n (by omega)
theorem lens9 : slen LJ9 = 12 ∧ slen (LW9 "wind ") = 8 ∧ slen (LW9 "tune ") = 8 ∧ slen (LW9 "buy ") = 7 ∧ slen LE9 = 7 ∧ (tl "quarter").length = 7 ∧ slen LV9 = 8 := by decide +kernel
theorem rdR_le {tx : Nat → Nat} {e c sp : Nat} {t : Nat → Nat} (h : sp ≤ e) : sp ≤ (rdR tx e c sp t).1 ∧ (rdR tx e c sp t).1 ≤ e ∧ (rdR tx e c sp t).2.1 ≤ 1 := by
  unfold rdR LJ9 LW9 LE9 LV9
  have hs := sayR_le (tx := tx) (l := tl "quarter") (w := 0) h
  split
  · exact seqR_le h (Nat.zero_le _)
  split
  · exact seqR_le h (Nat.zero_le _)
  split
  · exact seqR_le h (Nat.zero_le _)
  split
  · split
    · exact seqR_le h (Nat.zero_le _)
    · exact seqR_le h (Nat.zero_le _)
  split
  · exact ⟨hs.1, hs.2.1, hs.2.2 (Nat.zero_le _)⟩
  split
  · exact seqR_le h (Nat.zero_le _)
  · exact ⟨Nat.le_refl _, h, Nat.le_refl _⟩
theorem rdR_p {tx : Nat → Nat} {e c sp : Nat} {t : Nat → Nat} (_ : sp ≤ e) (h0 : (rdR tx e c sp t).2.1 = 0) : sp + 7 ≤ (rdR tx e c sp t).1 ∧ hrE e tx sp ≠ 0 := by
  obtain ⟨l1, l2, l3, l4, l5, l6, l7⟩ := lens9
  unfold rdR at h0 ⊢
  split at h0
  · rename_i q; rw [if_pos q]; have := (seqR_q h0).2; exact ⟨by omega, by omega⟩
  rename_i q17; rw [if_neg q17]
  split at h0
  · rename_i q; rw [if_pos q]; have := (seqR_q h0).2; exact ⟨by omega, by omega⟩
  rename_i q18; rw [if_neg q18]
  split at h0
  · rename_i q; rw [if_pos q]; have := (seqR_q h0).2; exact ⟨by omega, by omega⟩
  rename_i q20; rw [if_neg q20]
  split at h0
  · rename_i q; rw [if_pos q]
    split at h0
    · rename_i qe; rw [if_pos qe]; have := (seqR_q h0).2; exact ⟨by omega, by omega⟩
    · rename_i qe; rw [if_neg qe]; have := (seqR_q h0).2; exact ⟨by omega, by omega⟩
  rename_i q4; rw [if_neg q4]
  split at h0
  · rename_i q; rw [if_pos q]; have := (sayR_p h0).2; exact ⟨by show sp + 7 ≤ (sayR tx e (tl "quarter") sp 0).1; omega, by omega⟩
  rename_i q5; rw [if_neg q5]
  split at h0
  · rename_i q; rw [if_pos q]; have := (seqR_q h0).2; exact ⟨by omega, by omega⟩
  · cases h0
theorem rdR_keep {tx : Nat → Nat} {e c sp i : Nat} {t : Nat → Nat} (hi : i ≤ 5 * c) : (rdR tx e c sp t).2.2 i = rdT tx e c sp t i := by
  unfold rdR LJ9 LW9 LE9 LV9
  split
  · exact seqR_keep (by decide +kernel) hi
  split
  · exact seqR_keep (by decide +kernel) hi
  split
  · exact seqR_keep (by decide +kernel) hi
  split
  · split
    · exact seqR_keep (by decide +kernel) hi
    · exact seqR_keep (by decide +kernel) hi
  split
  · rfl
  split
  · exact seqR_keep (by decide +kernel) hi
  · rfl
/-- the signs that have been read are small -/
theorem rdR_small {tx : Nat → Nat} {e c sp : Nat} {t : Nat → Nat} (ho : ∀ j, tx j < 65536) (h : sp ≤ e) (h0 : (rdR tx e c sp t).2.1 = 0) (ht : ∀ j, j < c → t (5 * j) < 2147483648) : ∀ j, j < c + 1 → (rdR tx e c sp t).2.2 (5 * j) < 2147483648 := by
  intro j hj
  rw [rdR_keep (by omega)]
  unfold rdT
  by_cases e1 : j = c
  · subst e1
    rw [upn_s]
    have h1 := (rdR_p h h0).2
    have h2 := hrE_le (e := e) (sp := sp) ho
    unfold srtN
    (repeat' split) <;> omega
  · rw [upn_n (by omega)]; exact ht j (by omega)
def prgR (tx : Nat → Nat) (e : Nat) : Nat → Nat → Nat → (Nat → Nat) → Nat × Nat × Nat × (Nat → Nat)
  | 0, c, sp, t => (c, sp, 1, t)
  | f + 1, c, sp, t => if (rdR tx e c sp t).2.1 = 0 ∧ hrE e tx (rdR tx e c sp t).1 = 60 then prgR tx e f (c + 1) ((rdR tx e c sp t).1 + 1) (rdR tx e c sp t).2.2 else (c + 1, (rdR tx e c sp t).1, (rdR tx e c sp t).2.1, (rdR tx e c sp t).2.2)
theorem prgR_s {tx : Nat → Nat} {e f c sp a w : Nat} {t t' : Nat → Nat} (h : rdR tx e c sp t = (a, w, t')) : prgR tx e (f + 1) c sp t = if w = 0 ∧ hrE e tx a = 60 then prgR tx e f (c + 1) (a + 1) t' else (c + 1, a, w, t') := by
  show (if (rdR tx e c sp t).2.1 = 0 ∧ hrE e tx (rdR tx e c sp t).1 = 60 then _ else _) = _
  rw [h]
/-- the state after so many of a program's commands -/
def exG (g : GG) (t : Nat → Nat) : Nat → GG
  | 0 => g
  | k + 1 => doG (exG g t k) (t (5 * k)) (t (5 * k + 1)) (t (5 * k + 2)) (t (5 * k + 3)) (t (5 * k + 4))
def exF (g : GG) (t : Nat → Nat) (k : Nat) : Nat := doF (exG g t k) (t (5 * k)) (t (5 * k + 1)) (t (5 * k + 2)) (t (5 * k + 3)) (t (5 * k + 4))
/-- the first that fails -/
def exN (g : GG) (t : Nat → Nat) (c : Nat) : Nat := fst1 (fun k => decide (exF g t k ≠ 0)) c
theorem exN_at {g : GG} {t : Nat → Nat} {c k : Nat} (h1 : exF g t k ≠ 0) (h2 : ∀ j, j < k → exF g t j = 0) (hk : k < c) : exN g t c = k := by
  unfold exN
  exact fst1_at (p := fun k => decide (exF g t k ≠ 0)) (decide_eq_true h1) (fun j hj => decide_eq_false (fun q => q (h2 j hj))) hk
theorem exN_none {g : GG} {t : Nat → Nat} {c : Nat} (h2 : ∀ j, j < c → exF g t j = 0) : exN g t c = c := by
  unfold exN
  exact fst1_none (p := fun k => decide (exF g t k ≠ 0)) (fun j hj => decide_eq_false (fun q => q (h2 j hj)))
