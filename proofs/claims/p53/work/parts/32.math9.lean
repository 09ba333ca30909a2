/-! reading a program -/
def hrE (e : Nat) (tx : Nat → Nat) (sp : Nat) : Nat := if sp < e then tx sp + 1 else 0
theorem hrE_le {e : Nat} {tx : Nat → Nat} {sp : Nat} (h : ∀ j, tx j < 65536) : hrE e tx sp ≤ 65536 := by
  unfold hrE
  split
  · have := h sp; omega
  · omega
theorem hrE_eq {e : Nat} {tx : Nat → Nat} {sp c : Nat} (h : hrE e tx sp = c + 1) : sp < e ∧ tx sp = c := by
  unfold hrE at h
  split at h
  · exact ⟨by assumption, by omega⟩
  · omega
theorem hrE_of {e : Nat} {tx : Nat → Nat} {sp : Nat} (h : sp < e) : hrE e tx sp = tx sp + 1 := if_pos h
theorem hrE_v {e : Nat} {tx : Nat → Nat} {sp : Nat} (h : hrE e tx sp ≠ 0) : nI (hrE e tx sp) - 1 = nI (tx sp) := by
  have h1 : sp < e := Decidable.byContradiction (fun q => h (if_neg q))
  rw [hrE_of h1]
  exact (m1_of _).symm
/-- signs, one behind another: the place, and whether it went wrong -/
def sayR (tx : Nat → Nat) (e : Nat) : List Nat → Nat → Nat → Nat × Nat
  | [], sp, w => (sp, w)
  | c :: l, sp, w => if w = 0 then (if sp < e ∧ tx sp = c then sayR tx e l (sp + 1) 0 else (sp, 1)) else (sp, w)
/-- digits, at most so many: the place, the number, how many -/
def digR (tx : Nat → Nat) (e : Nat) : Nat → Nat → Nat → Nat → Nat × Nat × Nat
  | 0, sp, n, d => (sp, n, d)
  | f + 1, sp, n, d => if sp < e ∧ 48 ≤ tx sp ∧ tx sp ≤ 57 then digR tx e f (sp + 1) (10 * n + tx sp - 48) (d + 1) else (sp, n, d)
def numR (tx : Nat → Nat) (e : Nat) (t : List Nat) (most sp w : Nat) : Nat × Nat × Nat :=
  if (sayR tx e t sp w).2 = 0 then
    ((digR tx e most (sayR tx e t sp w).1 0 0).1, (if (digR tx e most (sayR tx e t sp w).1 0 0).2.2 = 0 then 1 else 0), (digR tx e most (sayR tx e t sp w).1 0 0).2.1)
  else ((sayR tx e t sp w).1, (sayR tx e t sp w).2, 0)
def tl (t : String) : List Nat := t.toList.map (fun c => c.toNat)
theorem tl_len (t : String) : (tl t).length = t.length := by unfold tl; rw [List.length_map]; rfl
theorem tl_drop {t : String} {k : Nat} (h : k < t.length) : (tl t).drop k = sch t k :: (tl t).drop (k + 1) := by
  have h' : k < (tl t).length := by rw [tl_len]; exact h
  rw [List.drop_eq_getElem_cons h']
  congr 1
  unfold sch
  show (tl t)[k] = (tl t).getD k 0
  rw [List.getD_eq_getElem?_getD, List.getElem?_eq_getElem h']
  rfl
theorem sayR_le {tx : Nat → Nat} {e : Nat} {l : List Nat} : ∀ {sp w : Nat}, sp ≤ e → sp ≤ (sayR tx e l sp w).1 ∧ (sayR tx e l sp w).1 ≤ e ∧ (w ≤ 1 → (sayR tx e l sp w).2 ≤ 1) := by
  induction l with
  | nil => intro sp w h; exact ⟨Nat.le_refl _, h, fun q => q⟩
  | cons c l ih =>
    intro sp w h
    unfold sayR
    split
    · split
      · obtain ⟨a, b, d⟩ := ih (sp := sp + 1) (w := 0) (by omega)
        exact ⟨by omega, b, fun _ => d (by omega)⟩
      · exact ⟨Nat.le_refl _, h, fun _ => Nat.le_refl _⟩
    · exact ⟨Nat.le_refl _, h, fun q => q⟩
theorem sayR_w {tx : Nat → Nat} {e : Nat} {l : List Nat} {sp w : Nat} (h : w ≠ 0) : sayR tx e l sp w = (sp, w) := by
  cases l with
  | nil => rfl
  | cons c l => show (if w = 0 then _ else _) = _; rw [if_neg h]
theorem sayR_t {tx : Nat → Nat} {e c sp : Nat} {l : List Nat} (h1 : sp < e) (h2 : tx sp = c) : sayR tx e (c :: l) sp 0 = sayR tx e l (sp + 1) 0 := by
  show (if (0 : Nat) = 0 then (if sp < e ∧ tx sp = c then _ else _) else _) = _
  rw [if_pos rfl, if_pos ⟨h1, h2⟩]
theorem sayR_f {tx : Nat → Nat} {e c sp : Nat} {l : List Nat} (h : ¬ (sp < e ∧ tx sp = c)) : sayR tx e (c :: l) sp 0 = (sp, 1) := by
  show (if (0 : Nat) = 0 then (if sp < e ∧ tx sp = c then _ else _) else _) = _
  rw [if_pos rfl, if_neg h]
theorem digR_le {tx : Nat → Nat} {e : Nat} : ∀ {f sp n d : Nat}, sp ≤ e → sp ≤ (digR tx e f sp n d).1 ∧ (digR tx e f sp n d).1 ≤ e ∧ d ≤ (digR tx e f sp n d).2.2 ∧ (digR tx e f sp n d).2.2 ≤ d + f
  | 0, sp, n, d, h => ⟨Nat.le_refl _, h, Nat.le_refl _, Nat.le_refl _⟩
  | f + 1, sp, n, d, h => by
    unfold digR
    split
    · rename_i q
      obtain ⟨a, b, c, g⟩ := digR_le (f := f) (n := 10 * n + tx sp - 48) (d := d + 1) (show sp + 1 ≤ e by omega)
      exact ⟨by omega, b, by omega, by omega⟩
    · exact ⟨Nat.le_refl _, h, Nat.le_refl _, Nat.le_add_right _ _⟩
theorem digR_n {tx : Nat → Nat} {e : Nat} : ∀ {f sp n d : Nat}, n + 1 ≤ 10 ^ d → (digR tx e f sp n d).2.1 + 1 ≤ 10 ^ (digR tx e f sp n d).2.2
  | 0, sp, n, d, h => h
  | f + 1, sp, n, d, h => by
    unfold digR
    split
    · rename_i q
      exact digR_n (f := f) (by rw [Nat.pow_succ]; omega)
    · exact h
theorem digR_t {tx : Nat → Nat} {e f sp n d : Nat} (h : sp < e ∧ 48 ≤ tx sp ∧ tx sp ≤ 57) : digR tx e (f + 1) sp n d = digR tx e f (sp + 1) (10 * n + tx sp - 48) (d + 1) := by
  show (if _ then _ else _) = _; rw [if_pos h]
theorem digR_f {tx : Nat → Nat} {e f sp n d : Nat} (h : ¬ (sp < e ∧ 48 ≤ tx sp ∧ tx sp ≤ 57)) : digR tx e f sp n d = (sp, n, d) := by
  cases f with
  | zero => rfl
  | succ f => show (if _ then _ else _) = _; rw [if_neg h]
theorem z_id2 {z : Nat → Nat} : upn (upn z 8 (z 8)) 11 (z 11) = z := by
  funext j; unfold upn
  by_cases h : j = 11
  · rw [if_pos h, h]
  · rw [if_neg h]
    by_cases h8 : j = 8
    · rw [if_pos h8, h8]
    · rw [if_neg h8]
theorem z_811 {z : Nat → Nat} {a b a' b' : Nat} : upn (upn (upn (upn z 8 a) 11 b) 11 b') 8 a' = upn (upn z 8 a') 11 b' := by
  funext j; unfold upn
  by_cases h : j = 11
  · rw [if_neg (by omega), if_pos h, if_pos h]
  · by_cases h8 : j = 8
    · rw [if_pos h8, if_neg h, if_pos h8]
    · rw [if_neg h8, if_neg h, if_neg h, if_neg h8, if_neg h, if_neg h8]
theorem z_118 {z : Nat → Nat} {a b a' : Nat} : upn (upn (upn z 8 a) 11 b) 8 a' = upn (upn z 8 a') 11 b := by
  funext j; unfold upn
  by_cases h : j = 11
  · rw [if_neg (by omega), if_pos h, if_pos h]
  · by_cases h8 : j = 8
    · rw [if_pos h8, if_neg h, if_pos h8]
    · rw [if_neg h8, if_neg h, if_neg h8, if_neg h, if_neg h8]
theorem z_811b {z : Nat → Nat} {a b b' : Nat} : upn (upn (upn z 8 a) 11 b) 11 b' = upn (upn z 8 a) 11 b' := upn_upn
