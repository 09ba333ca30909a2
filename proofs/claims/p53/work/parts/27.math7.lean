/-! the reference: what is asked of beats, of motions, and its texts -/
def alB (g : GG) (b : Nat) : Nat → Bool
  | 0 => true
  | j + 1 => alB g b j && dueB g j b
theorem alB_iff {g : GG} {b : Nat} : ∀ {n : Nat}, alB g b n = true ↔ ∀ m, m < n → dueB g m b = true
  | 0 => ⟨fun _ m hm => absurd hm (Nat.not_lt_zero _), fun _ => rfl⟩
  | n + 1 => by
    show (alB g b n && dueB g n b) = true ↔ _
    rw [Bool.and_eq_true, alB_iff]
    constructor
    · rintro ⟨h1, h2⟩ m hm
      rcases Nat.lt_or_ge m n with q | q
      · exact h1 m q
      · rw [show m = n by omega]; exact h2
    · intro h; exact ⟨fun m hm => h m (by omega), h n (by omega)⟩
theorem alB_chor {g : GG} {b : Nat} (h0 : 0 < g 8 0) : chor g b = alB g b (g 8 0) := by
  unfold chor
  cases h : alB g b (g 8 0) with
  | true => exact decide_eq_true ⟨h0, alB_iff.mp h⟩
  | false => exact decide_eq_false (fun q => by rw [alB_iff.mpr q.2] at h; cases h)
theorem chor_0 {g : GG} {b : Nat} (h0 : ¬ 0 < g 8 0) : chor g b = false := decide_eq_false (fun q => h0 q.1)
theorem bI_if {b : Bool} : nI (if b = true then 1 else 0) = bI b := by cases b <;> rfl
theorem few8_t {g : GG} {i : Nat} (h1 : wnB g i = true) (h2 : pcn i < few8 g i) : few8 g (i + 1) = pcn i := by
  show (if wnB g i = true ∧ pcn i < few8 g i then pcn i else few8 g i) = _; rw [if_pos ⟨h1, h2⟩]
theorem few8_f {g : GG} {i : Nat} (h : ¬ (wnB g i = true ∧ pcn i < few8 g i)) : few8 g (i + 1) = few8 g i := by
  show (if wnB g i = true ∧ pcn i < few8 g i then pcn i else few8 g i) = _; rw [if_neg h]
theorem pcl_le {n k : Nat} : sm (fun b => if n.testBit b then 1 else 0) k ≤ k := by
  have := sm_le (f := fun b => if n.testBit b then 1 else 0) (c := 1) (n := k) (fun b _ => by show (if _ then 1 else 0) ≤ 1; split <;> omega)
  omega
theorem upn_upn {f : Nat → Nat} {k v w : Nat} : upn (upn f k v) k w = upn f k w := by
  funext j; unfold upn; split <;> rfl
/-- numbers written down -/
def dgs (n : Nat) : List Nat := (if 99999 < n then [48 + n / 100000 % 10] else []) ++ ((if 9999 < n then [48 + n / 10000 % 10] else []) ++ ((if 999 < n then [48 + n / 1000 % 10] else []) ++ ((if 99 < n then [48 + n / 100 % 10] else []) ++ ((if 9 < n then [48 + n / 10 % 10] else []) ++ [48 + n % 10]))))
def putL (f : Nat → Nat) : Nat → List Nat → Nat → Nat
  | _, [] => f
  | p, c :: l => putL (upn f p c) (p + 1) l
theorem putL_app {f : Nat → Nat} : ∀ {p : Nat} {l1 l2 : List Nat}, putL (putL f p l1) (p + l1.length) l2 = putL f p (l1 ++ l2)
  | _, [], _ => rfl
  | p, c :: l1, l2 => by
    show putL (putL (upn f p c) (p + 1) l1) (p + (l1.length + 1)) l2 = putL (upn f p c) (p + 1) (l1 ++ l2)
    rw [show p + (l1.length + 1) = p + 1 + l1.length by omega]
    exact putL_app
theorem putL_lo {l : List Nat} : ∀ {f : Nat → Nat} {p j : Nat}, j < p → putL f p l j = f j := by
  induction l with
  | nil => intro f p j h; rfl
  | cons c l ih => intro f p j h; show putL (upn f p c) (p + 1) l j = f j; rw [ih (by omega), upn_n (by omega)]
theorem putL_at {l : List Nat} : ∀ {f : Nat → Nat} {p j : Nat}, j < l.length → putL f p l (p + j) = l.getD j 0 := by
  induction l with
  | nil => intro f p j h; exact absurd h (Nat.not_lt_zero _)
  | cons c l ih =>
    intro f p j h
    show putL (upn f p c) (p + 1) l (p + j) = _
    match j with
    | 0 => show putL (upn f p c) (p + 1) l p = c; rw [putL_lo (by omega), upn_s]
    | j + 1 => rw [show p + (j + 1) = p + 1 + j by omega, ih (by simpa using h)]; rfl
theorem dgs_len {n : Nat} : (dgs n).length ≤ 6 := by
  unfold dgs
  simp only [List.length_append]
  (repeat' split) <;> simp
/-- a member's text -/
def memL (g : GG) (m : Nat) : List Nat := dgs (g 0 m) ++ (37 :: (dgs (g 1 m) ++ (43 :: (dgs (g 2 m) ++ (94 :: (dgs (g 3 m) ++ (126 :: (dgs (g 4 m) ++ (36 :: dgs (g 5 m))))))))))
theorem memL_len {g : GG} {m : Nat} : (memL g m).length ≤ 41 := by
  have h0 := dgs_len (n := g 0 m)
  have h1 := dgs_len (n := g 1 m)
  have h2 := dgs_len (n := g 2 m)
  have h3 := dgs_len (n := g 3 m)
  have h4 := dgs_len (n := g 4 m)
  have h5 := dgs_len (n := g 5 m)
  unfold memL
  simp only [List.length_append, List.length_cons]
  omega
/-- the beats until a chorus, less one; 60 where there is none -/
def fsC (g : GG) : Nat := fst1 (fun k => chor g (g 8 1 + (k + 1))) 60
theorem fsC_none {g : GG} (h : ∀ k, k < 60 → chor g (g 8 1 + (k + 1)) = false) : fsC g = 60 := by unfold fsC; exact fst1_none (p := fun k => chor g (g 8 1 + (k + 1))) h
theorem fsC_at {g : GG} {i : Nat} (h1 : chor g (g 8 1 + (i + 1)) = true) (h2 : ∀ k, k < i → chor g (g 8 1 + (k + 1)) = false) (hi : i < 60) : fsC g = i := by unfold fsC; exact fst1_at (p := fun k => chor g (g 8 1 + (k + 1))) (i := i) h1 h2 hi
theorem i2c_n {n : Nat} (h : n < 65536) : ((nI n).toUInt32 % 65536).toInt32 = nI n := (pk_char (nI n)).trans (congrArg nI (by show n % 2 ^ 32 % 65536 = n; omega))
