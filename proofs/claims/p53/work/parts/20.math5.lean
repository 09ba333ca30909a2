/-! the reference: its cells -/
def flat (g : GG) : Nat → Nat := fun k => if k < 8 then g 8 k else if k < 64 then g ((k - 8) % 7) ((k - 8) / 7) else g 7 (k - 64)
def hfl (gs : Nat → GG) : Nat → Nat := fun j => flat (gs (3 + j / 74)) (j % 74)
def moF (g : GG) (gs : Nat → GG) (ar : GG) : GG := fun i => match i with
  | 0 => flat g
  | 1 => flat (gs 0)
  | 2 => flat (gs 1)
  | 3 => hfl gs
  | 4 => flat (gs 2)
  | 5 => ar 0
  | 6 => ar 1
  | _ => ar 2
def moR (E : EE) (b : Nat → Nat) (z : Nat → Nat) (F : GG) : va_W := [(b 0, .inr (10, [.int (nI (z 0)), .ref (b 1), .ref (b 2), .ref (b 3), .ref (b 4), .ref (b 5), .int (nI (z 1)), .int (nI (z 2)), .ref (b 6), .ref (b 7), .ref (b 8), .int (nI (z 3)), .int (nI (z 4)), .int (nI (z 5) - 1), .int (nI (z 6) - 1), .int (nI (z 7)), .int (nI (z 8)), .int (nI (z 9)), .int (nI (z 10)), .int (nI (z 11))])),
  (b 1, .inl (E.2.1 0, 74, .inl (fun j => nI (F 0 j)))), (b 2, .inl (E.2.1 0, 74, .inl (fun j => nI (F 1 j)))), (b 3, .inl (E.2.1 0, 74, .inl (fun j => nI (F 2 j)))), (b 4, .inl (E.2.1 0, 592, .inl (fun j => nI (F 3 j)))), (b 5, .inl (E.2.1 0, 74, .inl (fun j => nI (F 4 j)))), (b 6, .inl (E.2.1 0, 60, .inl (fun j => nI (F 5 j)))), (b 7, .inl (E.2.1 0, 300, .inl (fun j => nI (F 6 j)))), (b 8, .inl (E.2.1 0, 60, .inl (fun j => nI (F 7 j))))]
abbrev moC (E : EE) (b : Nat → Nat) (z : Nat → Nat) (g : GG) (gs : Nat → GG) (ar : GG) : va_W := moR E b z (moF g gs ar)
theorem flat_mem {g : GG} {m w : Nat} (hw : w < 7) (hm : m < 8) : flat g (8 + 7 * m + w) = g w m := by
  unfold flat
  rw [if_neg (by omega), if_pos (by omega), show (8 + 7 * m + w - 8) % 7 = w by omega, show (8 + 7 * m + w - 8) / 7 = m by omega]
theorem flat_bad {g : GG} {k : Nat} : flat g (64 + k) = g 7 k := by
  unfold flat
  rw [if_neg (by omega), if_neg (by omega), show 64 + k - 64 = k by omega]
theorem flat_set {g : GG} {m w v : Nat} (hw : w < 7) (hm : m < 8) : upn (flat g) (8 + 7 * m + w) v = flat (up2 g w m v) := by
  funext k
  unfold upn flat up2 upr upn
  by_cases h1 : k < 8
  · rw [if_neg (by omega), if_pos h1, if_pos h1, if_neg (by omega)]
  · rw [if_neg h1, if_neg h1]
    by_cases h2 : k < 64
    · rw [if_pos h2, if_pos h2]
      by_cases e : k = 8 + 7 * m + w
      · subst e
        rw [if_pos rfl, show (8 + 7 * m + w - 8) % 7 = w by omega, show (8 + 7 * m + w - 8) / 7 = m by omega, if_pos rfl, if_pos rfl]
      · rw [if_neg e]
        by_cases q : (k - 8) % 7 = w
        · rw [if_pos q, if_neg (by omega), q]
        · rw [if_neg q]
    · rw [if_neg h2, if_neg h2, if_neg (by omega), if_neg (by omega)]
theorem flat_set8 {g : GG} {k v : Nat} (hk : k < 8) : upn (flat g) k v = flat (up2 g 8 k v) := by
  funext j
  unfold upn flat up2 upr upn
  by_cases h1 : j < 8
  · rw [if_pos h1, if_pos h1, if_pos rfl]
  · rw [if_neg (by omega), if_neg h1, if_neg h1]
    by_cases h2 : j < 64
    · rw [if_pos h2, if_pos h2, if_neg (by omega)]
    · rw [if_neg h2, if_neg h2, if_neg (by omega)]
theorem flat_setb {g : GG} {k v : Nat} : upn (flat g) (64 + k) v = flat (up2 g 7 k v) := by
  funext j
  unfold upn flat up2 upr upn
  by_cases h1 : j < 8
  · rw [if_neg (by omega), if_pos h1, if_pos h1, if_neg (by omega)]
  · rw [if_neg h1, if_neg h1]
    by_cases h2 : j < 64
    · rw [if_neg (by omega), if_pos h2, if_pos h2, if_neg (by omega)]
    · rw [if_neg h2, if_neg h2, if_pos rfl]
      by_cases e : j = 64 + k
      · rw [if_pos e, if_pos (by omega)]
      · rw [if_neg e, if_neg (by omega)]
theorem flat_upr {g : GG} {F : Nat → Nat} : flat (upr g 7 F) = fun k => if 64 ≤ k then F (k - 64) else flat g k := by
  funext k
  unfold flat upr
  by_cases h1 : k < 8
  · rw [if_pos h1, if_neg (by omega), if_neg (by omega), if_pos h1]
  · rw [if_neg h1, if_neg h1]
    by_cases h2 : k < 64
    · rw [if_pos h2, if_neg (by omega), if_neg (by omega), if_pos h2]
    · rw [if_neg h2, if_pos rfl, if_pos (by omega)]
/-- the intervals as the reference finds them -/
theorem ap_mod {x y : Nat} (hx : x ≤ 11) (hy : y ≤ 11) : (if 6 < (x + 12 - y) % 12 then 12 - (x + 12 - y) % 12 else (x + 12 - y) % 12) = ap x y := by
  unfold ap
  (repeat' split) <;> omega
theorem tmod_nat {x y : Nat} (h : y ≤ x) : ((x : Int) - (y : Int)) = ((x - y : Nat) : Int) := by omega
def chK (k : Nat) : Nat := if k = 8 then 8 else k + 1
def chS (k : Nat) (gs : Nat → GG) : Nat → GG := upa (fun i => if k = 8 ∧ 3 ≤ i ∧ i < 10 then gs (i + 1) else gs i) (2 + chK k) (gs 0)
theorem hfl_shift {gs : Nat → GG} : fl (hfl gs) (fun j => hfl gs (j + 74)) 518 = hfl (fun i => if 3 ≤ i ∧ i < 10 then gs (i + 1) else gs i) := by
  funext j
  unfold fl hfl
  by_cases h : j < 518
  · rw [if_pos h]
    show flat (gs (3 + (j + 74) / 74)) ((j + 74) % 74) = flat (if 3 ≤ 3 + j / 74 ∧ 3 + j / 74 < 10 then gs (3 + j / 74 + 1) else gs (3 + j / 74)) (j % 74)
    rw [if_pos (by omega), show (j + 74) / 74 = j / 74 + 1 by omega, show (j + 74) % 74 = j % 74 by omega]
    rfl
  · rw [if_neg h]
    show flat (gs (3 + j / 74)) (j % 74) = flat (if 3 ≤ 3 + j / 74 ∧ 3 + j / 74 < 10 then gs (3 + j / 74 + 1) else gs (3 + j / 74)) (j % 74)
    rw [if_neg (by omega)]
def hput (h f : Nat → Nat) (q k : Nat) : Nat → Nat := fun j => if 74 * q ≤ j ∧ j < 74 * q + k then f (j - 74 * q) else h j
theorem hput_0 {h f : Nat → Nat} {q : Nat} : hput h f q 0 = h := by funext j; unfold hput; rw [if_neg (by omega)]
theorem hput_s {h f : Nat → Nat} {q k : Nat} : upn (hput h f q k) (74 * q + k) (f k) = hput h f q (k + 1) := by
  funext j
  unfold upn hput
  by_cases e : j = 74 * q + k
  · subst e; rw [if_pos rfl, if_pos (by omega), show 74 * q + k - 74 * q = k by omega]
  · rw [if_neg e]
    by_cases g : 74 * q ≤ j ∧ j < 74 * q + k
    · rw [if_pos g, if_pos (by omega)]
    · rw [if_neg g, if_neg (by omega)]
theorem hput_74 {gs : Nat → GG} {f : GG} {q : Nat} : hput (hfl gs) (flat f) q 74 = hfl (upa gs (3 + q) f) := by
  funext j
  unfold hput hfl upa
  by_cases e : 74 * q ≤ j ∧ j < 74 * q + 74
  · rw [if_pos e, if_pos (by omega), show j % 74 = j - 74 * q by omega]
  · rw [if_neg e, if_neg (by omega)]
theorem hfl_at {gs : Nat → GG} {q k : Nat} (hk : k < 74) : hfl gs (74 * q + k) = flat (gs (3 + q)) k := by
  unfold hfl
  rw [show (74 * q + k) / 74 = q by omega, show (74 * q + k) % 74 = k by omega]
theorem eq_nN {x : Int32} {Y : Int} {n : Nat} (h : x.toInt = Y) (e : Y = (n : Int)) (hz : n < 2147483648) : x = nI n := by
  refine Int32.toInt_inj.mp ?_
  rw [h, e, nI_toInt hz]
/-- what the dividends need of a state -/
def IC (g : GG) : Prop := (g 8 0 ≤ 8 ∧ g 8 2 ≤ 300000) ∧ ∀ m, m < g 8 0 → 1 ≤ g 0 m ∧ g 0 m ≤ 50
theorem IB.ic {B : Nat} {g : GG} (h : IB B g) : IC g := ⟨⟨h.mc, by have := h.bud; omega⟩, fun m hm => (h.mem hm).1⟩
theorem IC.pos {g : GG} (h : IC g) (hm : 0 < g 8 0) : 0 < allSh g := Nat.lt_of_lt_of_le (h.2 0 hm).1 (sm_part hm)
theorem IC.shs {g : GG} (h : IC g) {i : Nat} (hi : i ≤ g 8 0) : sm (g 0) i ≤ 50 * i := sm_le (fun k hk => (h.2 k (Nat.lt_of_lt_of_le hk hi)).2)
theorem IC.dqb {g : GG} (h : IC g) (hT : 0 < allSh g) {m : Nat} (hm : m < g 8 0) : dq g m ≤ 300000 := by
  have h1 := sm_part (f := dq g) hm
  have h2 := dq_le hT (Nat.le_refl (g 8 0))
  have h3 := h.1.2
  omega
theorem dv_upr5 {g : GG} {F : Nat → Nat} {m : Nat} : dv (upr g 5 F) m = dv g m := rfl
theorem up2_id {g : GG} {w k v : Nat} (h : g w k = v) : up2 g w k v = g := by
  funext w' j
  unfold up2 upr upn
  by_cases e : w' = w
  · subst e
    rw [if_pos rfl]
    by_cases q : j = k
    · subst q; rw [if_pos rfl, h]
    · rw [if_neg q]
  · rw [if_neg e]
theorem joinG_eq {B : Nat} {g : GG} (h : IB B g) {a b c d : Nat} : up2 (up2 (up2 (up2 (up2 g 0 (g 8 0) a) 1 (g 8 0) b) 2 (g 8 0) c) 3 (g 8 0) d) 8 0 (g 8 0 + 1) = joinG g a b c d := by
  obtain ⟨z4, z5, z6⟩ := h.2.2.1 (g 8 0) (Nat.le_refl _)
  unfold joinG
  rw [up2_id (w := 4) (show up2 (up2 (up2 (up2 g 0 (g 8 0) a) 1 (g 8 0) b) 2 (g 8 0) c) 3 (g 8 0) d 4 (g 8 0) = 0 from z4), up2_id (w := 5) (show up2 (up2 (up2 (up2 g 0 (g 8 0) a) 1 (g 8 0) b) 2 (g 8 0) c) 3 (g 8 0) d 5 (g 8 0) = 0 from z5), up2_id (w := 6) (show up2 (up2 (up2 (up2 g 0 (g 8 0) a) 1 (g 8 0) b) 2 (g 8 0) c) 3 (g 8 0) d 6 (g 8 0) = 0 from z6)]
/-- clashes, pair by pair -/
def stM (g : GG) : Nat → Nat
  | 0 => 0
  | k + 1 => if chp g k then stM g k ||| 1 * 2 ^ k else stM g k
theorem stM_t {g : GG} {k : Nat} (h : chp g k = true) : stM g k ||| 1 * 2 ^ k = stM g (k + 1) := by show _ = if _ then _ else _; rw [if_pos h]
theorem stM_f {g : GG} {k : Nat} (h : chp g k = false) : stM g k = stM g (k + 1) := by show _ = if _ then _ else _; rw [if_neg (by rw [h]; decide)]
theorem stM_lt {g : GG} : ∀ {k : Nat}, stM g k < 2 ^ k
  | 0 => by show 0 < 1; decide
  | k + 1 => by
    have h1 := stM_lt (g := g) (k := k)
    have h2 : (2 : Nat) ^ k < 2 ^ (k + 1) := Nat.pow_lt_pow_right (by decide) (by omega)
    show (if _ then _ else _) < _
    split
    · exact Nat.or_lt_two_pow (by omega) (by rw [Nat.one_mul]; exact h2)
    · omega
theorem stM_bit {g : GG} : ∀ {k a : Nat}, (stM g k).testBit a = (decide (a < k) && chp g a)
  | 0, a => by show Nat.testBit 0 a = _; rw [Nat.zero_testBit]; simp
  | k + 1, a => by
    show (if chp g k then stM g k ||| 1 * 2 ^ k else stM g k).testBit a = _
    by_cases e : k = a
    · subst e
      by_cases h : chp g k = true
      · rw [if_pos h, Nat.testBit_or, Nat.one_mul, Nat.testBit_two_pow, h]; simp
      · rw [if_neg h, stM_bit]; simp [h]
    · have hd : decide (a < k + 1) = decide (a < k) := decide_eq_decide.mpr (by omega)
      by_cases h : chp g k = true
      · rw [if_pos h, Nat.testBit_or, Nat.one_mul, Nat.testBit_two_pow, decide_eq_false e, stM_bit, Bool.or_false, hd]
      · rw [if_neg h, stM_bit, hd]
def cl2 (g : GG) (x y : Nat) : Bool := chp g x && chp g y && decide (ap (g 3 x) (g 3 y) = 1 ∨ ap (g 3 x) (g 3 y) = 6)
def spI (g : GG) (a : Nat) : Nat → Bool
  | 0 => false
  | b + 1 => spI g a b || cl2 g a b
def spO (g : GG) : Nat → Bool
  | 0 => false
  | a + 1 => spO g a || spI g a a
theorem ors_t {A B c : Bool} (h : c = true) : (if (A || (B || c)) = true then 1 else 0) = ((if (A || B) = true then 1 else 0) ||| 1) := by subst h; cases A <;> cases B <;> rfl
theorem ors_f {A B c : Bool} (h : c = false) : (if (A || (B || c)) = true then 1 else 0) = ((if (A || B) = true then 1 else 0) ||| 0) := by subst h; cases A <;> cases B <;> rfl
theorem spI_iff {g : GG} {a : Nat} : ∀ {b : Nat}, spI g a b = true ↔ ∃ y, y < b ∧ cl2 g a y = true
  | 0 => ⟨fun h => (by cases h), fun ⟨y, h, _⟩ => absurd h (Nat.not_lt_zero _)⟩
  | b + 1 => by
    show (spI g a b || cl2 g a b) = true ↔ _
    rw [Bool.or_eq_true, spI_iff]
    constructor
    · rintro (⟨y, h1, h2⟩ | h)
      · exact ⟨y, by omega, h2⟩
      · exact ⟨b, by omega, h⟩
    · rintro ⟨y, h1, h2⟩
      rcases Nat.lt_or_ge y b with q | q
      · exact Or.inl ⟨y, q, h2⟩
      · rw [show y = b by omega] at h2; exact Or.inr h2
theorem spO_iff {g : GG} : ∀ {a : Nat}, spO g a = true ↔ ∃ x y, x < a ∧ y < x ∧ cl2 g x y = true
  | 0 => ⟨fun h => (by cases h), fun ⟨x, y, h, _⟩ => absurd h (Nat.not_lt_zero _)⟩
  | a + 1 => by
    show (spO g a || spI g a a) = true ↔ _
    rw [Bool.or_eq_true, spO_iff, spI_iff]
    constructor
    · rintro (⟨x, y, h1, h2, h3⟩ | ⟨y, h1, h2⟩)
      · exact ⟨x, y, by omega, h2, h3⟩
      · exact ⟨a, y, by omega, h1, h2⟩
    · rintro ⟨x, y, h1, h2, h3⟩
      rcases Nat.lt_or_ge x a with q | q
      · exact Or.inl ⟨x, y, q, h2, h3⟩
      · have : x = a := by omega
        subst this
        exact Or.inr ⟨y, h2, h3⟩
theorem msk_bit {g : GG} : ∀ {k t : Nat}, (msk g k).testBit t = true ↔ ∃ m, m < k ∧ chp g m = true ∧ g 3 m = t
  | 0, t => by
    show Nat.testBit 0 t = true ↔ _
    rw [Nat.zero_testBit]
    exact ⟨fun h => (by cases h), fun ⟨m, h, _⟩ => absurd h (Nat.not_lt_zero _)⟩
  | k + 1, t => by
    show (if chp g k then msk g k ||| 1 * 2 ^ (g 3 k) else msk g k).testBit t = true ↔ _
    by_cases h : chp g k = true
    · rw [if_pos h, Nat.testBit_or, Bool.or_eq_true, msk_bit, Nat.one_mul, Nat.testBit_two_pow, decide_eq_true_eq]
      constructor
      · rintro (⟨m, h1, h2⟩ | e)
        · exact ⟨m, by omega, h2⟩
        · exact ⟨k, by omega, h, e⟩
      · rintro ⟨m, h1, h2, h3⟩
        rcases Nat.lt_or_ge m k with q | q
        · exact Or.inl ⟨m, q, h2, h3⟩
        · rw [show m = k by omega] at h3; exact Or.inr h3
    · rw [if_neg h, msk_bit]
      constructor
      · rintro ⟨m, h1, h2⟩; exact ⟨m, by omega, h2⟩
      · rintro ⟨m, h1, h2, h3⟩
        rcases Nat.lt_or_ge m k with q | q
        · exact ⟨m, q, h2, h3⟩
        · rw [show m = k by omega] at h2; exact absurd h2 h
/-- a set of tones turned by k has a tone in common with itself -/
theorem rot_iff {s k : Nat} (hs : s < 4096) (hk : k ≤ 6) : s &&& rotN s k ≠ 0 ↔ ∃ t, t < 12 ∧ s.testBit t = true ∧ s.testBit ((t + 12 - k) % 12) = true := by
  have hb : ∀ t, t < 12 → (rotN s k).testBit t = s.testBit ((t + 12 - k) % 12) := fun t ht => by
    unfold rotN
    rw [Nat.testBit_and, Nat.testBit_or, Nat.testBit_mul_two_pow, Nat.testBit_div_two_pow, show (4095 : Nat) = 2 ^ 12 - 1 from rfl, Nat.testBit_two_pow_sub_one, decide_eq_true ht, Bool.and_true]
    rcases Nat.lt_or_ge t k with q | q
    · rw [decide_eq_false (by omega), Bool.false_and, Bool.false_or, show (t + 12 - k) % 12 = t + (12 - k) by omega]
    · rw [decide_eq_true q, Bool.true_and, show (t + 12 - k) % 12 = t - k by omega]
      rcases Nat.eq_zero_or_pos k with z | z
      · subst z; simp [Nat.testBit_lt_two_pow (show s < 2 ^ (t + 12) from Nat.lt_of_lt_of_le hs (show 2 ^ 12 ≤ 2 ^ _ from Nat.pow_le_pow_right (by decide) (by omega)))]
      · rw [Nat.testBit_lt_two_pow (show s < 2 ^ (t + (12 - k)) from Nat.lt_of_lt_of_le hs (show 2 ^ 12 ≤ 2 ^ _ from Nat.pow_le_pow_right (by decide) (by omega))), Bool.or_false]
  constructor
  · intro h
    obtain ⟨t, ht⟩ := Nat.exists_testBit_of_ne_zero h
    rw [Nat.testBit_and, Bool.and_eq_true] at ht
    have h12 : t < 12 := by
      refine Decidable.byContradiction (fun q => ?_)
      rw [Nat.testBit_lt_two_pow (show s < 2 ^ t from Nat.lt_of_lt_of_le hs (show 2 ^ 12 ≤ 2 ^ _ from Nat.pow_le_pow_right (by decide) (by omega)))] at ht
      exact absurd ht.1 (by decide)
    exact ⟨t, h12, ht.1, by rw [← hb t h12]; exact ht.2⟩
  · rintro ⟨t, h12, h1, h2⟩ e
    have h3 : (s &&& rotN s k).testBit t = true := by rw [Nat.testBit_and, h1, hb t h12, h2]; rfl
    rw [e, Nat.zero_testBit] at h3
    cases h3
theorem ap_rot : ∀ x, x < 12 → ∀ y, y < 12 → (ap x y = 1 ↔ (y = (x + 12 - 1) % 12 ∨ x = (y + 12 - 1) % 12)) ∧ (ap x y = 6 ↔ y = (x + 12 - 6) % 12) := by decide +kernel
theorem ap_rot1 : ∀ x, x < 12 → ap x ((x + 12 - 1) % 12) = 1 ∧ ap ((x + 12 - 1) % 12) x = 1 ∧ ap x ((x + 12 - 6) % 12) = 6 ∧ ap ((x + 12 - 6) % 12) x = 6 ∧ ap x x = 0 := by decide +kernel
theorem clash_eq {g : GG} {n : Nat} (h3 : ∀ m, m < n → g 3 m ≤ 11) : spO g n = clM (msk g n) := by
  have hs := msk_lt (g := g) (k := n) h3
  have key : spO g n = true ↔ clM (msk g n) = true := by
    rw [spO_iff]
    unfold clM
    rw [decide_eq_true_eq, rot_iff hs (by decide), rot_iff hs (by decide)]
    constructor
    · rintro ⟨x, y, hx, hy, hc⟩
      unfold cl2 at hc
      rw [Bool.and_eq_true, Bool.and_eq_true, decide_eq_true_eq] at hc
      obtain ⟨⟨c1, c2⟩, c3⟩ := hc
      have hx3 := h3 x hx
      have hy3 := h3 y (by omega)
      obtain ⟨r1, r2⟩ := ap_rot (g 3 x) (by omega) (g 3 y) (by omega)
      rcases c3 with c3 | c3
      · rcases r1.mp c3 with q | q
        · exact Or.inl ⟨g 3 x, by omega, msk_bit.mpr ⟨x, hx, c1, rfl⟩, msk_bit.mpr ⟨y, by omega, c2, q⟩⟩
        · exact Or.inl ⟨g 3 y, by omega, msk_bit.mpr ⟨y, by omega, c2, rfl⟩, msk_bit.mpr ⟨x, hx, c1, q⟩⟩
      · exact Or.inr ⟨g 3 x, by omega, msk_bit.mpr ⟨x, hx, c1, rfl⟩, msk_bit.mpr ⟨y, by omega, c2, r2.mp c3⟩⟩
    · intro hc
      have go : ∀ t k, t < 12 → (k = 1 ∨ k = 6) → (msk g n).testBit t = true → (msk g n).testBit ((t + 12 - k) % 12) = true → ∃ x y, x < n ∧ y < x ∧ cl2 g x y = true := by
        intro t k ht hk h1 h2
        obtain ⟨x, x1, x2, x3⟩ := msk_bit.mp h1
        obtain ⟨y, y1, y2, y3⟩ := msk_bit.mp h2
        obtain ⟨r1, r2, r3, r4, r5⟩ := ap_rot1 t ht
        have hxy : (ap (g 3 x) (g 3 y) = 1 ∨ ap (g 3 x) (g 3 y) = 6) ∧ (ap (g 3 y) (g 3 x) = 1 ∨ ap (g 3 y) (g 3 x) = 6) := by
          rw [x3, y3]
          rcases hk with rfl | rfl
          · exact ⟨Or.inl r1, Or.inl r2⟩
          · exact ⟨Or.inr r3, Or.inr r4⟩
        have hne : x ≠ y := fun e => by
          subst e
          rcases hxy.1 with q | q
          · rw [x3, r5] at q; cases q
          · rw [x3, r5] at q; cases q
        rcases Nat.lt_or_ge y x with q | q
        · exact ⟨x, y, x1, q, by unfold cl2; rw [x2, y2, decide_eq_true hxy.1]; rfl⟩
        · exact ⟨y, x, y1, by omega, by unfold cl2; rw [x2, y2, decide_eq_true hxy.2]; rfl⟩
      rcases hc with ⟨t, ht, h1, h2⟩ | ⟨t, ht, h1, h2⟩
      · exact go t 1 ht (Or.inl rfl) h1 h2
      · exact go t 6 ht (Or.inr rfl) h1 h2
  cases h1 : spO g n <;> cases h2 : clM (msk g n) <;> simp_all
theorem flat_set64 {g : GG} {v : Nat} : upn (flat g) 64 v = flat (up2 g 7 0 v) := flat_setb (k := 0)
/-- what a beat brings -/
def oneN (g : GG) : Nat := if clM (msk g (g 8 0)) then 0 else chN g (g 8 0)
theorem oneN_sur (g : GG) : oneG g 8 2 = g 8 2 + oneN g := by
  unfold oneG oneN
  split <;> rfl
def passN (g : GG) (k : Nat) : Nat := passG g k 8 2 - g 8 2
theorem passN_s (g : GG) (k : Nat) : passN g k + oneN (passG g k) = passN g (k + 1) := by
  have h1 := sur_pass g k
  have h2 := oneN_sur (passG g k)
  have h3 : passG g (k + 1) = oneG (passG g k) := rfl
  unfold passN
  rw [h3, h2]
  omega
