/-! the State: its cells, what is true of it -/
def stC (E : EE) (a : Nat → Nat) (g : GG) : va_W := [(a 0, .inr (8, [.ref (a 1), .ref (a 2), .ref (a 3), .ref (a 4), .ref (a 5), .ref (a 6), .ref (a 7), .ref (a 8), .int (nI (g 8 0)), .int (nI (g 8 7)), .int (nI (g 8 1)), .int (nI (g 8 2)), .int (nI (g 8 3)), .int (nI (g 8 4)), .int (nI (g 8 5)), .int (nI (g 8 6))])),
  (a 1, .inl (E.2.1 0, 8, .inl (fun j => nI (g 0 j)))), (a 2, .inl (E.2.1 0, 8, .inl (fun j => nI (g 1 j)))), (a 3, .inl (E.2.1 0, 8, .inl (fun j => nI (g 2 j)))), (a 4, .inl (E.2.1 0, 8, .inl (fun j => nI (g 3 j)))), (a 5, .inl (E.2.1 0, 8, .inl (fun j => nI (g 4 j)))), (a 6, .inl (E.2.1 0, 8, .inl (fun j => nI (g 5 j)))), (a 7, .inl (E.2.1 0, 8, .inl (fun j => nI (g 6 j)))), (a 8, .inl (E.2.1 0, 10, .inl (fun j => nI (g 7 j))))]
def sm (f : Nat → Nat) : Nat → Nat
  | 0 => 0
  | n + 1 => sm f n + f n
theorem sm_le {f : Nat → Nat} {c : Nat} : ∀ {n : Nat}, (∀ k, k < n → f k ≤ c) → sm f n ≤ c * n
  | 0, _ => Nat.le_refl 0
  | n + 1, h => by
    have h1 := sm_le (n := n) (fun k hk => h k (by omega))
    have h2 := h n (by omega)
    show sm f n + f n ≤ c * (n + 1)
    rw [Nat.mul_succ]
    omega
theorem sm_cong {f g : Nat → Nat} : ∀ {n : Nat}, (∀ k, k < n → f k = g k) → sm f n = sm g n
  | 0, _ => rfl
  | n + 1, h => by
    show sm f n + f n = sm g n + g n
    rw [sm_cong (fun k hk => h k (by omega)), h n (by omega)]
theorem sm_mono {f : Nat → Nat} {m : Nat} : ∀ {n : Nat}, m ≤ n → sm f m ≤ sm f n
  | 0, h => by rw [show m = 0 by omega]; exact Nat.le_refl _
  | n + 1, h => by
    rcases Nat.lt_or_ge m (n + 1) with q | q
    · exact Nat.le_trans (sm_mono (f := f) (n := n) (by omega)) (Nat.le_add_right _ _)
    · rw [show m = n + 1 by omega]; exact Nat.le_refl _
theorem bt_of {P : Prop} [Decidable P] (h : P) : nI 1 = bI (decide P) := by rw [decide_eq_true h]; rfl
theorem bf_of {P : Prop} [Decidable P] (h : ¬ P) : nI 0 = bI (decide P) := by rw [decide_eq_false h]; rfl
theorem bI_fit (b : Bool) : fits .boolean (.int (bI b)) = true := by cases b <;> decide
/-- what is true of a state, and of the numbers that calls may have made of it so far: B -/
def IB (B : Nat) (g : GG) : Prop :=
  (g 8 0 ≤ 8 ∧ g 8 3 ≤ 11 ∧ g 8 7 ≤ 10) ∧ (∀ m, m < g 8 0 → (1 ≤ g 0 m ∧ g 0 m ≤ 50) ∧ (2 ≤ g 1 m ∧ g 1 m ≤ 12 ∧ g 2 m < g 1 m) ∧ g 3 m ≤ 11 ∧ g 4 m ≤ 60) ∧ (∀ m, g 8 0 ≤ m → g 4 m = 0 ∧ g 5 m = 0 ∧ g 6 m = 0) ∧
  (g 8 1 ≤ B ∧ g 8 4 ≤ B ∧ (∀ m, g 6 m ≤ B) ∧ (∀ j, g 7 j ≤ B)) ∧ (g 8 5 + sm (g 4) 8 ≤ B ∧ g 8 6 + sm (g 4) 8 ≤ B ∧ sm (g 5) 8 + g 8 2 = g 8 5) ∧ B ≤ 300000
theorem IB.mc {B : Nat} {g : GG} (h : IB B g) : g 8 0 ≤ 8 := h.1.1
theorem IB.mem {B : Nat} {g : GG} (h : IB B g) {m : Nat} (hm : m < g 8 0) : (1 ≤ g 0 m ∧ g 0 m ≤ 50) ∧ (2 ≤ g 1 m ∧ g 1 m ≤ 12 ∧ g 2 m < g 1 m) ∧ g 3 m ≤ 11 ∧ g 4 m ≤ 60 := h.2.1 m hm
theorem IB.bud {B : Nat} {g : GG} (h : IB B g) : g 8 1 ≤ B ∧ g 8 2 ≤ B ∧ g 8 4 ≤ B ∧ g 8 5 ≤ B ∧ g 8 6 ≤ B ∧ sm (g 5) 8 ≤ B ∧ B ≤ 300000 := by
  obtain ⟨-, -, -, h1, h2, h3⟩ := h
  omega
theorem sm_part {f : Nat → Nat} {i : Nat} : ∀ {n : Nat}, i < n → f i ≤ sm f n
  | 0, h => absurd h (Nat.not_lt_zero _)
  | n + 1, h => by
    show f i ≤ sm f n + f n
    rcases Nat.lt_or_ge i n with q | q
    · have := sm_part (f := f) q; omega
    · rw [show i = n by omega]; omega
theorem IB.pu {B : Nat} {g : GG} (h : IB B g) {m : Nat} (hm : m < 8) : g 5 m ≤ B := Nat.le_trans (sm_part hm) h.bud.2.2.2.2.2.1
theorem IB.shs {B : Nat} {g : GG} (h : IB B g) {i : Nat} (hi : i ≤ g 8 0) : sm (g 0) i ≤ 50 * i := sm_le (fun k hk => (h.mem (Nat.lt_of_lt_of_le hk hi)).1.2)
def isTo (x : Int32) : Bool := decide (0 ≤ x.toInt ∧ x.toInt < 12)
def hasM (g : GG) (x : Int32) : Bool := decide (0 ≤ x.toInt ∧ x.toInt < (g 8 0 : Int))
/-- all shares, the quota -/
def allSh (g : GG) : Nat := sm (g 0) (g 8 0)
def quo (g : GG) : Nat := allSh g / 2 + 1
/-! the arithmetic of the cooperative, over the numbers of a state -/
def fl (f h : Nat → Nat) (k : Nat) : Nat → Nat := fun j => if j < k then h j else f j
theorem fl_0 {f h : Nat → Nat} : fl f h 0 = f := by funext j; exact if_neg (Nat.not_lt_zero j)
theorem fl_at {f h : Nat → Nat} {k : Nat} : fl f h k k = f k := if_neg (Nat.lt_irrefl k)
theorem fl_hi {f h : Nat → Nat} {k j : Nat} (hj : k ≤ j) : fl f h k j = f j := if_neg (Nat.not_lt.mpr hj)
theorem fl_lo {f h : Nat → Nat} {k j : Nat} (hj : j < k) : fl f h k j = h j := if_pos hj
theorem fl_step {f h : Nat → Nat} {k v : Nat} (hv : v = h k) : upn (fl f h k) k v = fl f h (k + 1) := by
  funext j
  unfold upn fl
  by_cases e : j = k
  · subst e; rw [if_pos rfl, if_pos (Nat.lt_succ_self _), hv]
  · rw [if_neg e]
    by_cases g : j < k
    · rw [if_pos g, if_pos (by omega)]
    · rw [if_neg g, if_neg (by omega)]
theorem fl_same {f h : Nat → Nat} {k : Nat} (hv : h k = f k) : fl f h k = fl f h (k + 1) := by
  funext j
  unfold fl
  by_cases e : j = k
  · subst e; rw [if_neg (Nat.lt_irrefl _), if_pos (Nat.lt_succ_self _), hv]
  · by_cases g : j < k
    · rw [if_pos g, if_pos (by omega)]
    · rw [if_neg g, if_neg (by omega)]
theorem upr_up2 {g : GG} {w i v : Nat} {F : Nat → Nat} : up2 (upr g w F) w i v = upr g w (upn F i v) := by
  funext w'
  unfold up2 upr
  by_cases e : w' = w
  · rw [if_pos e, if_pos e, if_pos rfl]
  · rw [if_neg e, if_neg e, if_neg e]
def ap (x y : Nat) : Nat := if 6 < (if x < y then y - x else x - y) then 12 - (if x < y then y - x else x - y) else (if x < y then y - x else x - y)
def inF (g : GG) (m t tol : Nat) : Bool := decide (ap (g 3 m) t ≤ tol)
def favN (g : GG) (t tol : Nat) : Nat := sm (fun m => if inF g m t tol then g 0 m else 0) (g 8 0)
def dueB (g : GG) (m b : Nat) : Bool := decide (0 < g 1 m ∧ (g 1 m : Int) ∣ ((b : Int) - (g 2 m : Int)))
def chp (g : GG) (m : Nat) : Bool := dueB g m (g 8 1 + 1) && decide (0 < g 4 m)
def chN (g : GG) (k : Nat) : Nat := sm (fun m => if chp g m then 1 else 0) k
theorem chN_t {g : GG} {k : Nat} (h : chp g k = true) : chN g k + 1 = chN g (k + 1) := by show _ = chN g k + (if chp g k then 1 else 0); rw [if_pos h]
theorem chN_f {g : GG} {k : Nat} (h : chp g k = false) : chN g k = chN g (k + 1) := by show _ = chN g k + (if chp g k then 1 else 0); rw [if_neg (by rw [h]; decide)]; rfl
def msk (g : GG) : Nat → Nat
  | 0 => 0
  | k + 1 => if chp g k then msk g k ||| 1 * 2 ^ (g 3 k) else msk g k
theorem msk_t {g : GG} {k : Nat} (h : chp g k = true) : msk g k ||| 1 * 2 ^ (g 3 k) = msk g (k + 1) := by show _ = if _ then _ else _; rw [if_pos h]
theorem msk_f {g : GG} {k : Nat} (h : chp g k = false) : msk g k = msk g (k + 1) := by show _ = if _ then _ else _; rw [if_neg (by rw [h]; decide)]
theorem msk_lt {g : GG} : ∀ {k : Nat}, (∀ m, m < k → g 3 m ≤ 11) → msk g k < 4096
  | 0, _ => by show (0 : Nat) < 4096; decide
  | k + 1, h => by
    have h1 := msk_lt (g := g) (k := k) (fun m hm => h m (by omega))
    show (if _ then _ else _) < _
    split
    · have h2 : 1 * 2 ^ (g 3 k) < 2 ^ 12 := by rw [Nat.one_mul]; exact Nat.pow_lt_pow_right (by decide) (by have := h k (by omega); omega)
      exact Nat.or_lt_two_pow (n := 12) h1 h2
    · exact h1
def spN (g : GG) (m : Nat) : Nat := if chp g m then g 4 m - 1 else g 4 m
def rotN (s k : Nat) : Nat := (s * 2 ^ k ||| s / 2 ^ (12 - k)) &&& 4095
def clM (s : Nat) : Bool := decide (s &&& rotN s 1 ≠ 0 ∨ s &&& rotN s 6 ≠ 0)
def shf (f : Nat → Nat) (q : Nat) : Nat → Nat := fun j => if q < j ∧ j ≤ 9 then f (j - 1) else f j
def keepG (g : GG) : GG := up2 (up2 (upr g 7 (shf (g 7) 0)) 7 0 (g 8 1)) 8 7 (if 10 < g 8 7 + 1 then 10 else g 8 7 + 1)
def midG (g : GG) : GG := up2 (upr (up2 g 8 1 (g 8 1 + 1)) 4 (fl (g 4) (spN g) (g 8 0))) 8 6 (g 8 6 + chN g (g 8 0))
def oneG (g : GG) : GG := if clM (msk g (g 8 0)) then keepG (midG g) else up2 (up2 (midG g) 8 2 (g 8 2 + chN g (g 8 0))) 8 5 (g 8 5 + chN g (g 8 0))
def passG (g : GG) : Nat → GG
  | 0 => g
  | k + 1 => oneG (passG g k)
def fJoin (g : GG) (p0 p1 p2 p3 : Int32) : Nat := if p0.toInt < 1 ∨ 50 < p0.toInt ∨ p1.toInt < 2 ∨ 12 < p1.toInt ∨ p2.toInt < 0 ∨ p1.toInt ≤ p2.toInt ∨ ¬ (0 ≤ p3.toInt ∧ p3.toInt < 12) then 2 else if 8 ≤ g 8 0 then 3 else 0
def joinG (g : GG) (n0 n1 n2 n3 : Nat) : GG := up2 (up2 (up2 (up2 (up2 (up2 (up2 (up2 g 0 (g 8 0) n0) 1 (g 8 0) n1) 2 (g 8 0) n2) 3 (g 8 0) n3) 4 (g 8 0) 0) 5 (g 8 0) 0) 6 (g 8 0) 0) 8 0 (g 8 0 + 1)
def fWind (g : GG) (p0 p1 : Int32) : Nat := if ¬ (0 ≤ p0.toInt ∧ p0.toInt < (g 8 0 : Int)) then 1 else if p1.toInt < 1 ∨ 60 < p1.toInt then 2 else if 60 < (g 4 p0.toInt.toNat : Int) + p1.toInt then 3 else 0
def windG (g : GG) (m t : Nat) : GG := up2 g 4 m (g 4 m + t)
def fTune (g : GG) (p0 p1 : Int32) : Nat := if ¬ (0 ≤ p0.toInt ∧ p0.toInt < (g 8 0 : Int)) then 1 else if ¬ (0 ≤ p1.toInt ∧ p1.toInt < 12) then 2 else 0
def fBuy (g : GG) (p0 p1 : Int32) : Nat := if ¬ (0 ≤ p0.toInt ∧ p0.toInt < (g 8 0 : Int)) then 1 else if p1.toInt < 1 ∨ 50 ≤ p1.toInt then 2 else if 50 < (g 0 p0.toInt.toNat : Int) + p1.toInt then 3 else if (g 5 p0.toInt.toNat : Int) < p1.toInt * 5 then 4 else 0
def buyG (g : GG) (m t : Nat) : GG := up2 (up2 (up2 g 5 m (g 5 m - t * 5)) 8 2 (g 8 2 + t * 5)) 0 m (g 0 m + t)
def fPass (p0 : Int32) : Nat := if p0.toInt < 1 ∨ 60 < p0.toInt then 2 else 0
def fMot (p0 p1 : Int32) : Nat := if ¬ (0 ≤ p0.toInt ∧ p0.toInt < 12) ∨ p1.toInt < 0 ∨ 6 < p1.toInt then 2 else 0
def chor (g : GG) (b : Nat) : Bool := decide (0 < g 8 0 ∧ ∀ m, m < g 8 0 → dueB g m b = true)
def dlk (g : GG) (m : Nat) : Nat → Nat
  | 0 => 0
  | k + 1 => if dueB g m (g 8 1 + 1 + k) then dlk g m k ||| 1 * 2 ^ k else dlk g m k
theorem dlk_lt {g : GG} {m : Nat} : ∀ {k : Nat}, dlk g m k < 2 ^ k
  | 0 => by show (0 : Nat) < 1; decide
  | k + 1 => by
    have h1 := dlk_lt (g := g) (m := m) (k := k)
    have h2 : (2 : Nat) ^ k < 2 ^ (k + 1) := Nat.pow_lt_pow_right (by decide) (by omega)
    show (if _ then _ else _) < _
    split
    · exact Nat.or_lt_two_pow (by omega) (by rw [Nat.one_mul]; exact h2)
    · omega
theorem dlk_64 {g : GG} {m k : Nat} (h : k ≤ 60) : dlk g m k < 2 ^ 64 := Nat.lt_of_lt_of_le dlk_lt (Nat.pow_le_pow_right (by decide) (by omega))
def disN (g : GG) (t tol : Nat) (m : Nat) : Nat := if inF g m t tol then g 6 m else g 6 m + 1
def voteG (g : GG) (t tol : Nat) : GG := if favN g t tol < quo g then g else upr (up2 g 8 3 t) 6 (fl (g 6) (disN g t tol) (g 8 0))
def pursN (g : GG) : Nat := sm (g 5) (g 8 0)
def ahd (g : GG) (x y : Nat) : Bool := if g 0 x ≠ g 0 y then decide (g 0 y < g 0 x) else if g 5 x ≠ g 5 y then decide (g 5 y < g 5 x) else decide (x < y)
def mAh (g : GG) (m : Nat) : Nat := sm (fun o => if ahd g o m then 1 else 0) (g 8 0)
theorem ap_le {x y : Nat} (hx : x ≤ 11) (hy : y ≤ 11) : ap x y ≤ 6 := by unfold ap; split <;> split <;> omega
theorem sm_step {f : Nat → Nat} {n : Nat} : sm f n + f n = sm f (n + 1) := rfl
theorem sm_if_t {q : Nat → Bool} {f : Nat → Nat} {n : Nat} (h : q n = true) : sm (fun m => if q m then f m else 0) n + f n = sm (fun m => if q m then f m else 0) (n + 1) := by show _ = _ + (if q n then f n else 0); rw [if_pos h]
theorem sm_if_f {q : Nat → Bool} {f : Nat → Nat} {n : Nat} (h : q n = false) : sm (fun m => if q m then f m else 0) n = sm (fun m => if q m then f m else 0) (n + 1) := by show _ = _ + (if q n then f n else 0); rw [if_neg (by rw [h]; decide)]; rfl
theorem shf_9 {f : Nat → Nat} : shf f 9 = f := by funext j; unfold shf; rw [if_neg (by omega)]
theorem shf_step {f : Nat → Nat} {q : Nat} (h0 : 0 < q) (h9 : q ≤ 9) : upn (shf f q) q (shf f q (q - 1)) = shf f (q - 1) := by
  funext j
  unfold upn shf
  by_cases e : j = q
  · subst e; rw [if_pos rfl, if_neg (by omega), if_pos (by omega)]
  · rw [if_neg e]
    by_cases g : q < j ∧ j ≤ 9
    · rw [if_pos g, if_pos (by omega)]
    · rw [if_neg g, if_neg (by omega)]
theorem nI_mn {a b : Nat} (ha : a < 2 ^ 31) (hb : b < 2 ^ 31) : (if nI b < nI a then nI b else nI a) = nI (if b < a then b else a) := by
  by_cases h : b < a
  · rw [if_pos h, if_pos (nI_lt h ha)]
  · rw [if_neg h, if_neg (nI_nlt (by omega) hb)]
theorem nI_mx {a b : Nat} (ha : a < 2 ^ 31) (hb : b < 2 ^ 31) : (if nI a < nI b then nI b else nI a) = nI (if a < b then b else a) := by
  by_cases h : a < b
  · rw [if_pos h, if_pos (nI_lt h hb)]
  · rw [if_neg h, if_neg (nI_nlt (by omega) ha)]
theorem upr_id {g : GG} {w : Nat} : upr g w (g w) = g := by funext w'; unfold upr; split <;> simp_all
abbrev rm_X4_isTone : Room := { frames := 0, cells := 0, slots := 0, locals := 0 }
set_option maxHeartbeats 4000000 in
set_option maxRecDepth 100000 in
theorem c_X4_isTone (l : Launch) (E : EE) (sz : Nat) (p0 : Int32) : MI l yX4_isTone cX4_isTone 1 .boolean rm_X4_isTone [.int p0] E sz [] (fun (r : Int32) (_ : Unit) => r = bI (isTo p0)) (fun _ => []) 0 0 := by
  refine mi_go (by decide) (Nat.le_of_ble_eq_true rfl) ?_
  intro p e s m below meth c A Q ls hx hb hml hown hts hK hZ hA hsz hP hD hl hret
  have hS : va_S A s.heap s.heap [] := va_S.rf
  have hl : lv_has ls 1 [(0, .int p0)] := hl
  skip
  refine lv_iload_n hx hb dX4_isTone_0 rfl (lv_at hl 0 rfl) ?_
  refine nv_if_lt (X := p0.toInt) hx hb rfl (tgt := 14) dX4_isTone_1 (by decide) (fun c_1 => ?_) (fun c_1 => ?_)
  · skip
    refine lv_iconst (v := nI 0) hx hb dX4_isTone_14 (by decide) ?_
    exact hret _ _ (nI 0) () _ _ hP hD hS (by decide) (bf_of (by omega)) dX4_isTone_15
  · skip
    refine lv_iload_n hx hb dX4_isTone_4 rfl (lv_at hl 0 rfl) ?_
    refine lv_bipush (v := nI 12) hx hb dX4_isTone_5 (by decide) ?_
    refine nv_icmp_ge (X := p0.toInt) (Y := ((12 : Nat) : Int)) hx hb rfl (nI_toInt (by omega)) (tgt := 14) dX4_isTone_7 (by decide) (fun c_2 => ?_) (fun c_2 => ?_)
    · skip
      refine lv_iconst (v := nI 0) hx hb dX4_isTone_14 (by decide) ?_
      exact hret _ _ (nI 0) () _ _ hP hD hS (by decide) (bf_of (by omega)) dX4_isTone_15
    · skip
      refine lv_iconst (v := nI 1) hx hb dX4_isTone_10 (by decide) ?_
      refine lv_goto (tgt := 15) hx hb dX4_isTone_11 (by decide) ?_
      exact hret _ _ (nI 1) () _ _ hP hD hS (by decide) (bt_of (by omega)) dX4_isTone_15
abbrev rm_X4_hasMember : Room := { frames := 0, cells := 0, slots := 0, locals := 0 }
set_option maxHeartbeats 4000000 in
set_option maxRecDepth 100000 in
theorem c_X4_hasMember (l : Launch) (E : EE) (sz : Nat) (a : Nat → Nat) (g : GG) (p0 : Int32) (hm : g 8 0 ≤ 8) : MI l yX4_hasMember cX4_hasMember 2 .boolean rm_X4_hasMember [.ref (a 0), .int p0] E sz [stC E a g] (fun (r : Int32) (_ : Unit) => r = bI (hasM g p0)) (fun _ => [stC E a g]) 0 0 := by
  refine mi_go (by decide) (Nat.le_of_ble_eq_true rfl) ?_
  intro p e s m below meth c A Q ls hx hb hml hown hts hK hZ hA hsz hP hD hl hret
  have hS : va_S A s.heap s.heap [] := va_S.rf
  have hl : lv_has ls 2 [(0, .ref (a 0)), (1, .int p0)] := hl
  skip
  refine lv_iload_n hx hb dX4_hasMember_0 rfl (lv_at hl 1 rfl) ?_
  refine nv_if_lt (X := p0.toInt) hx hb rfl (tgt := 16) dX4_hasMember_1 (by decide) (fun c_1 => ?_) (fun c_1 => ?_)
  · skip
    refine lv_iconst (v := nI 0) hx hb dX4_hasMember_16 (by decide) ?_
    exact hret _ _ (nI 0) () _ _ hP hD hS (by decide) (bf_of (by omega)) dX4_hasMember_17
  · skip
    refine lv_iload_n hx hb dX4_hasMember_4 rfl (lv_at hl 1 rfl) ?_
    refine lv_aload_n hx hb dX4_hasMember_5 rfl (lv_at hl 0 rfl) ?_
    refine va_get (D := E.1) (ci := 8) (v := .int (nI (g 8 0))) (C := RX4) (T := TX4) (N := 16) hx hb hts inX4 hown hK hP 0 rfl rfl 8 (by decide) (hts _ q85) (fun _ h9 => h9) rfl dX4_hasMember_6 ?_
    refine nv_icmp_ge (X := p0.toInt) (Y := ((g 8 0 : Nat) : Int)) hx hb rfl (nI_toInt (by omega)) (tgt := 16) dX4_hasMember_9 (by decide) (fun c_2 => ?_) (fun c_2 => ?_)
    · skip
      refine lv_iconst (v := nI 0) hx hb dX4_hasMember_16 (by decide) ?_
      exact hret _ _ (nI 0) () _ _ hP hD hS (by decide) (bf_of (by omega)) dX4_hasMember_17
    · skip
      refine lv_iconst (v := nI 1) hx hb dX4_hasMember_12 (by decide) ?_
      refine lv_goto (tgt := 17) hx hb dX4_hasMember_13 (by decide) ?_
      exact hret _ _ (nI 1) () _ _ hP hD hS (by decide) (bt_of (by omega)) dX4_hasMember_17
abbrev rm_X4_faultOfQuarter : Room := { frames := 0, cells := 0, slots := 0, locals := 0 }
set_option maxHeartbeats 4000000 in
set_option maxRecDepth 100000 in
theorem c_X4_faultOfQuarter (l : Launch) (E : EE) (sz : Nat) (a : Nat → Nat) (g : GG) (hm : g 8 0 ≤ 8) : MI l yX4_faultOfQuarter cX4_faultOfQuarter 1 .int rm_X4_faultOfQuarter [.ref (a 0)] E sz [stC E a g] (fun (r : Int32) (_ : Unit) => r = nI (if g 8 0 = 0 then 3 else 0)) (fun _ => [stC E a g]) 0 0 := by
  refine mi_go (by decide) (Nat.le_of_ble_eq_true rfl) ?_
  intro p e s m below meth c A Q ls hx hb hml hown hts hK hZ hA hsz hP hD hl hret
  have hS : va_S A s.heap s.heap [] := va_S.rf
  have hl : lv_has ls 1 [(0, .ref (a 0))] := hl
  skip
  refine lv_aload_n hx hb dX4_faultOfQuarter_0 rfl (lv_at hl 0 rfl) ?_
  refine va_get (D := E.1) (ci := 8) (v := .int (nI (g 8 0))) (C := RX4) (T := TX4) (N := 16) hx hb hts inX4 hown hK hP 0 rfl rfl 8 (by decide) (hts _ q85) (fun _ h9 => h9) rfl dX4_faultOfQuarter_1 ?_
  refine nv_if_ne (X := ((g 8 0 : Nat) : Int)) hx hb (nI_toInt (by omega)) (tgt := 11) dX4_faultOfQuarter_4 (by decide) (fun c_1 => ?_) (fun c_1 => ?_)
  · skip
    refine lv_iconst (v := nI 0) hx hb dX4_faultOfQuarter_11 (by decide) ?_
    exact hret _ _ (nI 0) () _ _ hP hD hS rfl (by split <;> first | rfl | omega) dX4_faultOfQuarter_12
  · skip
    refine lv_iconst (v := nI 3) hx hb dX4_faultOfQuarter_7 (by decide) ?_
    refine lv_goto (tgt := 12) hx hb dX4_faultOfQuarter_8 (by decide) ?_
    exact hret _ _ (nI 3) () _ _ hP hD hS rfl (by split <;> first | rfl | omega) dX4_faultOfQuarter_12
abbrev rm_X4_allShares : Room := { frames := 0, cells := 0, slots := 0, locals := 0 }
set_option maxHeartbeats 4000000 in
set_option maxRecDepth 100000 in
theorem c_X4_allShares (l : Launch) (E : EE) (sz : Nat) (a : Nat → Nat) (g : GG) (hm : g 8 0 ≤ 8) : MI l yX4_allShares cX4_allShares 3 .int rm_X4_allShares [.ref (a 0)] E sz [stC E a g] (fun (r : Int32) (_ : Unit) => r = nI (allSh g)) (fun _ => [stC E a g]) 0 0 := by
  refine mi_go (by decide) (Nat.le_of_ble_eq_true rfl) ?_
  intro p e s m below meth c A Q ls hx hb hml hown hts hK hZ hA hsz hP hD hl hret
  have hS : va_S A s.heap s.heap [] := va_S.rf
  have hl : lv_has ls 3 [(0, .ref (a 0))] := hl
  skip
  refine lv_iconst (v := nI 0) hx hb dX4_allShares_0 (by decide) ?_
  refine lv_istore_n (lv' := [(1, .int (nI 0)), (0, .ref (a 0))]) hx hb dX4_allShares_1 rfl hl (by decide) rfl (fun ls hl => ?_)
  refine lv_iconst (v := nI 0) hx hb dX4_allShares_2 (by decide) ?_
  refine lv_istore_n (lv' := [(2, .int (nI 0)), (1, .int (nI 0)), (0, .ref (a 0))]) hx hb dX4_allShares_3 rfl hl (by decide) rfl (fun ls hl => ?_)
  have loop4 : ∀ (n : Nat) (i : Nat), i ≤ g 8 0 → g 8 0 - i < n → ∀ (H : Heap) (locs : List Loc) (ls : Array Slot), va_P E.1 vwCl ([stC E a g] : List va_W).flatten H → va_D A ([stC E a g] : List va_W).flatten → va_S A s.heap H locs → lv_has ls 3 [(0, .ref (a 0)), (1, .int (nI (sm (g 0) i))), (2, .int (nI i))] → W p l e rm_X4_allShares s m ([.ref (a 0)] : List Value).toArray below meth c H locs 0 0 Q (F0 m 4 ls []) := by
    intro n
    induction n with
    | zero => intro i hi hn; exact absurd hn (Nat.not_lt_zero _)
    | succ n ih =>
      intro i hi hn H locs ls hP hD hS hl
      refine lv_iload_n hx hb dX4_allShares_4 rfl (lv_at hl 2 rfl) ?_
      refine lv_aload_n hx hb dX4_allShares_5 rfl (lv_at hl 0 rfl) ?_
      refine va_get (D := E.1) (ci := 8) (v := .int (nI (g 8 0))) (C := RX4) (T := TX4) (N := 16) hx hb hts inX4 hown hK hP 0 rfl rfl 8 (by decide) (hts _ q85) (fun _ h9 => h9) rfl dX4_allShares_6 ?_
      refine nv_icmp_ge (X := ((i : Nat) : Int)) (Y := ((g 8 0 : Nat) : Int)) hx hb (nI_toInt (by omega)) (nI_toInt (by omega)) (tgt := 27) dX4_allShares_9 (by decide) (fun c_1 => ?_) (fun c_1 => ?_)
      · skip
        refine lv_iload_n hx hb dX4_allShares_27 rfl (lv_at hl 1 rfl) ?_
        exact hret _ _ (nI (sm (g 0) i)) () _ _ hP hD hS rfl (by rw [show i = g 8 0 by omega]; rfl) dX4_allShares_28
      · skip
        refine lv_iload_n hx hb dX4_allShares_12 rfl (lv_at hl 1 rfl) ?_
        refine lv_aload_n hx hb dX4_allShares_13 rfl (lv_at hl 0 rfl) ?_
        refine va_get (D := E.1) (ci := 8) (v := .ref (a 1)) (C := RX4) (T := TX4) (N := 16) hx hb hts inX4 hown hK hP 0 rfl rfl 0 (by decide) (hts _ q66) (fun _ h9 => h9) rfl dX4_allShares_14 ?_
        refine lv_iload_n hx hb dX4_allShares_17 rfl (lv_at hl 2 rfl) ?_
        refine nv_iald (f := (g 0)) (i := i) (n := 8) hx hb hK hP 1 0 rfl rfl (by omega) (by decide) dX4_allShares_18 ?_
        refine nv_iadd hx hb dX4_allShares_19 ?_
        refine lv_istore_n (lv' := [(1, .int (nI (sm (g 0) i + (g 0 i)))), (0, .ref (a 0)), (2, .int (nI i))]) hx hb dX4_allShares_20 rfl hl (by decide) rfl (fun ls hl => ?_)
        refine lv_iinc (v := nI (i + 1)) (lv' := [(2, .int (nI (i + 1))), (1, .int (nI (sm (g 0) i + (g 0 i)))), (0, .ref (a 0))]) hx hb dX4_allShares_21 hl (k := 2) rfl (nI_add i 1) (by decide) rfl (fun ls hl => ?_)
        refine lv_goto (tgt := 4) hx hb dX4_allShares_24 (by decide) ?_
        exact ih (i + 1) (by omega) (by omega) _ _ _ hP hD hS (lv_sub hl [2, 1, 0] rfl)
  exact loop4 _ 0 (by omega) (Nat.lt_succ_self _) _ _ _ hP hD hS (lv_sub hl [2, 1, 0] rfl)
abbrev rm_X4_coinsInPurses : Room := { frames := 0, cells := 0, slots := 0, locals := 0 }
set_option maxHeartbeats 4000000 in
set_option maxRecDepth 100000 in
theorem c_X4_coinsInPurses (l : Launch) (E : EE) (sz : Nat) (a : Nat → Nat) (g : GG) (hm : g 8 0 ≤ 8) : MI l yX4_coinsInPurses cX4_coinsInPurses 3 .int rm_X4_coinsInPurses [.ref (a 0)] E sz [stC E a g] (fun (r : Int32) (_ : Unit) => r = nI (pursN g)) (fun _ => [stC E a g]) 0 0 := by
  refine mi_go (by decide) (Nat.le_of_ble_eq_true rfl) ?_
  intro p e s m below meth c A Q ls hx hb hml hown hts hK hZ hA hsz hP hD hl hret
  have hS : va_S A s.heap s.heap [] := va_S.rf
  have hl : lv_has ls 3 [(0, .ref (a 0))] := hl
  skip
  refine lv_iconst (v := nI 0) hx hb dX4_coinsInPurses_0 (by decide) ?_
  refine lv_istore_n (lv' := [(1, .int (nI 0)), (0, .ref (a 0))]) hx hb dX4_coinsInPurses_1 rfl hl (by decide) rfl (fun ls hl => ?_)
  refine lv_iconst (v := nI 0) hx hb dX4_coinsInPurses_2 (by decide) ?_
  refine lv_istore_n (lv' := [(2, .int (nI 0)), (1, .int (nI 0)), (0, .ref (a 0))]) hx hb dX4_coinsInPurses_3 rfl hl (by decide) rfl (fun ls hl => ?_)
  have loop4 : ∀ (n : Nat) (i : Nat), i ≤ g 8 0 → g 8 0 - i < n → ∀ (H : Heap) (locs : List Loc) (ls : Array Slot), va_P E.1 vwCl ([stC E a g] : List va_W).flatten H → va_D A ([stC E a g] : List va_W).flatten → va_S A s.heap H locs → lv_has ls 3 [(0, .ref (a 0)), (1, .int (nI (sm (g 5) i))), (2, .int (nI i))] → W p l e rm_X4_coinsInPurses s m ([.ref (a 0)] : List Value).toArray below meth c H locs 0 0 Q (F0 m 4 ls []) := by
    intro n
    induction n with
    | zero => intro i hi hn; exact absurd hn (Nat.not_lt_zero _)
    | succ n ih =>
      intro i hi hn H locs ls hP hD hS hl
      refine lv_iload_n hx hb dX4_coinsInPurses_4 rfl (lv_at hl 2 rfl) ?_
      refine lv_aload_n hx hb dX4_coinsInPurses_5 rfl (lv_at hl 0 rfl) ?_
      refine va_get (D := E.1) (ci := 8) (v := .int (nI (g 8 0))) (C := RX4) (T := TX4) (N := 16) hx hb hts inX4 hown hK hP 0 rfl rfl 8 (by decide) (hts _ q85) (fun _ h9 => h9) rfl dX4_coinsInPurses_6 ?_
      refine nv_icmp_ge (X := ((i : Nat) : Int)) (Y := ((g 8 0 : Nat) : Int)) hx hb (nI_toInt (by omega)) (nI_toInt (by omega)) (tgt := 27) dX4_coinsInPurses_9 (by decide) (fun c_1 => ?_) (fun c_1 => ?_)
      · skip
        refine lv_iload_n hx hb dX4_coinsInPurses_27 rfl (lv_at hl 1 rfl) ?_
        exact hret _ _ (nI (sm (g 5) i)) () _ _ hP hD hS rfl (by rw [show i = g 8 0 by omega]; rfl) dX4_coinsInPurses_28
      · skip
        refine lv_iload_n hx hb dX4_coinsInPurses_12 rfl (lv_at hl 1 rfl) ?_
        refine lv_aload_n hx hb dX4_coinsInPurses_13 rfl (lv_at hl 0 rfl) ?_
        refine va_get (D := E.1) (ci := 8) (v := .ref (a 6)) (C := RX4) (T := TX4) (N := 16) hx hb hts inX4 hown hK hP 0 rfl rfl 5 (by decide) (hts _ q78) (fun _ h9 => h9) rfl dX4_coinsInPurses_14 ?_
        refine lv_iload_n hx hb dX4_coinsInPurses_17 rfl (lv_at hl 2 rfl) ?_
        refine nv_iald (f := (g 5)) (i := i) (n := 8) hx hb hK hP 6 0 rfl rfl (by omega) (by decide) dX4_coinsInPurses_18 ?_
        refine nv_iadd hx hb dX4_coinsInPurses_19 ?_
        refine lv_istore_n (lv' := [(1, .int (nI (sm (g 5) i + (g 5 i)))), (0, .ref (a 0)), (2, .int (nI i))]) hx hb dX4_coinsInPurses_20 rfl hl (by decide) rfl (fun ls hl => ?_)
        refine lv_iinc (v := nI (i + 1)) (lv' := [(2, .int (nI (i + 1))), (1, .int (nI (sm (g 5) i + (g 5 i)))), (0, .ref (a 0))]) hx hb dX4_coinsInPurses_21 hl (k := 2) rfl (nI_add i 1) (by decide) rfl (fun ls hl => ?_)
        refine lv_goto (tgt := 4) hx hb dX4_coinsInPurses_24 (by decide) ?_
        exact ih (i + 1) (by omega) (by omega) _ _ _ hP hD hS (lv_sub hl [2, 1, 0] rfl)
  exact loop4 _ 0 (by omega) (Nat.lt_succ_self _) _ _ _ hP hD hS (lv_sub hl [2, 1, 0] rfl)
abbrev rm_X4_neededShares : Room := { frames := 1, cells := 0, slots := 0, locals := 22 }
set_option maxHeartbeats 4000000 in
set_option maxRecDepth 100000 in
theorem c_X4_neededShares (l : Launch) (E : EE) (sz : Nat) (a : Nat → Nat) (g : GG) (B : Nat) (hI : IB B g) : MI l yX4_neededShares cX4_neededShares 1 .int rm_X4_neededShares [.ref (a 0)] E sz [stC E a g] (fun (r : Int32) (_ : Unit) => r = nI (quo g)) (fun _ => [stC E a g]) 0 0 := by
  refine mi_go (by decide) (Nat.le_of_ble_eq_true rfl) ?_
  intro p e s m below meth c A Q ls hx hb hml hown hts hK hZ hA hsz hP hD hl hret
  have hS : va_S A s.heap s.heap [] := va_S.rf
  have hl : lv_has ls 1 [(0, .ref (a 0))] := hl
  skip
  have hmc := hI.mc
  have hbu := hI.bud
  have hsh : allSh g ≤ 50 * g 8 0 := hI.shs (Nat.le_refl _)
  refine lv_aload_n hx hb dX4_neededShares_0 rfl (lv_at hl 0 rfl) ?_
  refine run_i (S := Unit) (run_V (As := []) (rest := []) (bs := [stC E a g]) (cb := [stC E a g]) hx hb hml hown hts hK hZ hA (c_X4_allShares l E _ a g  hmc) l_X4_115 rfl ⟨⟨rfl, rfl⟩, Nat.le_of_ble_eq_true rfl, Nat.le_of_ble_eq_true rfl⟩ 8 rfl [0] rfl (by decide) rfl hP hD hS hl.1 rfl (by decide) dX4_neededShares_1 ⟨Nat.zero_le _, Nat.zero_le _⟩) hA hP hD hS (isC := [0]) rfl [] [0] (br := []) (bs2 := fun _ => [stC E a g]) rfl (by decide) (fun _ => rfl) (by decide) (fun r u H locs hw hP hD hS => ?_)
  subst hw
  refine lv_iconst (v := nI 2) hx hb dX4_neededShares_4 (by decide) ?_
  refine nv_idiv hx hb (by omega) (by omega) (by omega) dX4_neededShares_5 ?_
  refine lv_iconst (v := nI 1) hx hb dX4_neededShares_6 (by decide) ?_
  refine nv_iadd hx hb dX4_neededShares_7 ?_
  exact hret _ _ (nI (((allSh g) / 2) + 1)) () _ _ hP hD hS rfl (by rfl) dX4_neededShares_8
abbrev rm_X4_faultOfJoining : Room := { frames := 1, cells := 0, slots := 0, locals := 20 }
set_option maxHeartbeats 4000000 in
set_option maxRecDepth 100000 in
theorem c_X4_faultOfJoining (l : Launch) (E : EE) (sz : Nat) (a : Nat → Nat) (g : GG) (p0 p1 p2 p3 : Int32) (hm : g 8 0 ≤ 8) : MI l yX4_faultOfJoining cX4_faultOfJoining 5 .int rm_X4_faultOfJoining [.ref (a 0), .int p0, .int p1, .int p2, .int p3] E sz [stC E a g] (fun (r : Int32) (_ : Unit) => r = nI (fJoin g p0 p1 p2 p3)) (fun _ => [stC E a g]) 0 0 := by
  refine mi_go (by decide) (Nat.le_of_ble_eq_true rfl) ?_
  intro p e s m below meth c A Q ls hx hb hml hown hts hK hZ hA hsz hP hD hl hret
  have hS : va_S A s.heap s.heap [] := va_S.rf
  have hl : lv_has ls 5 [(0, .ref (a 0)), (1, .int p0), (2, .int p1), (3, .int p2), (4, .int p3)] := hl
  skip
  have hmc := hm
  refine lv_iload_n hx hb dX4_faultOfJoining_0 rfl (lv_at hl 1 rfl) ?_
  refine lv_iconst (v := nI 1) hx hb dX4_faultOfJoining_1 (by decide) ?_
  refine nv_icmp_lt (X := p0.toInt) (Y := ((1 : Nat) : Int)) hx hb rfl (nI_toInt (by omega)) (tgt := 39) dX4_faultOfJoining_2 (by decide) (fun c_1 => ?_) (fun c_1 => ?_)
  · skip
    refine lv_iconst (v := nI 2) hx hb dX4_faultOfJoining_39 (by decide) ?_
    exact hret _ _ (nI 2) () _ _ hP hD hS rfl (by simp only [fJoin]; (repeat' split) <;> first | rfl | (exfalso; omega)) dX4_faultOfJoining_40
  · skip
    refine lv_iload_n hx hb dX4_faultOfJoining_5 rfl (lv_at hl 1 rfl) ?_
    refine lv_bipush (v := nI 50) hx hb dX4_faultOfJoining_6 (by decide) ?_
    refine nv_icmp_gt (X := p0.toInt) (Y := ((50 : Nat) : Int)) hx hb rfl (nI_toInt (by omega)) (tgt := 39) dX4_faultOfJoining_8 (by decide) (fun c_2 => ?_) (fun c_2 => ?_)
    · skip
      refine lv_iconst (v := nI 2) hx hb dX4_faultOfJoining_39 (by decide) ?_
      exact hret _ _ (nI 2) () _ _ hP hD hS rfl (by simp only [fJoin]; (repeat' split) <;> first | rfl | (exfalso; omega)) dX4_faultOfJoining_40
    · skip
      refine lv_iload_n hx hb dX4_faultOfJoining_11 rfl (lv_at hl 2 rfl) ?_
      refine lv_iconst (v := nI 2) hx hb dX4_faultOfJoining_12 (by decide) ?_
      refine nv_icmp_lt (X := p1.toInt) (Y := ((2 : Nat) : Int)) hx hb rfl (nI_toInt (by omega)) (tgt := 39) dX4_faultOfJoining_13 (by decide) (fun c_3 => ?_) (fun c_3 => ?_)
      · skip
        refine lv_iconst (v := nI 2) hx hb dX4_faultOfJoining_39 (by decide) ?_
        exact hret _ _ (nI 2) () _ _ hP hD hS rfl (by simp only [fJoin]; (repeat' split) <;> first | rfl | (exfalso; omega)) dX4_faultOfJoining_40
      · skip
        refine lv_iload_n hx hb dX4_faultOfJoining_16 rfl (lv_at hl 2 rfl) ?_
        refine lv_bipush (v := nI 12) hx hb dX4_faultOfJoining_17 (by decide) ?_
        refine nv_icmp_gt (X := p1.toInt) (Y := ((12 : Nat) : Int)) hx hb rfl (nI_toInt (by omega)) (tgt := 39) dX4_faultOfJoining_19 (by decide) (fun c_4 => ?_) (fun c_4 => ?_)
        · skip
          refine lv_iconst (v := nI 2) hx hb dX4_faultOfJoining_39 (by decide) ?_
          exact hret _ _ (nI 2) () _ _ hP hD hS rfl (by simp only [fJoin]; (repeat' split) <;> first | rfl | (exfalso; omega)) dX4_faultOfJoining_40
        · skip
          refine lv_iload_n hx hb dX4_faultOfJoining_22 rfl (lv_at hl 3 rfl) ?_
          refine nv_if_lt (X := p2.toInt) hx hb rfl (tgt := 39) dX4_faultOfJoining_23 (by decide) (fun c_5 => ?_) (fun c_5 => ?_)
          · skip
            refine lv_iconst (v := nI 2) hx hb dX4_faultOfJoining_39 (by decide) ?_
            exact hret _ _ (nI 2) () _ _ hP hD hS rfl (by simp only [fJoin]; (repeat' split) <;> first | rfl | (exfalso; omega)) dX4_faultOfJoining_40
          · skip
            refine lv_iload_n hx hb dX4_faultOfJoining_26 rfl (lv_at hl 3 rfl) ?_
            refine lv_iload_n hx hb dX4_faultOfJoining_27 rfl (lv_at hl 2 rfl) ?_
            refine nv_icmp_ge (X := p2.toInt) (Y := p1.toInt) hx hb rfl rfl (tgt := 39) dX4_faultOfJoining_28 (by decide) (fun c_6 => ?_) (fun c_6 => ?_)
            · skip
              refine lv_iconst (v := nI 2) hx hb dX4_faultOfJoining_39 (by decide) ?_
              exact hret _ _ (nI 2) () _ _ hP hD hS rfl (by simp only [fJoin]; (repeat' split) <;> first | rfl | (exfalso; omega)) dX4_faultOfJoining_40
            · skip
              refine lv_iload hx hb dX4_faultOfJoining_31 (lv_at hl 4 rfl) ?_
              refine run_i (S := Unit) (run_S (As := [.int p3]) (rest := []) (bs := [stC E a g]) (cb := []) hx hb hml hown hts hK hZ hA (c_X4_isTone l E _ p3) l_X4_67 rfl ⟨⟨rfl, rfl⟩, Nat.le_of_ble_eq_true rfl, Nat.le_of_ble_eq_true rfl⟩ [] rfl (by decide) hP hD hS hl.1 rfl (by decide) dX4_faultOfJoining_33 ⟨Nat.zero_le _, Nat.zero_le _⟩) hA hP hD hS (isC := []) rfl [0] [0] (br := [stC E a g]) (bs2 := fun _ => [stC E a g]) rfl (by decide) (fun _ => rfl) (by decide) (fun r u H locs hw hP hD hS => ?_)
              subst hw
              refine bv_if_ne hx hb (tgt := 41) dX4_faultOfJoining_36 (by decide) (fun c_7 => ?_) (fun c_7 => ?_)
              · skip
                have c_7 := of_decide_eq_true c_7
                refine lv_aload_n hx hb dX4_faultOfJoining_41 rfl (lv_at hl 0 rfl) ?_
                refine va_get (D := E.1) (ci := 8) (v := .int (nI (g 8 0))) (C := RX4) (T := TX4) (N := 16) hx hb hts inX4 hown hK hP 0 rfl rfl 8 (by decide) (hts _ q85) (fun _ h9 => h9) rfl dX4_faultOfJoining_42 ?_
                refine lv_bipush (v := nI 8) hx hb dX4_faultOfJoining_45 (by decide) ?_
                refine nv_icmp_lt (X := ((g 8 0 : Nat) : Int)) (Y := ((8 : Nat) : Int)) hx hb (nI_toInt (by omega)) (nI_toInt (by omega)) (tgt := 54) dX4_faultOfJoining_47 (by decide) (fun c_8 => ?_) (fun c_8 => ?_)
                · skip
                  refine lv_iconst (v := nI 0) hx hb dX4_faultOfJoining_54 (by decide) ?_
                  exact hret _ _ (nI 0) () _ _ hP hD hS rfl (by simp only [fJoin]; (repeat' split) <;> first | rfl | (exfalso; omega)) dX4_faultOfJoining_55
                · skip
                  refine lv_iconst (v := nI 3) hx hb dX4_faultOfJoining_50 (by decide) ?_
                  refine lv_goto (tgt := 55) hx hb dX4_faultOfJoining_51 (by decide) ?_
                  exact hret _ _ (nI 3) () _ _ hP hD hS rfl (by simp only [fJoin]; (repeat' split) <;> first | rfl | (exfalso; omega)) dX4_faultOfJoining_55
              · skip
                have c_7 := of_decide_eq_false c_7
                refine lv_iconst (v := nI 2) hx hb dX4_faultOfJoining_39 (by decide) ?_
                exact hret _ _ (nI 2) () _ _ hP hD hS rfl (by simp only [fJoin]; (repeat' split) <;> first | rfl | (exfalso; omega)) dX4_faultOfJoining_40
abbrev rm_X4_join : Room := { frames := 0, cells := 0, slots := 0, locals := 0 }
set_option maxHeartbeats 4000000 in
set_option maxRecDepth 100000 in
theorem c_X4_join (l : Launch) (E : EE) (sz : Nat) (a : Nat → Nat) (g : GG) (n0 n1 n2 n3 : Nat) (hm : g 8 0 < 8) : MI l yX4_join cX4_join 6 .int rm_X4_join [.ref (a 0), .int (nI n0), .int (nI n1), .int (nI n2), .int (nI n3)] E sz [stC E a g] (fun (r : Int32) (_ : Unit) => r = nI (g 8 0)) (fun _ => [stC E a (joinG g n0 n1 n2 n3)]) 0 0 := by
  refine mi_go (by decide) (Nat.le_of_ble_eq_true rfl) ?_
  intro p e s m below meth c A Q ls hx hb hml hown hts hK hZ hA hsz hP hD hl hret
  have hS : va_S A s.heap s.heap [] := va_S.rf
  have hl : lv_has ls 6 [(0, .ref (a 0)), (1, .int (nI n0)), (2, .int (nI n1)), (3, .int (nI n2)), (4, .int (nI n3))] := hl
  skip
  refine lv_aload_n hx hb dX4_join_0 rfl (lv_at hl 0 rfl) ?_
  refine va_get (D := E.1) (ci := 8) (v := .int (nI (g 8 0))) (C := RX4) (T := TX4) (N := 16) hx hb hts inX4 hown hK hP 0 rfl rfl 8 (by decide) (hts _ q85) (fun _ h9 => h9) rfl dX4_join_1 ?_
  refine lv_istore (lv' := [(5, .int (nI (g 8 0))), (0, .ref (a 0)), (1, .int (nI n0)), (2, .int (nI n1)), (3, .int (nI n2)), (4, .int (nI n3))]) hx hb dX4_join_4 hl (by decide) rfl (fun ls hl => ?_)
  refine lv_aload_n hx hb dX4_join_6 rfl (lv_at hl 1 rfl) ?_
  refine va_get (D := E.1) (ci := 8) (v := .ref (a 1)) (C := RX4) (T := TX4) (N := 16) hx hb hts inX4 hown hK hP 0 rfl rfl 0 (by decide) (hts _ q66) (fun _ h9 => h9) rfl dX4_join_7 ?_
  refine lv_iload hx hb dX4_join_10 (lv_at hl 0 rfl) ?_
  refine lv_iload_n hx hb dX4_join_12 rfl (lv_at hl 2 rfl) ?_
  refine nv_iast (f := (g 0)) (i := g 8 0) (v := n0) (n := 8) hx hb hK hP hD hS 1 0 rfl rfl (by omega) (by decide) dX4_join_13 (fun H locs hP hD hS => ?_)
  have hP : va_P E.1 vwCl ([stC E a (up2 g 0 (g 8 0) n0)] : List va_W).flatten H := hP
  have hD : va_D A ([stC E a (up2 g 0 (g 8 0) n0)] : List va_W).flatten := hD
  refine lv_aload_n hx hb dX4_join_14 rfl (lv_at hl 1 rfl) ?_
  refine va_get (D := E.1) (ci := 8) (v := .ref (a 2)) (C := RX4) (T := TX4) (N := 16) hx hb hts inX4 hown hK hP 0 rfl rfl 1 (by decide) (hts _ q70) (fun _ h9 => h9) rfl dX4_join_15 ?_
  refine lv_iload hx hb dX4_join_18 (lv_at hl 0 rfl) ?_
  refine lv_iload_n hx hb dX4_join_20 rfl (lv_at hl 3 rfl) ?_
  refine nv_iast (f := (g 1)) (i := g 8 0) (v := n1) (n := 8) hx hb hK hP hD hS 2 0 rfl rfl (by omega) (by decide) dX4_join_21 (fun H locs hP hD hS => ?_)
  have hP : va_P E.1 vwCl ([stC E a (up2 (up2 g 0 (g 8 0) n0) 1 (g 8 0) n1)] : List va_W).flatten H := hP
  have hD : va_D A ([stC E a (up2 (up2 g 0 (g 8 0) n0) 1 (g 8 0) n1)] : List va_W).flatten := hD
  refine lv_aload_n hx hb dX4_join_22 rfl (lv_at hl 1 rfl) ?_
  refine va_get (D := E.1) (ci := 8) (v := .ref (a 3)) (C := RX4) (T := TX4) (N := 16) hx hb hts inX4 hown hK hP 0 rfl rfl 2 (by decide) (hts _ q72) (fun _ h9 => h9) rfl dX4_join_23 ?_
  refine lv_iload hx hb dX4_join_26 (lv_at hl 0 rfl) ?_
  refine lv_iload_n hx hb dX4_join_28 rfl (lv_at hl 4 rfl) ?_
  refine nv_iast (f := (g 2)) (i := g 8 0) (v := n2) (n := 8) hx hb hK hP hD hS 3 0 rfl rfl (by omega) (by decide) dX4_join_29 (fun H locs hP hD hS => ?_)
  have hP : va_P E.1 vwCl ([stC E a (up2 (up2 (up2 g 0 (g 8 0) n0) 1 (g 8 0) n1) 2 (g 8 0) n2)] : List va_W).flatten H := hP
  have hD : va_D A ([stC E a (up2 (up2 (up2 g 0 (g 8 0) n0) 1 (g 8 0) n1) 2 (g 8 0) n2)] : List va_W).flatten := hD
  refine lv_aload_n hx hb dX4_join_30 rfl (lv_at hl 1 rfl) ?_
  refine va_get (D := E.1) (ci := 8) (v := .ref (a 4)) (C := RX4) (T := TX4) (N := 16) hx hb hts inX4 hown hK hP 0 rfl rfl 3 (by decide) (hts _ q74) (fun _ h9 => h9) rfl dX4_join_31 ?_
  refine lv_iload hx hb dX4_join_34 (lv_at hl 0 rfl) ?_
  refine lv_iload hx hb dX4_join_36 (lv_at hl 5 rfl) ?_
  refine nv_iast (f := (g 3)) (i := g 8 0) (v := n3) (n := 8) hx hb hK hP hD hS 4 0 rfl rfl (by omega) (by decide) dX4_join_38 (fun H locs hP hD hS => ?_)
  have hP : va_P E.1 vwCl ([stC E a (up2 (up2 (up2 (up2 g 0 (g 8 0) n0) 1 (g 8 0) n1) 2 (g 8 0) n2) 3 (g 8 0) n3)] : List va_W).flatten H := hP
  have hD : va_D A ([stC E a (up2 (up2 (up2 (up2 g 0 (g 8 0) n0) 1 (g 8 0) n1) 2 (g 8 0) n2) 3 (g 8 0) n3)] : List va_W).flatten := hD
  refine lv_aload_n hx hb dX4_join_39 rfl (lv_at hl 1 rfl) ?_
  refine va_get (D := E.1) (ci := 8) (v := .ref (a 5)) (C := RX4) (T := TX4) (N := 16) hx hb hts inX4 hown hK hP 0 rfl rfl 4 (by decide) (hts _ q76) (fun _ h9 => h9) rfl dX4_join_40 ?_
  refine lv_iload hx hb dX4_join_43 (lv_at hl 0 rfl) ?_
  refine lv_iconst (v := nI 0) hx hb dX4_join_45 (by decide) ?_
  refine nv_iast (f := (g 4)) (i := g 8 0) (v := 0) (n := 8) hx hb hK hP hD hS 5 0 rfl rfl (by omega) (by decide) dX4_join_46 (fun H locs hP hD hS => ?_)
  have hP : va_P E.1 vwCl ([stC E a (up2 (up2 (up2 (up2 (up2 g 0 (g 8 0) n0) 1 (g 8 0) n1) 2 (g 8 0) n2) 3 (g 8 0) n3) 4 (g 8 0) 0)] : List va_W).flatten H := hP
  have hD : va_D A ([stC E a (up2 (up2 (up2 (up2 (up2 g 0 (g 8 0) n0) 1 (g 8 0) n1) 2 (g 8 0) n2) 3 (g 8 0) n3) 4 (g 8 0) 0)] : List va_W).flatten := hD
  refine lv_aload_n hx hb dX4_join_47 rfl (lv_at hl 1 rfl) ?_
  refine va_get (D := E.1) (ci := 8) (v := .ref (a 6)) (C := RX4) (T := TX4) (N := 16) hx hb hts inX4 hown hK hP 0 rfl rfl 5 (by decide) (hts _ q78) (fun _ h9 => h9) rfl dX4_join_48 ?_
  refine lv_iload hx hb dX4_join_51 (lv_at hl 0 rfl) ?_
  refine lv_iconst (v := nI 0) hx hb dX4_join_53 (by decide) ?_
  refine nv_iast (f := (g 5)) (i := g 8 0) (v := 0) (n := 8) hx hb hK hP hD hS 6 0 rfl rfl (by omega) (by decide) dX4_join_54 (fun H locs hP hD hS => ?_)
  have hP : va_P E.1 vwCl ([stC E a (up2 (up2 (up2 (up2 (up2 (up2 g 0 (g 8 0) n0) 1 (g 8 0) n1) 2 (g 8 0) n2) 3 (g 8 0) n3) 4 (g 8 0) 0) 5 (g 8 0) 0)] : List va_W).flatten H := hP
  have hD : va_D A ([stC E a (up2 (up2 (up2 (up2 (up2 (up2 g 0 (g 8 0) n0) 1 (g 8 0) n1) 2 (g 8 0) n2) 3 (g 8 0) n3) 4 (g 8 0) 0) 5 (g 8 0) 0)] : List va_W).flatten := hD
  refine lv_aload_n hx hb dX4_join_55 rfl (lv_at hl 1 rfl) ?_
  refine va_get (D := E.1) (ci := 8) (v := .ref (a 7)) (C := RX4) (T := TX4) (N := 16) hx hb hts inX4 hown hK hP 0 rfl rfl 6 (by decide) (hts _ q81) (fun _ h9 => h9) rfl dX4_join_56 ?_
  refine lv_iload hx hb dX4_join_59 (lv_at hl 0 rfl) ?_
  refine lv_iconst (v := nI 0) hx hb dX4_join_61 (by decide) ?_
  refine nv_iast (f := (g 6)) (i := g 8 0) (v := 0) (n := 8) hx hb hK hP hD hS 7 0 rfl rfl (by omega) (by decide) dX4_join_62 (fun H locs hP hD hS => ?_)
  have hP : va_P E.1 vwCl ([stC E a (up2 (up2 (up2 (up2 (up2 (up2 (up2 g 0 (g 8 0) n0) 1 (g 8 0) n1) 2 (g 8 0) n2) 3 (g 8 0) n3) 4 (g 8 0) 0) 5 (g 8 0) 0) 6 (g 8 0) 0)] : List va_W).flatten H := hP
  have hD : va_D A ([stC E a (up2 (up2 (up2 (up2 (up2 (up2 (up2 g 0 (g 8 0) n0) 1 (g 8 0) n1) 2 (g 8 0) n2) 3 (g 8 0) n3) 4 (g 8 0) 0) 5 (g 8 0) 0) 6 (g 8 0) 0)] : List va_W).flatten := hD
  refine lv_aload_n hx hb dX4_join_63 rfl (lv_at hl 1 rfl) ?_
  refine lv_dup hx hb dX4_join_64 rfl ?_
  refine va_get (D := E.1) (ci := 8) (v := .int (nI (g 8 0))) (C := RX4) (T := TX4) (N := 16) hx hb hts inX4 hown hK hP 0 rfl rfl 8 (by decide) (hts _ q85) (fun _ h9 => h9) rfl dX4_join_65 ?_
  refine lv_iconst (v := nI 1) hx hb dX4_join_68 (by decide) ?_
  refine nv_iadd hx hb dX4_join_69 ?_
  refine va_put (D := E.1) (ci := 8) (v := .int (nI (g 8 0 + 1))) (ty := .int) (C := RX4) (T := TX4) (N := 16) hx hb hts inX4 tyX4 tyX4_ok nmX4 hown hK hP hD hS 0 rfl rfl 8 (by decide) (hts _ q85) (fun _ h9 => h9) rfl (by decide +kernel) rfl rfl (Nat.le_of_ble_eq_true rfl) dX4_join_70 (fun H locs hP hD hS => ?_)
  have hP : va_P E.1 vwCl ([stC E a (up2 (up2 (up2 (up2 (up2 (up2 (up2 (up2 g 0 (g 8 0) n0) 1 (g 8 0) n1) 2 (g 8 0) n2) 3 (g 8 0) n3) 4 (g 8 0) 0) 5 (g 8 0) 0) 6 (g 8 0) 0) 8 0 (g 8 0 + 1))] : List va_W).flatten H := hP
  have hD : va_D A ([stC E a (up2 (up2 (up2 (up2 (up2 (up2 (up2 (up2 g 0 (g 8 0) n0) 1 (g 8 0) n1) 2 (g 8 0) n2) 3 (g 8 0) n3) 4 (g 8 0) 0) 5 (g 8 0) 0) 6 (g 8 0) 0) 8 0 (g 8 0 + 1))] : List va_W).flatten := hD
  refine lv_iload hx hb dX4_join_73 (lv_at hl 0 rfl) ?_
  exact hret _ _ (nI (g 8 0)) () _ _ hP hD hS rfl (by rfl) dX4_join_75
abbrev rm_X4_faultOfWinding : Room := { frames := 1, cells := 0, slots := 0, locals := 21 }
set_option maxHeartbeats 4000000 in
set_option maxRecDepth 100000 in
theorem c_X4_faultOfWinding (l : Launch) (E : EE) (sz : Nat) (a : Nat → Nat) (g : GG) (p0 p1 : Int32) (B : Nat) (hI : IB B g) : MI l yX4_faultOfWinding cX4_faultOfWinding 3 .int rm_X4_faultOfWinding [.ref (a 0), .int p0, .int p1] E sz [stC E a g] (fun (r : Int32) (_ : Unit) => r = nI (fWind g p0 p1)) (fun _ => [stC E a g]) 0 0 := by
  refine mi_go (by decide) (Nat.le_of_ble_eq_true rfl) ?_
  intro p e s m below meth c A Q ls hx hb hml hown hts hK hZ hA hsz hP hD hl hret
  have hS : va_S A s.heap s.heap [] := va_S.rf
  have hl : lv_has ls 3 [(0, .ref (a 0)), (1, .int p0), (2, .int p1)] := hl
  skip
  have hmc := hI.mc
  have hbu := hI.bud
  refine lv_aload_n hx hb dX4_faultOfWinding_0 rfl (lv_at hl 0 rfl) ?_
  refine lv_iload_n hx hb dX4_faultOfWinding_1 rfl (lv_at hl 1 rfl) ?_
  refine run_i (S := Unit) (run_V (As := [.int p0]) (rest := []) (bs := [stC E a g]) (cb := [stC E a g]) hx hb hml hown hts hK hZ hA (c_X4_hasMember l E _ a g p0 hmc) l_X4_71 rfl ⟨⟨rfl, rfl⟩, Nat.le_of_ble_eq_true rfl, Nat.le_of_ble_eq_true rfl⟩ 8 rfl [0] rfl (by decide) rfl hP hD hS hl.1 rfl (by decide) dX4_faultOfWinding_2 ⟨Nat.zero_le _, Nat.zero_le _⟩) hA hP hD hS (isC := [0]) rfl [] [0] (br := []) (bs2 := fun _ => [stC E a g]) rfl (by decide) (fun _ => rfl) (by decide) (fun r u H locs hw hP hD hS => ?_)
  subst hw
  refine bv_if_ne hx hb (tgt := 10) dX4_faultOfWinding_5 (by decide) (fun c_1 => ?_) (fun c_1 => ?_)
  · skip
    have c_1 := of_decide_eq_true c_1
    refine lv_iload_n hx hb dX4_faultOfWinding_10 rfl (lv_at hl 2 rfl) ?_
    refine lv_iconst (v := nI 1) hx hb dX4_faultOfWinding_11 (by decide) ?_
    refine nv_icmp_lt (X := p1.toInt) (Y := ((1 : Nat) : Int)) hx hb rfl (nI_toInt (by omega)) (tgt := 21) dX4_faultOfWinding_12 (by decide) (fun c_2 => ?_) (fun c_2 => ?_)
    · skip
      refine lv_iconst (v := nI 2) hx hb dX4_faultOfWinding_21 (by decide) ?_
      exact hret _ _ (nI 2) () _ _ hP hD hS rfl (by simp only [fWind]; (repeat' split) <;> first | rfl | (exfalso; omega)) dX4_faultOfWinding_22
    · skip
      refine lv_iload_n hx hb dX4_faultOfWinding_15 rfl (lv_at hl 2 rfl) ?_
      refine lv_bipush (v := nI 60) hx hb dX4_faultOfWinding_16 (by decide) ?_
      refine nv_icmp_le (X := p1.toInt) (Y := ((60 : Nat) : Int)) hx hb rfl (nI_toInt (by omega)) (tgt := 23) dX4_faultOfWinding_18 (by decide) (fun c_3 => ?_) (fun c_3 => ?_)
      · skip
        obtain ⟨m0, hm0, rfl, em0⟩ := raw_n (x := p0) (by omega)
        obtain ⟨t0, ht0, rfl, et0⟩ := raw_n (x := p1) (by omega)
        have hmb := hI.mem (m := m0) (by omega)
        refine lv_aload_n hx hb dX4_faultOfWinding_23 rfl (lv_at hl 0 rfl) ?_
        refine va_get (D := E.1) (ci := 8) (v := .ref (a 5)) (C := RX4) (T := TX4) (N := 16) hx hb hts inX4 hown hK hP 0 rfl rfl 4 (by decide) (hts _ q76) (fun _ h9 => h9) rfl dX4_faultOfWinding_24 ?_
        refine lv_iload_n hx hb dX4_faultOfWinding_27 rfl (lv_at hl 1 rfl) ?_
        refine nv_iald (f := (g 4)) (i := m0) (n := 8) hx hb hK hP 5 0 rfl rfl (by omega) (by decide) dX4_faultOfWinding_28 ?_
        refine lv_iload_n hx hb dX4_faultOfWinding_29 rfl (lv_at hl 2 rfl) ?_
        refine nv_iadd hx hb dX4_faultOfWinding_30 ?_
        refine lv_bipush (v := nI 60) hx hb dX4_faultOfWinding_31 (by decide) ?_
        refine nv_icmp_le (X := ((g 4 m0 + t0 : Nat) : Int)) (Y := ((60 : Nat) : Int)) hx hb (nI_toInt (by omega)) (nI_toInt (by omega)) (tgt := 40) dX4_faultOfWinding_33 (by decide) (fun c_4 => ?_) (fun c_4 => ?_)
        · skip
          refine lv_iconst (v := nI 0) hx hb dX4_faultOfWinding_40 (by decide) ?_
          exact hret _ _ (nI 0) () _ _ hP hD hS rfl (by simp only [fWind, em0, et0, Int.toNat_natCast]; (repeat' split) <;> first | rfl | (exfalso; omega)) dX4_faultOfWinding_41
        · skip
          refine lv_iconst (v := nI 3) hx hb dX4_faultOfWinding_36 (by decide) ?_
          refine lv_goto (tgt := 41) hx hb dX4_faultOfWinding_37 (by decide) ?_
          exact hret _ _ (nI 3) () _ _ hP hD hS rfl (by simp only [fWind, em0, et0, Int.toNat_natCast]; (repeat' split) <;> first | rfl | (exfalso; omega)) dX4_faultOfWinding_41
      · skip
        refine lv_iconst (v := nI 2) hx hb dX4_faultOfWinding_21 (by decide) ?_
        exact hret _ _ (nI 2) () _ _ hP hD hS rfl (by simp only [fWind]; (repeat' split) <;> first | rfl | (exfalso; omega)) dX4_faultOfWinding_22
  · skip
    have c_1 := of_decide_eq_false c_1
    refine lv_iconst (v := nI 1) hx hb dX4_faultOfWinding_8 (by decide) ?_
    exact hret _ _ (nI 1) () _ _ hP hD hS rfl (by simp only [fWind]; (repeat' split) <;> first | rfl | (exfalso; omega)) dX4_faultOfWinding_9
abbrev rm_X4_windUp : Room := { frames := 0, cells := 0, slots := 0, locals := 0 }
set_option maxHeartbeats 4000000 in
set_option maxRecDepth 100000 in
theorem c_X4_windUp (l : Launch) (E : EE) (sz : Nat) (a : Nat → Nat) (g : GG) (m0 t0 : Nat) (hm : m0 < 8) : MI l yX4_windUp cX4_windUp 3 .int rm_X4_windUp [.ref (a 0), .int (nI m0), .int (nI t0)] E sz [stC E a g] (fun (r : Int32) (_ : Unit) => r = nI (g 4 m0 + t0)) (fun _ => [stC E a (windG g m0 t0)]) 0 0 := by
  refine mi_go (by decide) (Nat.le_of_ble_eq_true rfl) ?_
  intro p e s m below meth c A Q ls hx hb hml hown hts hK hZ hA hsz hP hD hl hret
  have hS : va_S A s.heap s.heap [] := va_S.rf
  have hl : lv_has ls 3 [(0, .ref (a 0)), (1, .int (nI m0)), (2, .int (nI t0))] := hl
  skip
  refine lv_aload_n hx hb dX4_windUp_0 rfl (lv_at hl 0 rfl) ?_
  refine va_get (D := E.1) (ci := 8) (v := .ref (a 5)) (C := RX4) (T := TX4) (N := 16) hx hb hts inX4 hown hK hP 0 rfl rfl 4 (by decide) (hts _ q76) (fun _ h9 => h9) rfl dX4_windUp_1 ?_
  refine lv_iload_n hx hb dX4_windUp_4 rfl (lv_at hl 1 rfl) ?_
  refine lv_dup2_11 hx hb dX4_windUp_5 rfl rfl ?_
  refine nv_iald (f := (g 4)) (i := m0) (n := 8) hx hb hK hP 5 0 rfl rfl (by omega) (by decide) dX4_windUp_6 ?_
  refine lv_iload_n hx hb dX4_windUp_7 rfl (lv_at hl 2 rfl) ?_
  refine nv_iadd hx hb dX4_windUp_8 ?_
  refine nv_iast (f := (g 4)) (i := m0) (v := g 4 m0 + t0) (n := 8) hx hb hK hP hD hS 5 0 rfl rfl (by omega) (by decide) dX4_windUp_9 (fun H locs hP hD hS => ?_)
  have hP : va_P E.1 vwCl ([stC E a (up2 g 4 m0 (g 4 m0 + t0))] : List va_W).flatten H := hP
  have hD : va_D A ([stC E a (up2 g 4 m0 (g 4 m0 + t0))] : List va_W).flatten := hD
  refine lv_aload_n hx hb dX4_windUp_10 rfl (lv_at hl 0 rfl) ?_
  refine va_get (D := E.1) (ci := 8) (v := .ref (a 5)) (C := RX4) (T := TX4) (N := 16) hx hb hts inX4 hown hK hP 0 rfl rfl 4 (by decide) (hts _ q76) (fun _ h9 => h9) rfl dX4_windUp_11 ?_
  refine lv_iload_n hx hb dX4_windUp_14 rfl (lv_at hl 1 rfl) ?_
  refine nv_iald (f := ((up2 g 4 m0 (g 4 m0 + t0)) 4)) (i := m0) (n := 8) hx hb hK hP 5 0 rfl rfl (by omega) (by decide) dX4_windUp_15 ?_
  refine tp_i (congrArg nI up2_s) ?_
  exact hret _ _ (nI (g 4 m0 + t0)) () _ _ hP hD hS rfl (by rfl) dX4_windUp_16
abbrev rm_X4_faultOfTuning : Room := { frames := 1, cells := 0, slots := 0, locals := 21 }
set_option maxHeartbeats 4000000 in
set_option maxRecDepth 100000 in
theorem c_X4_faultOfTuning (l : Launch) (E : EE) (sz : Nat) (a : Nat → Nat) (g : GG) (p0 p1 : Int32) (hm : g 8 0 ≤ 8) : MI l yX4_faultOfTuning cX4_faultOfTuning 3 .int rm_X4_faultOfTuning [.ref (a 0), .int p0, .int p1] E sz [stC E a g] (fun (r : Int32) (_ : Unit) => r = nI (fTune g p0 p1)) (fun _ => [stC E a g]) 0 0 := by
  refine mi_go (by decide) (Nat.le_of_ble_eq_true rfl) ?_
  intro p e s m below meth c A Q ls hx hb hml hown hts hK hZ hA hsz hP hD hl hret
  have hS : va_S A s.heap s.heap [] := va_S.rf
  have hl : lv_has ls 3 [(0, .ref (a 0)), (1, .int p0), (2, .int p1)] := hl
  skip
  have hmc := hm
  refine lv_aload_n hx hb dX4_faultOfTuning_0 rfl (lv_at hl 0 rfl) ?_
  refine lv_iload_n hx hb dX4_faultOfTuning_1 rfl (lv_at hl 1 rfl) ?_
  refine run_i (S := Unit) (run_V (As := [.int p0]) (rest := []) (bs := [stC E a g]) (cb := [stC E a g]) hx hb hml hown hts hK hZ hA (c_X4_hasMember l E _ a g p0 hmc) l_X4_71 rfl ⟨⟨rfl, rfl⟩, Nat.le_of_ble_eq_true rfl, Nat.le_of_ble_eq_true rfl⟩ 8 rfl [0] rfl (by decide) rfl hP hD hS hl.1 rfl (by decide) dX4_faultOfTuning_2 ⟨Nat.zero_le _, Nat.zero_le _⟩) hA hP hD hS (isC := [0]) rfl [] [0] (br := []) (bs2 := fun _ => [stC E a g]) rfl (by decide) (fun _ => rfl) (by decide) (fun r u H locs hw hP hD hS => ?_)
  subst hw
  refine bv_if_ne hx hb (tgt := 10) dX4_faultOfTuning_5 (by decide) (fun c_1 => ?_) (fun c_1 => ?_)
  · skip
    have c_1 := of_decide_eq_true c_1
    refine lv_iload_n hx hb dX4_faultOfTuning_10 rfl (lv_at hl 2 rfl) ?_
    refine run_i (S := Unit) (run_S (As := [.int p1]) (rest := []) (bs := [stC E a g]) (cb := []) hx hb hml hown hts hK hZ hA (c_X4_isTone l E _ p1) l_X4_67 rfl ⟨⟨rfl, rfl⟩, Nat.le_of_ble_eq_true rfl, Nat.le_of_ble_eq_true rfl⟩ [] rfl (by decide) hP hD hS hl.1 rfl (by decide) dX4_faultOfTuning_11 ⟨Nat.zero_le _, Nat.zero_le _⟩) hA hP hD hS (isC := []) rfl [0] [0] (br := [stC E a g]) (bs2 := fun _ => [stC E a g]) rfl (by decide) (fun _ => rfl) (by decide) (fun r u H locs hw hP hD hS => ?_)
    subst hw
    refine bv_if_eq hx hb (tgt := 21) dX4_faultOfTuning_14 (by decide) (fun c_2 => ?_) (fun c_2 => ?_)
    · skip
      have c_2 := of_decide_eq_false c_2
      refine lv_iconst (v := nI 2) hx hb dX4_faultOfTuning_21 (by decide) ?_
      exact hret _ _ (nI 2) () _ _ hP hD hS rfl (by simp only [fTune]; (repeat' split) <;> first | rfl | (exfalso; omega)) dX4_faultOfTuning_22
    · skip
      have c_2 := of_decide_eq_true c_2
      refine lv_iconst (v := nI 0) hx hb dX4_faultOfTuning_17 (by decide) ?_
      refine lv_goto (tgt := 22) hx hb dX4_faultOfTuning_18 (by decide) ?_
      exact hret _ _ (nI 0) () _ _ hP hD hS rfl (by simp only [fTune]; (repeat' split) <;> first | rfl | (exfalso; omega)) dX4_faultOfTuning_22
  · skip
    have c_1 := of_decide_eq_false c_1
    refine lv_iconst (v := nI 1) hx hb dX4_faultOfTuning_8 (by decide) ?_
    exact hret _ _ (nI 1) () _ _ hP hD hS rfl (by simp only [fTune]; (repeat' split) <;> first | rfl | (exfalso; omega)) dX4_faultOfTuning_9
abbrev rm_X4_retune : Room := { frames := 0, cells := 0, slots := 0, locals := 0 }
set_option maxHeartbeats 4000000 in
set_option maxRecDepth 100000 in
theorem c_X4_retune (l : Launch) (E : EE) (sz : Nat) (a : Nat → Nat) (g : GG) (m0 t0 : Nat) (hm : m0 < 8) : MI l yX4_retune cX4_retune 4 .int rm_X4_retune [.ref (a 0), .int (nI m0), .int (nI t0)] E sz [stC E a g] (fun (r : Int32) (_ : Unit) => r = nI (g 3 m0)) (fun _ => [stC E a (up2 g 3 m0 t0)]) 0 0 := by
  refine mi_go (by decide) (Nat.le_of_ble_eq_true rfl) ?_
  intro p e s m below meth c A Q ls hx hb hml hown hts hK hZ hA hsz hP hD hl hret
  have hS : va_S A s.heap s.heap [] := va_S.rf
  have hl : lv_has ls 4 [(0, .ref (a 0)), (1, .int (nI m0)), (2, .int (nI t0))] := hl
  skip
  refine lv_aload_n hx hb dX4_retune_0 rfl (lv_at hl 0 rfl) ?_
  refine va_get (D := E.1) (ci := 8) (v := .ref (a 4)) (C := RX4) (T := TX4) (N := 16) hx hb hts inX4 hown hK hP 0 rfl rfl 3 (by decide) (hts _ q74) (fun _ h9 => h9) rfl dX4_retune_1 ?_
  refine lv_iload_n hx hb dX4_retune_4 rfl (lv_at hl 1 rfl) ?_
  refine nv_iald (f := (g 3)) (i := m0) (n := 8) hx hb hK hP 4 0 rfl rfl (by omega) (by decide) dX4_retune_5 ?_
  refine lv_istore_n (lv' := [(3, .int (nI (g 3 m0))), (0, .ref (a 0)), (1, .int (nI m0)), (2, .int (nI t0))]) hx hb dX4_retune_6 rfl hl (by decide) rfl (fun ls hl => ?_)
  refine lv_aload_n hx hb dX4_retune_7 rfl (lv_at hl 1 rfl) ?_
  refine va_get (D := E.1) (ci := 8) (v := .ref (a 4)) (C := RX4) (T := TX4) (N := 16) hx hb hts inX4 hown hK hP 0 rfl rfl 3 (by decide) (hts _ q74) (fun _ h9 => h9) rfl dX4_retune_8 ?_
  refine lv_iload_n hx hb dX4_retune_11 rfl (lv_at hl 2 rfl) ?_
  refine lv_iload_n hx hb dX4_retune_12 rfl (lv_at hl 3 rfl) ?_
  refine nv_iast (f := (g 3)) (i := m0) (v := t0) (n := 8) hx hb hK hP hD hS 4 0 rfl rfl (by omega) (by decide) dX4_retune_13 (fun H locs hP hD hS => ?_)
  have hP : va_P E.1 vwCl ([stC E a (up2 g 3 m0 t0)] : List va_W).flatten H := hP
  have hD : va_D A ([stC E a (up2 g 3 m0 t0)] : List va_W).flatten := hD
  refine lv_iload_n hx hb dX4_retune_14 rfl (lv_at hl 0 rfl) ?_
  exact hret _ _ (nI (g 3 m0)) () _ _ hP hD hS rfl (by rfl) dX4_retune_15
abbrev rm_X4_faultOfBuying : Room := { frames := 1, cells := 0, slots := 0, locals := 21 }
set_option maxHeartbeats 4000000 in
set_option maxRecDepth 100000 in
theorem c_X4_faultOfBuying (l : Launch) (E : EE) (sz : Nat) (a : Nat → Nat) (g : GG) (p0 p1 : Int32) (B : Nat) (hI : IB B g) : MI l yX4_faultOfBuying cX4_faultOfBuying 3 .int rm_X4_faultOfBuying [.ref (a 0), .int p0, .int p1] E sz [stC E a g] (fun (r : Int32) (_ : Unit) => r = nI (fBuy g p0 p1)) (fun _ => [stC E a g]) 0 0 := by
  refine mi_go (by decide) (Nat.le_of_ble_eq_true rfl) ?_
  intro p e s m below meth c A Q ls hx hb hml hown hts hK hZ hA hsz hP hD hl hret
  have hS : va_S A s.heap s.heap [] := va_S.rf
  have hl : lv_has ls 3 [(0, .ref (a 0)), (1, .int p0), (2, .int p1)] := hl
  skip
  have hmc := hI.mc
  have hbu := hI.bud
  refine lv_aload_n hx hb dX4_faultOfBuying_0 rfl (lv_at hl 0 rfl) ?_
  refine lv_iload_n hx hb dX4_faultOfBuying_1 rfl (lv_at hl 1 rfl) ?_
  refine run_i (S := Unit) (run_V (As := [.int p0]) (rest := []) (bs := [stC E a g]) (cb := [stC E a g]) hx hb hml hown hts hK hZ hA (c_X4_hasMember l E _ a g p0 hmc) l_X4_71 rfl ⟨⟨rfl, rfl⟩, Nat.le_of_ble_eq_true rfl, Nat.le_of_ble_eq_true rfl⟩ 8 rfl [0] rfl (by decide) rfl hP hD hS hl.1 rfl (by decide) dX4_faultOfBuying_2 ⟨Nat.zero_le _, Nat.zero_le _⟩) hA hP hD hS (isC := [0]) rfl [] [0] (br := []) (bs2 := fun _ => [stC E a g]) rfl (by decide) (fun _ => rfl) (by decide) (fun r u H locs hw hP hD hS => ?_)
  subst hw
  refine bv_if_ne hx hb (tgt := 10) dX4_faultOfBuying_5 (by decide) (fun c_1 => ?_) (fun c_1 => ?_)
  · skip
    have c_1 := of_decide_eq_true c_1
    refine lv_iload_n hx hb dX4_faultOfBuying_10 rfl (lv_at hl 2 rfl) ?_
    refine lv_iconst (v := nI 1) hx hb dX4_faultOfBuying_11 (by decide) ?_
    refine nv_icmp_lt (X := p1.toInt) (Y := ((1 : Nat) : Int)) hx hb rfl (nI_toInt (by omega)) (tgt := 21) dX4_faultOfBuying_12 (by decide) (fun c_2 => ?_) (fun c_2 => ?_)
    · skip
      refine lv_iconst (v := nI 2) hx hb dX4_faultOfBuying_21 (by decide) ?_
      exact hret _ _ (nI 2) () _ _ hP hD hS rfl (by simp only [fBuy]; (repeat' split) <;> first | rfl | (exfalso; omega)) dX4_faultOfBuying_22
    · skip
      refine lv_iload_n hx hb dX4_faultOfBuying_15 rfl (lv_at hl 2 rfl) ?_
      refine lv_bipush (v := nI 50) hx hb dX4_faultOfBuying_16 (by decide) ?_
      refine nv_icmp_lt (X := p1.toInt) (Y := ((50 : Nat) : Int)) hx hb rfl (nI_toInt (by omega)) (tgt := 23) dX4_faultOfBuying_18 (by decide) (fun c_3 => ?_) (fun c_3 => ?_)
      · skip
        obtain ⟨m0, hm0, rfl, em0⟩ := raw_n (x := p0) (by omega)
        obtain ⟨t0, ht0, rfl, et0⟩ := raw_n (x := p1) (by omega)
        have hmb := hI.mem (m := m0) (by omega)
        have hpu := hI.pu (m := m0) (by omega)
        refine lv_aload_n hx hb dX4_faultOfBuying_23 rfl (lv_at hl 0 rfl) ?_
        refine va_get (D := E.1) (ci := 8) (v := .ref (a 1)) (C := RX4) (T := TX4) (N := 16) hx hb hts inX4 hown hK hP 0 rfl rfl 0 (by decide) (hts _ q66) (fun _ h9 => h9) rfl dX4_faultOfBuying_24 ?_
        refine lv_iload_n hx hb dX4_faultOfBuying_27 rfl (lv_at hl 1 rfl) ?_
        refine nv_iald (f := (g 0)) (i := m0) (n := 8) hx hb hK hP 1 0 rfl rfl (by omega) (by decide) dX4_faultOfBuying_28 ?_
        refine lv_iload_n hx hb dX4_faultOfBuying_29 rfl (lv_at hl 2 rfl) ?_
        refine nv_iadd hx hb dX4_faultOfBuying_30 ?_
        refine lv_bipush (v := nI 50) hx hb dX4_faultOfBuying_31 (by decide) ?_
        refine nv_icmp_le (X := ((g 0 m0 + t0 : Nat) : Int)) (Y := ((50 : Nat) : Int)) hx hb (nI_toInt (by omega)) (nI_toInt (by omega)) (tgt := 38) dX4_faultOfBuying_33 (by decide) (fun c_4 => ?_) (fun c_4 => ?_)
        · skip
          refine lv_aload_n hx hb dX4_faultOfBuying_38 rfl (lv_at hl 0 rfl) ?_
          refine va_get (D := E.1) (ci := 8) (v := .ref (a 6)) (C := RX4) (T := TX4) (N := 16) hx hb hts inX4 hown hK hP 0 rfl rfl 5 (by decide) (hts _ q78) (fun _ h9 => h9) rfl dX4_faultOfBuying_39 ?_
          refine lv_iload_n hx hb dX4_faultOfBuying_42 rfl (lv_at hl 1 rfl) ?_
          refine nv_iald (f := (g 5)) (i := m0) (n := 8) hx hb hK hP 6 0 rfl rfl (by omega) (by decide) dX4_faultOfBuying_43 ?_
          refine lv_iload_n hx hb dX4_faultOfBuying_44 rfl (lv_at hl 2 rfl) ?_
          refine lv_iconst (v := nI 5) hx hb dX4_faultOfBuying_45 (by decide) ?_
          refine nv_imul hx hb dX4_faultOfBuying_46 ?_
          refine nv_icmp_ge (X := ((g 5 m0 : Nat) : Int)) (Y := ((t0 * 5 : Nat) : Int)) hx hb (nI_toInt (by omega)) (nI_toInt (by omega)) (tgt := 54) dX4_faultOfBuying_47 (by decide) (fun c_5 => ?_) (fun c_5 => ?_)
          · skip
            refine lv_iconst (v := nI 0) hx hb dX4_faultOfBuying_54 (by decide) ?_
            exact hret _ _ (nI 0) () _ _ hP hD hS rfl (by simp only [fBuy, em0, et0, Int.toNat_natCast]; (repeat' split) <;> first | rfl | (exfalso; omega)) dX4_faultOfBuying_55
          · skip
            refine lv_iconst (v := nI 4) hx hb dX4_faultOfBuying_50 (by decide) ?_
            refine lv_goto (tgt := 55) hx hb dX4_faultOfBuying_51 (by decide) ?_
            exact hret _ _ (nI 4) () _ _ hP hD hS rfl (by simp only [fBuy, em0, et0, Int.toNat_natCast]; (repeat' split) <;> first | rfl | (exfalso; omega)) dX4_faultOfBuying_55
        · skip
          refine lv_iconst (v := nI 3) hx hb dX4_faultOfBuying_36 (by decide) ?_
          exact hret _ _ (nI 3) () _ _ hP hD hS rfl (by simp only [fBuy, em0, et0, Int.toNat_natCast]; (repeat' split) <;> first | rfl | (exfalso; omega)) dX4_faultOfBuying_37
      · skip
        refine lv_iconst (v := nI 2) hx hb dX4_faultOfBuying_21 (by decide) ?_
        exact hret _ _ (nI 2) () _ _ hP hD hS rfl (by simp only [fBuy]; (repeat' split) <;> first | rfl | (exfalso; omega)) dX4_faultOfBuying_22
  · skip
    have c_1 := of_decide_eq_false c_1
    refine lv_iconst (v := nI 1) hx hb dX4_faultOfBuying_8 (by decide) ?_
    exact hret _ _ (nI 1) () _ _ hP hD hS rfl (by simp only [fBuy]; (repeat' split) <;> first | rfl | (exfalso; omega)) dX4_faultOfBuying_9
abbrev rm_X4_buy : Room := { frames := 0, cells := 0, slots := 0, locals := 0 }
set_option maxHeartbeats 4000000 in
set_option maxRecDepth 100000 in
theorem c_X4_buy (l : Launch) (E : EE) (sz : Nat) (a : Nat → Nat) (g : GG) (m0 t0 : Nat) (hm : m0 < 8) (ht : t0 * 5 ≤ g 5 m0) : MI l yX4_buy cX4_buy 3 .int rm_X4_buy [.ref (a 0), .int (nI m0), .int (nI t0)] E sz [stC E a g] (fun (r : Int32) (_ : Unit) => r = nI (g 0 m0 + t0)) (fun _ => [stC E a (buyG g m0 t0)]) 0 0 := by
  refine mi_go (by decide) (Nat.le_of_ble_eq_true rfl) ?_
  intro p e s m below meth c A Q ls hx hb hml hown hts hK hZ hA hsz hP hD hl hret
  have hS : va_S A s.heap s.heap [] := va_S.rf
  have hl : lv_has ls 3 [(0, .ref (a 0)), (1, .int (nI m0)), (2, .int (nI t0))] := hl
  skip
  refine lv_aload_n hx hb dX4_buy_0 rfl (lv_at hl 0 rfl) ?_
  refine va_get (D := E.1) (ci := 8) (v := .ref (a 6)) (C := RX4) (T := TX4) (N := 16) hx hb hts inX4 hown hK hP 0 rfl rfl 5 (by decide) (hts _ q78) (fun _ h9 => h9) rfl dX4_buy_1 ?_
  refine lv_iload_n hx hb dX4_buy_4 rfl (lv_at hl 1 rfl) ?_
  refine lv_dup2_11 hx hb dX4_buy_5 rfl rfl ?_
  refine nv_iald (f := (g 5)) (i := m0) (n := 8) hx hb hK hP 6 0 rfl rfl (by omega) (by decide) dX4_buy_6 ?_
  refine lv_iload_n hx hb dX4_buy_7 rfl (lv_at hl 2 rfl) ?_
  refine lv_iconst (v := nI 5) hx hb dX4_buy_8 (by decide) ?_
  refine nv_imul hx hb dX4_buy_9 ?_
  refine nv_isub hx hb (by omega) dX4_buy_10 ?_
  refine nv_iast (f := (g 5)) (i := m0) (v := (g 5 m0) - (t0 * 5)) (n := 8) hx hb hK hP hD hS 6 0 rfl rfl (by omega) (by decide) dX4_buy_11 (fun H locs hP hD hS => ?_)
  have hP : va_P E.1 vwCl ([stC E a (up2 g 5 m0 ((g 5 m0) - (t0 * 5)))] : List va_W).flatten H := hP
  have hD : va_D A ([stC E a (up2 g 5 m0 ((g 5 m0) - (t0 * 5)))] : List va_W).flatten := hD
  refine lv_aload_n hx hb dX4_buy_12 rfl (lv_at hl 0 rfl) ?_
  refine lv_dup hx hb dX4_buy_13 rfl ?_
  refine va_get (D := E.1) (ci := 8) (v := .int (nI (g 8 2))) (C := RX4) (T := TX4) (N := 16) hx hb hts inX4 hown hK hP 0 rfl rfl 11 (by decide) (hts _ q93) (fun _ h9 => h9) rfl dX4_buy_14 ?_
  refine lv_iload_n hx hb dX4_buy_17 rfl (lv_at hl 2 rfl) ?_
  refine lv_iconst (v := nI 5) hx hb dX4_buy_18 (by decide) ?_
  refine nv_imul hx hb dX4_buy_19 ?_
  refine nv_iadd hx hb dX4_buy_20 ?_
  refine va_put (D := E.1) (ci := 8) (v := .int (nI (g 8 2 + (t0 * 5)))) (ty := .int) (C := RX4) (T := TX4) (N := 16) hx hb hts inX4 tyX4 tyX4_ok nmX4 hown hK hP hD hS 0 rfl rfl 11 (by decide) (hts _ q93) (fun _ h9 => h9) rfl (by decide +kernel) rfl rfl (Nat.le_of_ble_eq_true rfl) dX4_buy_21 (fun H locs hP hD hS => ?_)
  have hP : va_P E.1 vwCl ([stC E a (up2 (up2 g 5 m0 ((g 5 m0) - (t0 * 5))) 8 2 (g 8 2 + (t0 * 5)))] : List va_W).flatten H := hP
  have hD : va_D A ([stC E a (up2 (up2 g 5 m0 ((g 5 m0) - (t0 * 5))) 8 2 (g 8 2 + (t0 * 5)))] : List va_W).flatten := hD
  refine lv_aload_n hx hb dX4_buy_24 rfl (lv_at hl 0 rfl) ?_
  refine va_get (D := E.1) (ci := 8) (v := .ref (a 1)) (C := RX4) (T := TX4) (N := 16) hx hb hts inX4 hown hK hP 0 rfl rfl 0 (by decide) (hts _ q66) (fun _ h9 => h9) rfl dX4_buy_25 ?_
  refine lv_iload_n hx hb dX4_buy_28 rfl (lv_at hl 1 rfl) ?_
  refine lv_dup2_11 hx hb dX4_buy_29 rfl rfl ?_
  refine nv_iald (f := (g 0)) (i := m0) (n := 8) hx hb hK hP 1 0 rfl rfl (by omega) (by decide) dX4_buy_30 ?_
  refine lv_iload_n hx hb dX4_buy_31 rfl (lv_at hl 2 rfl) ?_
  refine nv_iadd hx hb dX4_buy_32 ?_
  refine nv_iast (f := (g 0)) (i := m0) (v := g 0 m0 + t0) (n := 8) hx hb hK hP hD hS 1 0 rfl rfl (by omega) (by decide) dX4_buy_33 (fun H locs hP hD hS => ?_)
  have hP : va_P E.1 vwCl ([stC E a (up2 (up2 (up2 g 5 m0 ((g 5 m0) - (t0 * 5))) 8 2 (g 8 2 + (t0 * 5))) 0 m0 (g 0 m0 + t0))] : List va_W).flatten H := hP
  have hD : va_D A ([stC E a (up2 (up2 (up2 g 5 m0 ((g 5 m0) - (t0 * 5))) 8 2 (g 8 2 + (t0 * 5))) 0 m0 (g 0 m0 + t0))] : List va_W).flatten := hD
  refine lv_aload_n hx hb dX4_buy_34 rfl (lv_at hl 0 rfl) ?_
  refine va_get (D := E.1) (ci := 8) (v := .ref (a 1)) (C := RX4) (T := TX4) (N := 16) hx hb hts inX4 hown hK hP 0 rfl rfl 0 (by decide) (hts _ q66) (fun _ h9 => h9) rfl dX4_buy_35 ?_
  refine lv_iload_n hx hb dX4_buy_38 rfl (lv_at hl 1 rfl) ?_
  refine nv_iald (f := ((up2 (up2 (up2 g 5 m0 ((g 5 m0) - (t0 * 5))) 8 2 (g 8 2 + (t0 * 5))) 0 m0 (g 0 m0 + t0)) 0)) (i := m0) (n := 8) hx hb hK hP 1 0 rfl rfl (by omega) (by decide) dX4_buy_39 ?_
  refine tp_i (congrArg nI up2_s) ?_
  exact hret _ _ (nI (g 0 m0 + t0)) () _ _ hP hD hS rfl (by rfl) dX4_buy_40
abbrev rm_X4_faultOfPassing : Room := { frames := 0, cells := 0, slots := 0, locals := 0 }
set_option maxHeartbeats 4000000 in
set_option maxRecDepth 100000 in
theorem c_X4_faultOfPassing (l : Launch) (E : EE) (sz : Nat) (a : Nat → Nat) (g : GG) (p0 : Int32) : MI l yX4_faultOfPassing cX4_faultOfPassing 2 .int rm_X4_faultOfPassing [.ref (a 0), .int p0] E sz [stC E a g] (fun (r : Int32) (_ : Unit) => r = nI (fPass p0)) (fun _ => [stC E a g]) 0 0 := by
  refine mi_go (by decide) (Nat.le_of_ble_eq_true rfl) ?_
  intro p e s m below meth c A Q ls hx hb hml hown hts hK hZ hA hsz hP hD hl hret
  have hS : va_S A s.heap s.heap [] := va_S.rf
  have hl : lv_has ls 2 [(0, .ref (a 0)), (1, .int p0)] := hl
  skip
  refine lv_iload_n hx hb dX4_faultOfPassing_0 rfl (lv_at hl 1 rfl) ?_
  refine lv_iconst (v := nI 1) hx hb dX4_faultOfPassing_1 (by decide) ?_
  refine nv_icmp_lt (X := p0.toInt) (Y := ((1 : Nat) : Int)) hx hb rfl (nI_toInt (by omega)) (tgt := 11) dX4_faultOfPassing_2 (by decide) (fun c_1 => ?_) (fun c_1 => ?_)
  · skip
    refine lv_iconst (v := nI 2) hx hb dX4_faultOfPassing_11 (by decide) ?_
    refine lv_goto (tgt := 16) hx hb dX4_faultOfPassing_12 (by decide) ?_
    exact hret _ _ (nI 2) () _ _ hP hD hS rfl (by simp only [fPass]; (repeat' split) <;> first | rfl | (exfalso; omega)) dX4_faultOfPassing_16
  · skip
    refine lv_iload_n hx hb dX4_faultOfPassing_5 rfl (lv_at hl 1 rfl) ?_
    refine lv_bipush (v := nI 60) hx hb dX4_faultOfPassing_6 (by decide) ?_
    refine nv_icmp_le (X := p0.toInt) (Y := ((60 : Nat) : Int)) hx hb rfl (nI_toInt (by omega)) (tgt := 15) dX4_faultOfPassing_8 (by decide) (fun c_2 => ?_) (fun c_2 => ?_)
    · skip
      refine lv_iconst (v := nI 0) hx hb dX4_faultOfPassing_15 (by decide) ?_
      exact hret _ _ (nI 0) () _ _ hP hD hS rfl (by simp only [fPass]; (repeat' split) <;> first | rfl | (exfalso; omega)) dX4_faultOfPassing_16
    · skip
      refine lv_iconst (v := nI 2) hx hb dX4_faultOfPassing_11 (by decide) ?_
      refine lv_goto (tgt := 16) hx hb dX4_faultOfPassing_12 (by decide) ?_
      exact hret _ _ (nI 2) () _ _ hP hD hS rfl (by simp only [fPass]; (repeat' split) <;> first | rfl | (exfalso; omega)) dX4_faultOfPassing_16
abbrev rm_X4_faultOfMotion : Room := { frames := 1, cells := 0, slots := 0, locals := 20 }
set_option maxHeartbeats 4000000 in
set_option maxRecDepth 100000 in
theorem c_X4_faultOfMotion (l : Launch) (E : EE) (sz : Nat) (a : Nat → Nat) (g : GG) (p0 p1 : Int32) : MI l yX4_faultOfMotion cX4_faultOfMotion 3 .int rm_X4_faultOfMotion [.ref (a 0), .int p0, .int p1] E sz [stC E a g] (fun (r : Int32) (_ : Unit) => r = nI (fMot p0 p1)) (fun _ => [stC E a g]) 0 0 := by
  refine mi_go (by decide) (Nat.le_of_ble_eq_true rfl) ?_
  intro p e s m below meth c A Q ls hx hb hml hown hts hK hZ hA hsz hP hD hl hret
  have hS : va_S A s.heap s.heap [] := va_S.rf
  have hl : lv_has ls 3 [(0, .ref (a 0)), (1, .int p0), (2, .int p1)] := hl
  skip
  refine lv_iload_n hx hb dX4_faultOfMotion_0 rfl (lv_at hl 1 rfl) ?_
  refine run_i (S := Unit) (run_S (As := [.int p0]) (rest := []) (bs := [stC E a g]) (cb := []) hx hb hml hown hts hK hZ hA (c_X4_isTone l E _ p0) l_X4_67 rfl ⟨⟨rfl, rfl⟩, Nat.le_of_ble_eq_true rfl, Nat.le_of_ble_eq_true rfl⟩ [] rfl (by decide) hP hD hS hl.1 rfl (by decide) dX4_faultOfMotion_1 ⟨Nat.zero_le _, Nat.zero_le _⟩) hA hP hD hS (isC := []) rfl [0] [0] (br := [stC E a g]) (bs2 := fun _ => [stC E a g]) rfl (by decide) (fun _ => rfl) (by decide) (fun r u H locs hw hP hD hS => ?_)
  subst hw
  refine bv_if_eq hx hb (tgt := 21) dX4_faultOfMotion_4 (by decide) (fun c_1 => ?_) (fun c_1 => ?_)
  · skip
    have c_1 := of_decide_eq_false c_1
    refine lv_iconst (v := nI 2) hx hb dX4_faultOfMotion_21 (by decide) ?_
    exact hret _ _ (nI 2) () _ _ hP hD hS rfl (by simp only [fMot]; (repeat' split) <;> first | rfl | (exfalso; omega)) dX4_faultOfMotion_22
  · skip
    have c_1 := of_decide_eq_true c_1
    refine lv_iload_n hx hb dX4_faultOfMotion_7 rfl (lv_at hl 2 rfl) ?_
    refine nv_if_lt (X := p1.toInt) hx hb rfl (tgt := 21) dX4_faultOfMotion_8 (by decide) (fun c_2 => ?_) (fun c_2 => ?_)
    · skip
      refine lv_iconst (v := nI 2) hx hb dX4_faultOfMotion_21 (by decide) ?_
      exact hret _ _ (nI 2) () _ _ hP hD hS rfl (by simp only [fMot]; (repeat' split) <;> first | rfl | (exfalso; omega)) dX4_faultOfMotion_22
    · skip
      refine lv_iload_n hx hb dX4_faultOfMotion_11 rfl (lv_at hl 2 rfl) ?_
      refine lv_bipush (v := nI 6) hx hb dX4_faultOfMotion_12 (by decide) ?_
      refine nv_icmp_gt (X := p1.toInt) (Y := ((6 : Nat) : Int)) hx hb rfl (nI_toInt (by omega)) (tgt := 21) dX4_faultOfMotion_14 (by decide) (fun c_3 => ?_) (fun c_3 => ?_)
      · skip
        refine lv_iconst (v := nI 2) hx hb dX4_faultOfMotion_21 (by decide) ?_
        exact hret _ _ (nI 2) () _ _ hP hD hS rfl (by simp only [fMot]; (repeat' split) <;> first | rfl | (exfalso; omega)) dX4_faultOfMotion_22
      · skip
        refine lv_iconst (v := nI 0) hx hb dX4_faultOfMotion_17 (by decide) ?_
        refine lv_goto (tgt := 22) hx hb dX4_faultOfMotion_18 (by decide) ?_
        exact hret _ _ (nI 0) () _ _ hP hD hS rfl (by simp only [fMot]; (repeat' split) <;> first | rfl | (exfalso; omega)) dX4_faultOfMotion_22
