/-! the reference: its cells -/
def flat (g : GG) : Nat → Nat := fun k => if k < 8 then g 8 k else if k < 64 then g ((k - 8) % 7) ((k - 8) / 7) else g 7 (k - 64)
def hfl (gs : Nat → GG) : Nat → Nat := fun j => flat (gs (3 + j / 74)) (j % 74)
def moF (g : GG) (gs : Nat → GG) (ar : GG) : GG := fun i => match i with
  | 0 => flat g
  | 1 => flat (gs 0)
  | 2 => flat (gs 1)
  | 3 => hfl gs
  | 4 => flat (gs 2)
  | 5 => ar 0
  | 6 => ar 1
  | _ => ar 2
def moR (E : EE) (b : Nat → Nat) (z : Nat → Nat) (F : GG) : va_W := [(b 0, .inr (10, [.int (nI (z 0)), .ref (b 1), .ref (b 2), .ref (b 3), .ref (b 4), .ref (b 5), .int (nI (z 1)), .int (nI (z 2)), .ref (b 6), .ref (b 7), .ref (b 8), .int (nI (z 3)), .int (nI (z 4)), .int (nI (z 5) - 1), .int (nI (z 6) - 1), .int (nI (z 7)), .int (nI (z 8)), .int (nI (z 9)), .int (nI (z 10)), .int (nI (z 11))])),
  (b 1, .inl (E.2.1 0, 74, .inl (fun j => nI (F 0 j)))), (b 2, .inl (E.2.1 0, 74, .inl (fun j => nI (F 1 j)))), (b 3, .inl (E.2.1 0, 74, .inl (fun j => nI (F 2 j)))), (b 4, .inl (E.2.1 0, 592, .inl (fun j => nI (F 3 j)))), (b 5, .inl (E.2.1 0, 74, .inl (fun j => nI (F 4 j)))), (b 6, .inl (E.2.1 0, 60, .inl (fun j => nI (F 5 j)))), (b 7, .inl (E.2.1 0, 300, .inl (fun j => nI (F 6 j)))), (b 8, .inl (E.2.1 0, 60, .inl (fun j => nI (F 7 j))))]
abbrev moC (E : EE) (b : Nat → Nat) (z : Nat → Nat) (g : GG) (gs : Nat → GG) (ar : GG) : va_W := moR E b z (moF g gs ar)
theorem flat_mem {g : GG} {m w : Nat} (hw : w < 7) (hm : m < 8) : flat g (8 + 7 * m + w) = g w m := by
  unfold flat
  rw [if_neg (by omega), if_pos (by omega), show (8 + 7 * m + w - 8) % 7 = w by omega, show (8 + 7 * m + w - 8) / 7 = m by omega]
theorem flat_bad {g : GG} {k : Nat} : flat g (64 + k) = g 7 k := by
  unfold flat
  rw [if_neg (by omega), if_neg (by omega), show 64 + k - 64 = k by omega]
theorem flat_set {g : GG} {m w v : Nat} (hw : w < 7) (hm : m < 8) : upn (flat g) (8 + 7 * m + w) v = flat (up2 g w m v) := by
  funext k
  unfold upn flat up2 upr upn
  by_cases h1 : k < 8
  · rw [if_neg (by omega), if_pos h1, if_pos h1, if_neg (by omega)]
  · rw [if_neg h1, if_neg h1]
    by_cases h2 : k < 64
    · rw [if_pos h2, if_pos h2]
      by_cases e : k = 8 + 7 * m + w
      · subst e
        rw [if_pos rfl, show (8 + 7 * m + w - 8) % 7 = w by omega, show (8 + 7 * m + w - 8) / 7 = m by omega, if_pos rfl, if_pos rfl]
      · rw [if_neg e]
        by_cases q : (k - 8) % 7 = w
        · rw [if_pos q, if_neg (by omega), q]
        · rw [if_neg q]
    · rw [if_neg h2, if_neg h2, if_neg (by omega), if_neg (by omega)]
theorem flat_set8 {g : GG} {k v : Nat} (hk : k < 8) : upn (flat g) k v = flat (up2 g 8 k v) := by
  funext j
  unfold upn flat up2 upr upn
  by_cases h1 : j < 8
  · rw [if_pos h1, if_pos h1, if_pos rfl]
  · rw [if_neg (by omega), if_neg h1, if_neg h1]
    by_cases h2 : j < 64
    · rw [if_pos h2, if_pos h2, if_neg (by omega)]
    · rw [if_neg h2, if_neg h2, if_neg (by omega)]
theorem flat_setb {g : GG} {k v : Nat} : upn (flat g) (64 + k) v = flat (up2 g 7 k v) := by
  funext j
  unfold upn flat up2 upr upn
  by_cases h1 : j < 8
  · rw [if_neg (by omega), if_pos h1, if_pos h1, if_neg (by omega)]
  · rw [if_neg h1, if_neg h1]
    by_cases h2 : j < 64
    · rw [if_neg (by omega), if_pos h2, if_pos h2, if_neg (by omega)]
    · rw [if_neg h2, if_neg h2, if_pos rfl]
      by_cases e : j = 64 + k
      · rw [if_pos e, if_pos (by omega)]
      · rw [if_neg e, if_neg (by omega)]
theorem flat_upr {g : GG} {F : Nat → Nat} : flat (upr g 7 F) = fun k => if 64 ≤ k then F (k - 64) else flat g k := by
  funext k
  unfold flat upr
  by_cases h1 : k < 8
  · rw [if_pos h1, if_neg (by omega), if_neg (by omega), if_pos h1]
  · rw [if_neg h1, if_neg h1]
    by_cases h2 : k < 64
    · rw [if_pos h2, if_neg (by omega), if_neg (by omega), if_pos h2]
    · rw [if_neg h2, if_pos rfl, if_pos (by omega)]
/-- the intervals as the reference finds them -/
theorem ap_mod {x y : Nat} (hx : x ≤ 11) (hy : y ≤ 11) : (if 6 < (x + 12 - y) % 12 then 12 - (x + 12 - y) % 12 else (x + 12 - y) % 12) = ap x y := by
  unfold ap
  (repeat' split) <;> omega
theorem tmod_nat {x y : Nat} (h : y ≤ x) : ((x : Int) - (y : Int)) = ((x - y : Nat) : Int) := by omega
def chK (k : Nat) : Nat := if k = 8 then 8 else k + 1
def chS (k : Nat) (gs : Nat → GG) : Nat → GG := upa (fun i => if k = 8 ∧ 3 ≤ i ∧ i < 10 then gs (i + 1) else gs i) (2 + chK k) (gs 0)
theorem hfl_shift {gs : Nat → GG} : fl (hfl gs) (fun j => hfl gs (j + 74)) 518 = hfl (fun i => if 3 ≤ i ∧ i < 10 then gs (i + 1) else gs i) := by
  funext j
  unfold fl hfl
  by_cases h : j < 518
  · rw [if_pos h]
    show flat (gs (3 + (j + 74) / 74)) ((j + 74) % 74) = flat (if 3 ≤ 3 + j / 74 ∧ 3 + j / 74 < 10 then gs (3 + j / 74 + 1) else gs (3 + j / 74)) (j % 74)
    rw [if_pos (by omega), show (j + 74) / 74 = j / 74 + 1 by omega, show (j + 74) % 74 = j % 74 by omega]
    rfl
  · rw [if_neg h]
    show flat (gs (3 + j / 74)) (j % 74) = flat (if 3 ≤ 3 + j / 74 ∧ 3 + j / 74 < 10 then gs (3 + j / 74 + 1) else gs (3 + j / 74)) (j % 74)
    rw [if_neg (by omega)]
def hput (h f : Nat → Nat) (q k : Nat) : Nat → Nat := fun j => if 74 * q ≤ j ∧ j < 74 * q + k then f (j - 74 * q) else h j
theorem hput_0 {h f : Nat → Nat} {q : Nat} : hput h f q 0 = h := by funext j; unfold hput; rw [if_neg (by omega)]
theorem hput_s {h f : Nat → Nat} {q k : Nat} : upn (hput h f q k) (74 * q + k) (f k) = hput h f q (k + 1) := by
  funext j
  unfold upn hput
  by_cases e : j = 74 * q + k
  · subst e; rw [if_pos rfl, if_pos (by omega), show 74 * q + k - 74 * q = k by omega]
  · rw [if_neg e]
    by_cases g : 74 * q ≤ j ∧ j < 74 * q + k
    · rw [if_pos g, if_pos (by omega)]
    · rw [if_neg g, if_neg (by omega)]
theorem hput_74 {gs : Nat → GG} {f : GG} {q : Nat} : hput (hfl gs) (flat f) q 74 = hfl (upa gs (3 + q) f) := by
  funext j
  unfold hput hfl upa
  by_cases e : 74 * q ≤ j ∧ j < 74 * q + 74
  · rw [if_pos e, if_pos (by omega), show j % 74 = j - 74 * q by omega]
  · rw [if_neg e, if_neg (by omega)]
theorem hfl_at {gs : Nat → GG} {q k : Nat} (hk : k < 74) : hfl gs (74 * q + k) = flat (gs (3 + q)) k := by
  unfold hfl
  rw [show (74 * q + k) / 74 = q by omega, show (74 * q + k) % 74 = k by omega]
theorem eq_nN {x : Int32} {Y : Int} {n : Nat} (h : x.toInt = Y) (e : Y = (n : Int)) (hz : n < 2147483648) : x = nI n := by
  refine Int32.toInt_inj.mp ?_
  rw [h, e, nI_toInt hz]
