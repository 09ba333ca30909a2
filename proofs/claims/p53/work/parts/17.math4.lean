/-! groups of members -/
def grC (E : EE) (a : Nat → Nat) (so gw : Nat → Nat) : va_W := [(a 0, .inr (5, [.ref (a 1), .ref (a 2)])), (a 1, .inl (E.2.1 0, 256, .inl (fun j => nI (so j)))), (a 2, .inl (E.2.1 0, 401, .inl (fun j => nI (gw j))))]
def sgi (g : GG) (i q : Nat) : Nat := sm (fun m => if q.testBit m then g 0 m else 0) i
def sG (g : GG) (q : Nat) : Nat := sgi g (g 8 0) q
theorem sgi_hi {g : GG} {i k : Nat} (hk : k < 2 ^ i) : sgi g (i + 1) (2 ^ i + k) = sgi g i k + g 0 i := by
  show sm _ i + (if (2 ^ i + k).testBit i then g 0 i else 0) = _
  rw [Nat.testBit_two_pow_add_eq, Nat.testBit_lt_two_pow hk, sm_cong (g := fun m => if k.testBit m then g 0 m else 0) (fun m hm => by rw [Nat.testBit_two_pow_add_gt hm])]
  rfl
theorem sgi_lo {g : GG} {i k : Nat} (hk : k < 2 ^ i) : sgi g (i + 1) k = sgi g i k := by
  show sm _ i + (if k.testBit i then g 0 i else 0) = _
  rw [Nat.testBit_lt_two_pow hk]
  rfl
theorem sgi_le {g : GG} {i q : Nat} : sgi g i q ≤ sm (g 0) i := sm_le2 (fun k _ => by split <;> omega)
theorem p256 {B : Nat} {g : GG} (h : IB B g) {i : Nat} (hi : i < g 8 0) : 2 ^ i + 2 ^ i ≤ 256 := by
  have h1 : (2 : Nat) ^ i ≤ 2 ^ 7 := Nat.pow_le_pow_right (by decide) (by have := h.mc; omega)
  omega
theorem p256' {B : Nat} {g : GG} (h : IB B g) {i : Nat} (hi : i ≤ g 8 0) : 2 ^ i ≤ 256 := by
  have h1 : (2 : Nat) ^ i ≤ 2 ^ 8 := Nat.pow_le_pow_right (by decide) (by have := h.mc; omega)
  omega
def wnB (g : GG) (q : Nat) : Bool := decide (quo g ≤ sG g q)
def winN (g : GG) : Nat := sm (fun q => if wnB g q then 1 else 0) (2 ^ g 8 0)
def dcB (g : GG) (m q : Nat) : Bool := !(q.testBit m) && decide (sG g q < quo g ∧ quo g ≤ sG g q + g 0 m)
def powN (g : GG) (m : Nat) : Nat := sm (fun q => if dcB g m q then 1 else 0) (2 ^ g 8 0)
def pcn (n : Nat) : Nat := sm (fun b => if n.testBit b then 1 else 0) 8
def few (g : GG) : Nat → Nat
  | 0 => g 8 0
  | n + 1 => if wnB g n then (if pcn n < few g n then pcn n else few g n) else few g n
theorem few_le {g : GG} : ∀ {n : Nat}, few g n ≤ g 8 0
  | 0 => Nat.le_refl _
  | n + 1 => by
    have h := few_le (g := g) (n := n)
    show (if _ then _ else _) ≤ _
    split
    · split <;> omega
    · exact h
theorem pcn_le {n : Nat} : pcn n ≤ 8 := Nat.le_trans (sm_le (c := 1) (fun k _ => by split <;> omega)) (by decide)
def cnT (g : GG) (lo : Int) : Nat → Nat → Nat
  | 0, s => if s = 0 then 1 else 0
  | i + 1, s => cnT g lo i s + (if (i : Int) ≠ lo ∧ g 0 i ≤ s then cnT g lo i (s - g 0 i) else 0)
theorem cnT_same {g : GG} {lo : Int} {i s : Nat} (h : (i : Int) = lo ∨ s < g 0 i) : cnT g lo (i + 1) s = cnT g lo i s := by
  show _ + (if _ then _ else _) = _
  rw [if_neg (by omega)]
  rfl
theorem cnT_put {g : GG} {lo : Int} {i s : Nat} (h1 : (i : Int) ≠ lo) (h2 : g 0 i ≤ s) : cnT g lo (i + 1) s = cnT g lo i s + cnT g lo i (s - g 0 i) := by
  show _ + (if _ then _ else _) = _
  rw [if_pos ⟨h1, h2⟩]
theorem cnT_0 {g : GG} {lo : Int} : ∀ {i s : Nat}, sm (g 0) i < s → cnT g lo i s = 0
  | 0, s, h => if_neg (by have : 0 < s := h; omega)
  | i + 1, s, h => by
    have h' : sm (g 0) i + g 0 i < s := h
    show cnT g lo i s + (if _ then _ else _) = 0
    rw [cnT_0 (by omega)]
    split
    · rw [cnT_0 (by omega)]
    · rfl
theorem sm_split (f : Nat → Nat) (a : Nat) : ∀ b, sm f (a + b) = sm f a + sm (fun k => f (a + k)) b
  | 0 => rfl
  | b + 1 => by
    show sm f (a + b) + f (a + b) = sm f a + (sm (fun k => f (a + k)) b + f (a + b))
    rw [sm_split f a b]
    omega
def bad (lo : Int) (q : Nat) : Bool := decide (0 ≤ lo) && q.testBit lo.toNat
theorem grp_tab {g : GG} {lo : Int} : ∀ {n : Nat} (F : Nat → Nat) {M : Nat}, sm (g 0) n ≤ M → sm (fun q => if bad lo q then 0 else F (sgi g n q)) (2 ^ n) = sm (fun s => cnT g lo n s * F s) (M + 1)
  | 0, F, M, _ => by
    have h1 : sm (fun s => cnT g lo 0 s * F s) (M + 1) = sm (fun s => cnT g lo 0 s * F s) 1 := sm_cut (k := 1) (fun s hs => by
      show (if s = 0 then 1 else 0) * F s = 0
      rw [if_neg (by omega), Nat.zero_mul]) (by omega)
    rw [h1]
    show 0 + (if bad lo 0 then 0 else F 0) = 0 + 1 * F 0
    have h2 : bad lo 0 = false := by unfold bad; rw [Nat.zero_testBit, Bool.and_false]
    rw [h2, Nat.one_mul]
    rfl
  | n + 1, F, M, hM => by
    have hM' : sm (g 0) n + g 0 n ≤ M := hM
    rw [Nat.pow_succ, Nat.mul_two, sm_split]
    rw [sm_cong (g := fun q => if bad lo q then 0 else F (sgi g n q)) (n := 2 ^ n) (fun q hq => by show (if bad lo q then 0 else F (sgi g (n + 1) q)) = _; rw [sgi_lo hq])]
    rw [grp_tab F (M := M) (by omega)]
    have e2 : sm (fun s => cnT g lo (n + 1) s * F s) (M + 1) = sm (fun s => cnT g lo n s * F s) (M + 1) + sm (fun s => (if (n : Int) ≠ lo ∧ g 0 n ≤ s then cnT g lo n (s - g 0 n) else 0) * F s) (M + 1) := by
      rw [← sm_add]
      exact sm_cong (fun s _ => Nat.add_mul _ _ _)
    rw [e2]
    congr 1
    by_cases hl : (n : Int) = lo
    · rw [sm_cong (g := fun _ => 0) (n := 2 ^ n) (fun q hq => ?_), sm_cong (g := fun _ => 0) (n := M + 1) (fun s hs => by rw [if_neg (fun z => z.1 hl), Nat.zero_mul]), sm_const, sm_const]
      · omega
      · show (if bad lo (2 ^ n + q) then 0 else _) = 0
        rw [if_pos]
        unfold bad
        rw [decide_eq_true (by omega), show lo.toNat = n by omega, Nat.testBit_two_pow_add_eq, Nat.testBit_lt_two_pow hq]
        rfl
    · rw [sm_cong (g := fun q => if bad lo q then 0 else (fun s => F (s + g 0 n)) (sgi g n q)) (n := 2 ^ n) (fun q hq => ?_)]
      · rw [grp_tab (fun s => F (s + g 0 n)) (M := M - g 0 n) (by omega)]
        rw [show M + 1 = g 0 n + (M - g 0 n + 1) by omega, sm_split _ (g 0 n) (M - g 0 n + 1), sm_cong (g := fun _ => 0) (n := g 0 n) (fun s hs => by rw [if_neg (fun z => by omega), Nat.zero_mul]), sm_const, Nat.zero_mul, Nat.zero_add]
        exact sm_cong (fun s hs => by rw [if_pos ⟨hl, by omega⟩, show g 0 n + s - g 0 n = s by omega, Nat.add_comm s])
      · show (if bad lo (2 ^ n + q) then 0 else F (sgi g (n + 1) (2 ^ n + q))) = _
        rw [sgi_hi hq]
        have : bad lo (2 ^ n + q) = bad lo q := by
          unfold bad
          by_cases h0 : 0 ≤ lo
          · rcases Nat.lt_trichotomy lo.toNat n with z | z | z
            · rw [Nat.testBit_two_pow_add_gt z]
            · omega
            · have hp : (2 : Nat) ^ (n + 1) ≤ 2 ^ lo.toNat := Nat.pow_le_pow_right (by decide) (by omega)
              have hp2 : (2 : Nat) ^ (n + 1) = 2 ^ n + 2 ^ n := by rw [Nat.pow_succ]; omega
              rw [Nat.testBit_lt_two_pow (by omega), Nat.testBit_lt_two_pow (show q < 2 ^ lo.toNat by omega)]
          · rw [decide_eq_false h0]; rfl
        rw [this]
theorem win_tab {g : GG} : sm (fun k => cnT g (-1) (g 8 0) (quo g + k)) (allSh g + 1 - quo g) = winN g := by
  have hq : quo g ≤ allSh g + 1 := by unfold quo; omega
  have h := grp_tab (g := g) (lo := -1) (n := g 8 0) (fun s => if quo g ≤ s then 1 else 0) (M := allSh g) (Nat.le_refl _)
  rw [show allSh g + 1 = quo g + (allSh g + 1 - quo g) by omega, sm_split, sm_cong (g := fun _ => 0) (n := quo g) (fun s hs => by rw [if_neg (by omega), Nat.mul_zero]), sm_const, Nat.zero_mul, Nat.zero_add] at h
  rw [sm_cong (n := allSh g + 1 - quo g) (g := fun k => cnT g (-1) (g 8 0) (quo g + k) * (if quo g ≤ quo g + k then 1 else 0)) (fun k _ => by rw [if_pos (by omega), Nat.mul_one]), ← h]
  refine sm_cong (fun q _ => ?_)
  show (if bad (-1) q then 0 else _) = _
  rw [show bad (-1) q = false from rfl]
  unfold wnB sG
  by_cases z : quo g ≤ sgi g (g 8 0) q
  · rw [decide_eq_true z, if_pos z]; rfl
  · rw [decide_eq_false z, if_neg z]; rfl
theorem pow_tab {B : Nat} {g : GG} (h : IB B g) {m : Nat} (hm : m < g 8 0) : sm (fun k => cnT g (m : Int) (g 8 0) (quo g - g 0 m + k)) (quo g - 1 + 1 - (quo g - g 0 m)) = powN g m := by
  have hT := allSh_pos h (show 0 < g 8 0 by omega)
  have hq : quo g ≤ allSh g := by unfold quo; omega
  have hq1 : 1 ≤ quo g := by unfold quo; omega
  have h0 := (h.mem hm).1.1
  have hh := grp_tab (g := g) (lo := (m : Int)) (n := g 8 0) (fun s => if s < quo g ∧ quo g ≤ s + g 0 m then 1 else 0) (M := allSh g) (Nat.le_refl _)
  rw [show allSh g + 1 = (quo g - g 0 m) + ((quo g - (quo g - g 0 m)) + (allSh g + 1 - quo g)) by omega, sm_split, sm_cong (g := fun _ => 0) (n := quo g - g 0 m) (fun s hs => by rw [if_neg (by omega), Nat.mul_zero]), sm_const, Nat.zero_mul, Nat.zero_add, sm_split, sm_cong (g := fun _ => 0) (n := allSh g + 1 - quo g) (fun s hs => by rw [if_neg (by omega), Nat.mul_zero]), sm_const, Nat.zero_mul, Nat.add_zero] at hh
  rw [show quo g - 1 + 1 - (quo g - g 0 m) = quo g - (quo g - g 0 m) by omega]
  rw [sm_cong (n := quo g - (quo g - g 0 m)) (g := fun k => cnT g (m : Int) (g 8 0) (quo g - g 0 m + k) * (if quo g - g 0 m + k < quo g ∧ quo g ≤ quo g - g 0 m + k + g 0 m then 1 else 0)) (fun k hk => by rw [if_pos (by omega), Nat.mul_one]), ← hh]
  refine sm_cong (fun q _ => ?_)
  show (if bad (m : Int) q then 0 else _) = _
  have hb : bad (m : Int) q = q.testBit m := by unfold bad; rw [decide_eq_true (by omega)]; rfl
  rw [hb]
  unfold dcB sG
  cases q.testBit m with
  | true => rfl
  | false =>
    by_cases z : sgi g (g 8 0) q < quo g ∧ quo g ≤ sgi g (g 8 0) q + g 0 m
    · rw [decide_eq_true z, if_pos z]; rfl
    · rw [decide_eq_false z, if_neg z]; rfl
theorem mx0 {y : Int32} {a b : Nat} (hy : y.toInt = (a : Int) - (b : Int)) (ha : a < 2 ^ 31) : (if nI 0 < y then y else nI 0) = nI (a - b) := by
  have h0 : (nI 0).toInt = 0 := rfl
  by_cases h : nI 0 < y
  · rw [if_pos h]
    rw [Int32.lt_iff_toInt_lt, h0, hy] at h
    refine Int32.toInt_inj.mp ?_
    rw [hy, nI_toInt (by omega)]
    omega
  · rw [if_neg h]
    rw [Int32.lt_iff_toInt_lt, h0, hy] at h
    rw [show a - b = 0 by omega]
theorem bit1 {i m : Nat} : (i / 2 ^ m &&& 1) = if i.testBit m then 1 else 0 := by
  rw [Nat.and_one_is_mod, Nat.testBit_eq_decide_div_mod_eq]
  by_cases h : i / 2 ^ m % 2 = 1
  · rw [decide_eq_true h, h]; rfl
  · rw [decide_eq_false h, if_neg (by decide)]; omega
/-! bits, counted as the JDK does -/
def bcI (x : Int32) : Int32 :=
  let a := x - ((x.toUInt32 >>> ((nI 1).toUInt32 &&& Int32.toUInt32 31)).toInt32 &&& 1431655765)
  let b := (a &&& 858993459) + ((a.toUInt32 >>> ((nI 2).toUInt32 &&& Int32.toUInt32 31)).toInt32 &&& 858993459)
  let c := (b + (b.toUInt32 >>> ((nI 4).toUInt32 &&& Int32.toUInt32 31)).toInt32) &&& 252645135
  let d := c + (c.toUInt32 >>> ((nI 8).toUInt32 &&& Int32.toUInt32 31)).toInt32
  let e := d + (d.toUInt32 >>> ((nI 16).toUInt32 &&& Int32.toUInt32 31)).toInt32
  e &&& nI 63
theorem bcI_pcn : ∀ n, n < 256 → bcI (nI n) = nI (pcn n) := by decide +kernel
def bcL (x : Int64) : Int32 :=
  let a := x - ((x.toUInt64 >>> ((nI 1).toInt64.toUInt64 &&& Int64.toUInt64 63)).toInt64 &&& 6148914691236517205)
  let b := (a &&& 3689348814741910323) + ((a.toUInt64 >>> ((nI 2).toInt64.toUInt64 &&& Int64.toUInt64 63)).toInt64 &&& 3689348814741910323)
  let c := (b + (b.toUInt64 >>> ((nI 4).toInt64.toUInt64 &&& Int64.toUInt64 63)).toInt64) &&& 1085102592571150095
  let d := c + (c.toUInt64 >>> ((nI 8).toInt64.toUInt64 &&& Int64.toUInt64 63)).toInt64
  let e := d + (d.toUInt64 >>> ((nI 16).toInt64.toUInt64 &&& Int64.toUInt64 63)).toInt64
  let f := e + (e.toUInt64 >>> ((nI 32).toInt64.toUInt64 &&& Int64.toUInt64 63)).toInt64
  f.toInt32 &&& nI 127
