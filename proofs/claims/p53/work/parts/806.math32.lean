/-! groups and powers -/
theorem sgi_or {g : GG} {m q : Nat} (hq : q.testBit m = false) : ∀ {i : Nat}, sgi g i (q ||| 2 ^ m) = sgi g i q + if m < i then g 0 m else 0
  | 0 => rfl
  | i + 1 => by
    show sgi g i (q ||| 2 ^ m) + (if (q ||| 2 ^ m).testBit i then g 0 i else 0) = sgi g i q + (if q.testBit i then g 0 i else 0) + _
    rw [sgi_or hq, Nat.testBit_or, Nat.testBit_two_pow]
    by_cases e : m = i
    · subst e
      rw [hq, decide_eq_true rfl, if_neg (Nat.lt_irrefl _), if_pos (show (false || true) = true from rfl), if_neg (show ¬ (false = true) by decide), if_pos (Nat.lt_succ_self _)]
    · rw [decide_eq_false e, Bool.or_false]
      by_cases d : m < i
      · rw [if_pos d, if_pos (show m < i + 1 by omega)]
        omega
      · rw [if_neg d, if_neg (show ¬ m < i + 1 by omega)]
        omega
theorem sG_or {g : GG} {m q : Nat} (hm : m < g 8 0) (hq : q.testBit m = false) : sG g (q ||| 2 ^ m) = sG g q + g 0 m := by
  unfold sG
  rw [sgi_or hq, if_pos hm]
/-- a set without the member m -/
def rmB (q m : Nat) : Nat := q ^^^ 2 ^ m
theorem rmB_or {q m : Nat} (h : q.testBit m = true) : (rmB q m).testBit m = false ∧ rmB q m ||| 2 ^ m = q := by
  unfold rmB
  constructor
  · rw [Nat.testBit_xor, h, Nat.testBit_two_pow, decide_eq_true rfl]
    rfl
  · refine Nat.eq_of_testBit_eq (fun i => ?_)
    rw [Nat.testBit_or, Nat.testBit_xor, Nat.testBit_two_pow]
    by_cases e : m = i
    · subst e
      rw [h, decide_eq_true rfl]
      rfl
    · rw [decide_eq_false e]
      cases q.testBit i <;> rfl
theorem rmB_lt {q m n : Nat} (h : q < 2 ^ n) (hm : m < n) : rmB q m < 2 ^ n := Nat.xor_lt_two_pow h (Nat.pow_lt_pow_right (by decide) hm)
theorem or_lt {q m n : Nat} (h : q < 2 ^ n) (hm : m < n) : q ||| 2 ^ m < 2 ^ n := Nat.or_lt_two_pow h (Nat.pow_lt_pow_right (by decide) hm)
/-- the other bits of a set with and without m -/
theorem or_bit {q m i : Nat} (e : i ≠ m) : (q ||| 2 ^ m).testBit i = q.testBit i := by
  rw [Nat.testBit_or, Nat.testBit_two_pow, decide_eq_false (Ne.symm e), Bool.or_false]
theorem or_bits {q m : Nat} : (q ||| 2 ^ m).testBit m = true := by
  rw [Nat.testBit_or, Nat.testBit_two_pow, decide_eq_true rfl, Bool.or_true]
theorem rmB_bit {q m i : Nat} (h : q.testBit m = true) (e : i ≠ m) : (rmB q m).testBit i = q.testBit i := by
  have := or_bit (q := rmB q m) e
  rw [(rmB_or h).2] at this
  exact this.symm
theorem dcB_iff {g : GG} {m q : Nat} : dcB g m q = true ↔ q.testBit m = false ∧ sG g q < quo g ∧ quo g ≤ sG g q + g 0 m := by
  unfold dcB
  rw [Bool.and_eq_true, decide_eq_true_iff, Bool.not_eq_true']
/-- who has no fewer shares has no less power -/
theorem powN_mono {g : GG} {i j : Nat} (hi : i < g 8 0) (hj : j < g 8 0) (h : g 0 i ≤ g 0 j) : powN g i ≤ powN g j := by
  by_cases e : i = j
  · subst e; exact Nat.le_refl _
  unfold powN
  have hne : j ≠ i := Ne.symm e
  refine cnt_inj (φ := fun q => if q.testBit j = true then rmB q j ||| 2 ^ i else q) (P := fun q => dcB g i q) (fun q hq hp => ?_) (fun a b ha hb pa pb => ?_)
  · obtain ⟨p1, p2, p3⟩ := dcB_iff.mp hp
    by_cases c : q.testBit j = true
    · obtain ⟨r1, r2⟩ := rmB_or c
      have r3 : (rmB q j).testBit i = false := by rw [rmB_bit c e]; exact p1
      have s1 : sG g q = sG g (rmB q j) + g 0 j := by
        have := sG_or hj r1
        rw [r2] at this
        exact this
      have s2 := sG_or hi r3
      refine ⟨?_, ?_⟩
      · show (if q.testBit j = true then rmB q j ||| 2 ^ i else q) < _
        rw [if_pos c]
        exact or_lt (rmB_lt hq hj) hi
      · show 1 ≤ if dcB g j (if q.testBit j = true then rmB q j ||| 2 ^ i else q) = true then 1 else 0
        rw [if_pos c, if_pos (dcB_iff.mpr ⟨by rw [or_bit hne]; exact r1, by omega, by omega⟩)]
        exact Nat.le_refl _
    · have c' : q.testBit j = false := by cases z : q.testBit j with | false => rfl | true => exact absurd z c
      refine ⟨?_, ?_⟩
      · show (if q.testBit j = true then rmB q j ||| 2 ^ i else q) < _
        rw [if_neg c]; exact hq
      · show 1 ≤ if dcB g j (if q.testBit j = true then rmB q j ||| 2 ^ i else q) = true then 1 else 0
        rw [if_neg c, if_pos (dcB_iff.mpr ⟨c', p2, by omega⟩)]
        exact Nat.le_refl _
  · obtain ⟨pa1, -⟩ := dcB_iff.mp pa
    obtain ⟨pb1, -⟩ := dcB_iff.mp pb
    show (if b.testBit j = true then rmB b j ||| 2 ^ i else b) ≠ (if a.testBit j = true then rmB a j ||| 2 ^ i else a)
    by_cases ca : a.testBit j = true
    · by_cases cb : b.testBit j = true
      · rw [if_pos ca, if_pos cb]
        intro q
        have k : b = a := by
          refine Nat.eq_of_testBit_eq (fun z => ?_)
          by_cases z1 : z = j
          · subst z1; rw [ca, cb]
          · by_cases z2 : z = i
            · subst z2; rw [pa1, pb1]
            · have h1 := congrArg (fun y => y.testBit z) q
              have h1 : (rmB b j ||| 2 ^ i).testBit z = (rmB a j ||| 2 ^ i).testBit z := h1
              rw [or_bit z2, or_bit z2, rmB_bit cb z1, rmB_bit ca z1] at h1
              exact h1
        omega
      · rw [if_pos ca, if_neg cb]
        intro q
        have := or_bits (q := rmB a j) (m := i)
        rw [← q, pb1] at this
        exact absurd this (by decide)
    · by_cases cb : b.testBit j = true
      · rw [if_neg ca, if_pos cb]
        intro q
        have := or_bits (q := rmB b j) (m := i)
        rw [q, pa1] at this
        exact absurd this (by decide)
      · rw [if_neg ca, if_neg cb]
        omega
theorem two_pred {n : Nat} (h : 0 < n) : 2 ^ n = 2 * 2 ^ (n - 1) := by
  obtain ⟨k, rfl⟩ : ∃ k, n = k + 1 := ⟨n - 1, by omega⟩
  rw [Nat.pow_succ, Nat.add_sub_cancel, Nat.mul_comm]
/-- at most half of the sets -/
theorem half_le {P : Nat → Bool} {φ : Nat → Nat} {n : Nat} (hn : 0 < n) (h1 : ∀ q, q < 2 ^ n → P q = true → φ q < 2 ^ n ∧ P (φ q) = false) (h2 : ∀ a b, a < 2 ^ n → b < a → P a = true → P b = true → φ b ≠ φ a) : sm (fun q => if P q = true then 1 else 0) (2 ^ n) ≤ 2 ^ (n - 1) := by
  have a := cnt_inj (φ := φ) (P := P) (M := 2 ^ n) (N := 2 ^ n) (h := fun q => if P q = true then 0 else 1) (fun q hq hp => ⟨(h1 q hq hp).1, by
    show 1 ≤ if P (φ q) = true then 0 else 1
    rw [(h1 q hq hp).2]
    exact Nat.le_refl _⟩) h2
  have b := sm_two P (2 ^ n)
  have c := two_pred hn
  omega
theorem powN_half {g : GG} {m : Nat} (hm : m < g 8 0) : powN g m ≤ 2 ^ (g 8 0 - 1) := by
  unfold powN
  refine half_le (φ := fun q => q ||| 2 ^ m) (by omega) (fun q hq hp => ⟨or_lt hq hm, ?_⟩) (fun a b ha hb pa pb => ?_)
  · cases z : dcB g m (q ||| 2 ^ m) with
    | false => rfl
    | true =>
      have := (dcB_iff.mp z).1
      rw [or_bits] at this
      exact absurd this (by decide)
  · intro q
    have q : b ||| 2 ^ m = a ||| 2 ^ m := q
    have pa1 := (dcB_iff.mp pa).1
    have pb1 := (dcB_iff.mp pb).1
    have k : b = a := by
      refine Nat.eq_of_testBit_eq (fun z => ?_)
      by_cases z1 : z = m
      · subst z1; rw [pa1, pb1]
      · have h1 := congrArg (fun y => y.testBit z) q
        have h1 : (b ||| 2 ^ m).testBit z = (a ||| 2 ^ m).testBit z := h1
        rw [or_bit z1, or_bit z1] at h1
        exact h1
    omega
theorem sG_com {g : GG} {q : Nat} (hq : q < 2 ^ g 8 0) : sG g (2 ^ g 8 0 - (q + 1)) + sG g q = allSh g := by
  unfold sG sgi allSh
  rw [← sm_add]
  refine sm_cong (fun m hm => ?_)
  rw [Nat.testBit_two_pow_sub_succ hq, decide_eq_true hm, Bool.true_and]
  cases q.testBit m
  · rw [if_pos (show (!false) = true from rfl), if_neg (by decide)]; rfl
  · rw [if_neg (show ¬ (!true) = true by decide), if_pos rfl]; omega
theorem winN_half {g : GG} (h0 : 0 < g 8 0) : winN g ≤ 2 ^ (g 8 0 - 1) := by
  unfold winN
  refine half_le (φ := fun q => 2 ^ g 8 0 - (q + 1)) h0 (fun q hq hp => ⟨by show 2 ^ g 8 0 - (q + 1) < 2 ^ g 8 0; omega, ?_⟩) (fun a b ha hb _ _ => by show 2 ^ g 8 0 - (b + 1) ≠ 2 ^ g 8 0 - (a + 1); omega)
  have h1 := sG_com hq
  have h2 : quo g ≤ sG g q := of_decide_eq_true hp
  have h3 : quo g = allSh g / 2 + 1 := rfl
  exact decide_eq_false (by omega)
theorem winN_pos {B : Nat} {g : GG} (h : IB B g) (h0 : 0 < g 8 0) : 1 ≤ winN g := by
  have hT := allSh_pos h h0
  have hp : 0 < 2 ^ g 8 0 := Nat.two_pow_pos _
  have h1 := sm_part (f := fun q => if wnB g q then 1 else 0) (i := 2 ^ g 8 0 - 1) (n := 2 ^ g 8 0) (by omega)
  have h2 : wnB g (2 ^ g 8 0 - 1) = true := decide_eq_true (by
    rw [sG_ones (Nat.le_refl _)]
    show allSh g / 2 + 1 ≤ allSh g
    omega)
  have h1 : (if wnB g (2 ^ g 8 0 - 1) = true then 1 else 0) ≤ winN g := h1
  rw [if_pos h2] at h1
  exact h1
theorem winN_0 {g : GG} (h0 : g 8 0 = 0) : winN g = 0 := by
  have hq : quo g = 1 := by unfold quo allSh; rw [h0, show sm (g 0) 0 = 0 from rfl]
  have hw : wnB g 0 = false := by
    refine decide_eq_false ?_
    unfold sG
    rw [h0, hq]
    show ¬ 1 ≤ 0
    omega
  unfold winN
  rw [h0, Nat.pow_zero]
  show 0 + (if wnB g 0 = true then 1 else 0) = 0
  rw [hw]
  rfl
theorem pcn_pos {g : GG} {q : Nat} (hm : g 8 0 ≤ 8) (h : wnB g q = true) : 1 ≤ pcn q := by
  rcases Nat.eq_zero_or_pos (pcn q) with z | z
  · exfalso
    have h1 : ∀ b, b < 8 → q.testBit b = false := fun b hb => by
      have := sm_part (f := fun b => if q.testBit b then 1 else 0) (i := b) (n := 8) hb
      have this : (if q.testBit b = true then 1 else 0) ≤ pcn q := this
      cases e : q.testBit b with
      | false => rfl
      | true => rw [e, if_pos rfl] at this; omega
    have h2 : sG g q = 0 := by
      have : sG g q = sm (fun _ => 0) (g 8 0) := sm_cong (fun m hm9 => by
        show (if q.testBit m = true then g 0 m else 0) = 0
        rw [h1 m (by omega)]
        rfl)
      rw [this, sm_const, Nat.zero_mul]
    have h3 : quo g ≤ sG g q := of_decide_eq_true h
    have h4 : quo g = allSh g / 2 + 1 := rfl
    omega
  · exact z
theorem few8_pos {g : GG} (hm : g 8 0 ≤ 8) : ∀ n, 1 ≤ few8 g n
  | 0 => by show 1 ≤ 8; decide
  | n + 1 => by
    show 1 ≤ if wnB g n = true ∧ pcn n < few8 g n then pcn n else few8 g n
    split
    · rename_i h; exact pcn_pos hm h.1
    · exact few8_pos hm n
theorem few8_mem {B : Nat} {g : GG} (h : IB B g) (h0 : 0 < g 8 0) : 1 ≤ few8 g (2 ^ g 8 0) ∧ few8 g (2 ^ g 8 0) ≤ g 8 0 := ⟨few8_pos h.mc _, by rw [← few_eq h h0]; exact few_le⟩
theorem fav_all {B : Nat} {g : GG} (h : IB B g) : favN g 0 6 = allSh g := by
  refine sm_cong (fun m hm => ?_)
  have h3 := (h.mem hm).2.2.1
  rw [if_pos (show inF g m 0 6 = true from decide_eq_true (ap_le h3 (by omega)))]
theorem apG_sym {g : GG} {x y : Nat} : apG g x y = apG g y x := by
  unfold apG ap
  (repeat' split) <;> omega
theorem apG_0 {B : Nat} {g : GG} (h : IB B g) {x y : Nat} (hx : x < g 8 0) (hy : y < g 8 0) : apG g x y ≤ 6 ∧ (apG g x y = 0 ↔ g 3 x = g 3 y) := by
  have h1 := (h.mem hx).2.2.1
  have h2 := (h.mem hy).2.2.1
  refine ⟨ap_le h1 h2, ?_⟩
  unfold apG ap
  (repeat' split) <;> omega
theorem dv_q {g : GG} (m : Nat) : dv g m = dq g m ∨ dv g m = dq g m + 1 := by
  unfold dv
  split
  · exact Or.inr rfl
  · exact Or.inl rfl
theorem ln_le {g : GG} {m : Nat} : 11 ≤ lnG g m := by
  have hd : ∀ n, 1 ≤ (dgs n).length := fun n => by
    unfold dgs
    simp only [List.length_append, List.length_cons, List.length_nil]
    omega
  unfold lnG memL
  simp only [List.length_append, List.length_cons]
  have h0 := hd (g 0 m)
  have h1 := hd (g 1 m)
  have h2 := hd (g 2 m)
  have h3 := hd (g 3 m)
  have h4 := hd (g 4 m)
  have h5 := hd (g 5 m)
  omega
/-! bits -/
def bt60 (x : Nat) : Nat := sm (fun k => if x.testBit k = true then 1 else 0) 60
theorem smod64 : ∀ k, k < 64 → (((nI k).toInt64 &&& 63).toBitVec.smod 64).toNat = k := by decide +kernel
theorem shr1 {x k : Nat} (hk : k < 64) : (lN x >>> ((nI k).toInt64 &&& 63)) &&& lN 1 = lN (if x.testBit k = true then 1 else 0) := by
  have hb : (lN x).toBitVec.getLsbD k = x.testBit k := by
    rw [lN_bv, BitVec.getLsbD_ofNat, decide_eq_true hk, Bool.true_and]
  apply Int64.toBitVec_inj.mp
  rw [Int64.toBitVec_and, Int64.toBitVec_shiftRight]
  have e1 : (lN x).toBitVec.sshiftRight' (((nI k).toInt64 &&& 63).toBitVec.smod 64) = (lN x).toBitVec.sshiftRight k := by
    show (lN x).toBitVec.sshiftRight (((nI k).toInt64 &&& 63).toBitVec.smod 64).toNat = _
    rw [smod64 k hk]
  rw [e1]
  apply BitVec.eq_of_getLsbD_eq
  intro i hi
  rw [BitVec.getLsbD_and, lN_bv 1]
  rcases Nat.eq_zero_or_pos i with z | z
  · subst z
    rw [BitVec.getLsbD_sshiftRight, if_pos (show k + 0 < 64 by omega), Nat.add_zero, hb]
    cases x.testBit k
    · rw [if_neg (by decide)]; rfl
    · rw [if_pos rfl]; rfl
  · have h1 : (BitVec.ofNat 64 1).getLsbD i = false := by
      rw [BitVec.getLsbD_ofNat, show (1 : Nat) = 2 ^ 0 from rfl, Nat.testBit_two_pow, decide_eq_false (show ¬ 0 = i by omega), Bool.and_false]
    rw [h1, Bool.and_false]
    split
    · exact h1.symm
    · rw [lN_bv, BitVec.getLsbD_ofNat, Nat.zero_testBit, Bool.and_false]
theorem lgc_bit (b : Bool) : lg_cmp (lN (if b = true then 1 else 0)) (lN 1) = if b = true then nI 0 else -1 := by cases b <;> decide
theorem bt_le {x : Nat} : ∀ n, sm (fun k => if x.testBit k = true then 1 else 0) n ≤ n := fun n => by
  have := sm_le (f := fun k => if x.testBit k = true then 1 else 0) (c := 1) (n := n) (fun k _ => by show (if _ then 1 else 0) ≤ 1; split <;> omega)
  omega
theorem bt_common {g : GG} {x y : Nat} : ∀ {n : Nat}, n ≤ 60 → sm (fun k => if (dlk g x 60 &&& dlk g y 60).testBit k = true then 1 else 0) n = cmN g x y n
  | 0, _ => rfl
  | n + 1, h => by
    show sm _ n + (if (dlk g x 60 &&& dlk g y 60).testBit n = true then 1 else 0) = cmN g x y n + (if (dueB g x (g 8 1 + (n + 1)) && dueB g y (g 8 1 + (n + 1))) = true then 1 else 0)
    rw [bt_common (by omega), Nat.testBit_and, dlk_bit, dlk_bit, decide_eq_true (show n < 60 by omega), Bool.true_and, Bool.true_and, show g 8 1 + 1 + n = g 8 1 + (n + 1) by omega]
theorem bt_com {g : GG} {x y : Nat} : bt60 (dlk g x 60 &&& dlk g y 60) = cmC g x y := bt_common (Nat.le_refl _)
theorem pct_bd : ∀ p, p < 13 → 2 ≤ p → ∀ r, r < p → 5 ≤ pctS p r p r ∧ pctS p r p r ≤ 30 := by decide +kernel
theorem bt_due {B : Nat} {g : GG} (h : IB B g) {m : Nat} (hm : m < g 8 0) : 5 ≤ bt60 (dlk g m 60) ∧ bt60 (dlk g m 60) ≤ 30 := by
  have h1 := (h.mem hm).2.1
  have e : bt60 (dlk g m 60) = pctS (g 1 m) (rsd g m) (g 1 m) (rsd g m) := by
    have := bt_com (g := g) (x := m) (y := m)
    rw [Nat.and_self] at this
    rw [this]
    show cmN g m m 60 = _
    rw [cmN_pct (by omega) (by omega)]
    rfl
  rw [e]
  exact pct_bd _ (by omega) (by omega) _ (rsd_lt (by omega))
/-! the chorus -/
def chA (g : GG) : Nat → Nat
  | 0 => 2 ^ 64 - 1
  | n + 1 => chA g n &&& dlk g n 60
theorem chA_lt {g : GG} : ∀ n, chA g n < 2 ^ 64
  | 0 => by show 2 ^ 64 - 1 < 2 ^ 64; decide
  | n + 1 => Nat.and_lt_two_pow _ (dlk_64 (Nat.le_refl _))
theorem chA_bit {g : GG} {k : Nat} (hk : k < 60) : ∀ {n : Nat}, (chA g n).testBit k = alB g (g 8 1 + (k + 1)) n
  | 0 => by
    show (2 ^ 64 - 1).testBit k = true
    rw [Nat.testBit_two_pow_sub_one]
    exact decide_eq_true (by omega)
  | n + 1 => by
    show (chA g n &&& dlk g n 60).testBit k = (alB g (g 8 1 + (k + 1)) n && dueB g n (g 8 1 + (k + 1)))
    rw [Nat.testBit_and, chA_bit hk, dlk_bit, decide_eq_true hk, Bool.true_and, show g 8 1 + 1 + k = g 8 1 + (k + 1) by omega]
theorem chA_chor {g : GG} (h0 : 0 < g 8 0) {k : Nat} (hk : k < 60) : (chA g (g 8 0)).testBit k = chor g (g 8 1 + (k + 1)) := by
  rw [alB_chor h0, chA_bit hk]
theorem bt_none {x : Nat} (h : ∀ k, k < 60 → x.testBit k = false) : bt60 x = 0 := by
  have : bt60 x = sm (fun _ => 0) 60 := sm_cong (fun k hk => by rw [h k hk]; rfl)
  rw [this, sm_const, Nat.zero_mul]
theorem bt_some {x k : Nat} (hk : k < 60) (h : x.testBit k = true) : bt60 x ≠ 0 := by
  have := sm_part (f := fun k => if x.testBit k = true then 1 else 0) (i := k) (n := 60) hk
  have this : (if x.testBit k = true then 1 else 0) ≤ bt60 x := this
  rw [if_pos h] at this
  omega
theorem chor_no {g : GG} (h0 : 0 < g 8 0) (h : bt60 (chA g (g 8 0)) = 0) : ¬ fsC g < 60 := fun q => by
  have h1 := (fst1_lt (p := fun k => chor g (g 8 1 + (k + 1))) (n := 60) q).1
  have h1 : chor g (g 8 1 + (fsC g + 1)) = true := h1
  exact bt_some q (by rw [chA_chor h0 q]; exact h1) h
theorem chor_yes {g : GG} (h0 : 0 < g 8 0) (h : bt60 (chA g (g 8 0)) ≠ 0) : fsC g < 60 ∧ (chA g (g 8 0)).testBit (fsC g) = true ∧ bt60 (chA g (g 8 0) &&& (2 ^ fsC g - 1)) = 0 := by
  have hlt : fsC g < 60 := by
    rcases Nat.lt_or_ge (fsC g) 60 with q | q
    · exact q
    · exfalso
      have h1 := fst1_ge (p := fun k => chor g (g 8 1 + (k + 1))) (n := 60) (Nat.not_lt.mpr q)
      exact h (bt_none (fun k hk => by rw [chA_chor h0 hk]; exact h1 k hk))
  obtain ⟨h1, h2⟩ := fst1_lt (p := fun k => chor g (g 8 1 + (k + 1))) (n := 60) hlt
  refine ⟨hlt, by rw [chA_chor h0 hlt]; exact h1, bt_none (fun k hk => ?_)⟩
  rw [Nat.testBit_and, Nat.testBit_two_pow_sub_one]
  by_cases c : k < fsC g
  · rw [chA_chor h0 hk, h2 k c, Bool.false_and]
  · rw [decide_eq_false c, Bool.and_false]
