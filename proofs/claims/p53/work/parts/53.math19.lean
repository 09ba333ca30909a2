/-! powers add up to something -/
theorem sgi_ones {g : GG} : ∀ {i : Nat}, sgi g i (2 ^ i - 1) = sm (g 0) i
  | 0 => rfl
  | i + 1 => by
    have hp : 0 < 2 ^ i := Nat.two_pow_pos i
    rw [show 2 ^ (i + 1) - 1 = 2 ^ i + (2 ^ i - 1) by rw [Nat.pow_succ]; omega, sgi_hi (by omega), sgi_ones]
    rfl
theorem sgi_lift {g : GG} {i k : Nat} (hk : k < 2 ^ i) : ∀ {d : Nat}, sgi g (i + d) k = sgi g i k
  | 0 => rfl
  | d + 1 => by
    show sgi g ((i + d) + 1) k = _
    rw [sgi_lo (Nat.lt_of_lt_of_le hk (Nat.pow_le_pow_right (by decide) (by omega))), sgi_lift hk]
theorem sG_ones {g : GG} {i : Nat} (hi : i ≤ g 8 0) : sG g (2 ^ i - 1) = sm (g 0) i := by
  have hp : 0 < 2 ^ i := Nat.two_pow_pos i
  unfold sG
  rw [show g 8 0 = i + (g 8 0 - i) by omega, sgi_lift (by omega), sgi_ones]
theorem powN_pos {B : Nat} {g : GG} (h : IB B g) (hm : 0 < g 8 0) : 0 < sm (powN g) (g 8 0) := by
  have hT := allSh_pos h hm
  have hq : quo g ≤ sm (g 0) (g 8 0) := by show allSh g / 2 + 1 ≤ allSh g; omega
  obtain ⟨k, hk, hl⟩ := pk_least (fun k => quo g ≤ sm (g 0) k) ⟨_, hq⟩
  have hk0 : k ≠ 0 := fun e => by subst e; have : quo g ≤ 0 := hk; have h2 : 1 ≤ quo g := Nat.succ_le_succ (Nat.zero_le _); omega
  obtain ⟨i, rfl⟩ : ∃ i, k = i + 1 := ⟨k - 1, by omega⟩
  have hik : i < g 8 0 := Decidable.byContradiction (fun q => by
    have := hl (g 8 0)
    exact absurd hq (this (by omega)))
  have hlt : sm (g 0) i < quo g := Nat.not_le.mp (hl i (by omega))
  have hp : 0 < 2 ^ i := Nat.two_pow_pos i
  have hbit : (2 ^ i - 1).testBit i = false := Nat.testBit_lt_two_pow (by omega)
  have hd : dcB g i (2 ^ i - 1) = true := by
    unfold dcB
    rw [hbit, sG_ones (by omega), decide_eq_true ⟨hlt, hk⟩]
    rfl
  have hin : 2 ^ i - 1 < 2 ^ g 8 0 := by
    have := Nat.pow_le_pow_right (n := 2) (by decide) (show i ≤ g 8 0 by omega)
    omega
  have h1 : 1 ≤ powN g i := by
    have := sm_part (f := fun q => if dcB g i q then 1 else 0) hin
    show 1 ≤ sm (fun q => if dcB g i q then 1 else 0) (2 ^ g 8 0)
    rw [if_pos hd] at this
    exact this
  exact Nat.lt_of_lt_of_le h1 (sm_part hik)
theorem powN_le {B : Nat} {g : GG} (h : IB B g) (m : Nat) : powN g m ≤ 256 := by
  have hmc := h.mc
  have h1 : powN g m ≤ 1 * 2 ^ g 8 0 := sm_le (fun q _ => by show (if dcB g m q then 1 else 0) ≤ 1; split <;> decide)
  have h2 : 2 ^ g 8 0 ≤ 2 ^ 8 := Nat.pow_le_pow_right (by decide) hmc
  omega
/-! the smallest group that wins -/
theorem few_min {g : GG} : ∀ {n : Nat}, g 8 0 ≤ 8 → few g n = if few8 g n < g 8 0 then few8 g n else g 8 0
  | 0, h => by show g 8 0 = if (8 : Nat) < g 8 0 then 8 else g 8 0; rw [if_neg (by omega)]
  | n + 1, h => by
    have ih := few_min (g := g) (n := n) h
    show (if wnB g n then (if pcn n < few g n then pcn n else few g n) else few g n) = if (if wnB g n = true ∧ pcn n < few8 g n then pcn n else few8 g n) < g 8 0 then (if wnB g n = true ∧ pcn n < few8 g n then pcn n else few8 g n) else g 8 0
    have n1 : ¬ wnB g n = true → ¬ (wnB g n = true ∧ pcn n < few8 g n) := fun hw q => hw q.1
    have n2 : ¬ pcn n < few8 g n → ¬ (wnB g n = true ∧ pcn n < few8 g n) := fun hp q => hp q.2
    by_cases hF : few8 g n < g 8 0
    · rw [if_pos hF] at ih
      rw [ih]
      by_cases hw : wnB g n = true
      · rw [if_pos hw]
        by_cases hp : pcn n < few8 g n
        · rw [if_pos hp, if_pos (show wnB g n = true ∧ pcn n < few8 g n from ⟨hw, hp⟩), if_pos (by omega)]
        · rw [if_neg hp, if_neg (n2 hp), if_pos hF]
      · rw [if_neg hw, if_neg (n1 hw), if_pos hF]
    · rw [if_neg hF] at ih
      rw [ih]
      by_cases hw : wnB g n = true
      · rw [if_pos hw]
        by_cases hp : pcn n < few8 g n
        · rw [if_pos (show wnB g n = true ∧ pcn n < few8 g n from ⟨hw, hp⟩)]
        · rw [if_neg (n2 hp), if_neg hF, if_neg (by omega)]
      · rw [if_neg hw, if_neg (n1 hw), if_neg hF]
theorem few8_at {g : GG} {q : Nat} (hw : wnB g q = true) : ∀ {n : Nat}, q < n → few8 g n ≤ pcn q
  | 0, h => by omega
  | n + 1, h => by
    show (if wnB g n = true ∧ pcn n < few8 g n then pcn n else few8 g n) ≤ pcn q
    by_cases e : q = n
    · subst e
      split
      · exact Nat.le_refl _
      · rename_i hn
        exact Nat.not_lt.mp (fun c => hn ⟨hw, c⟩)
    · have := few8_at (n := n) hw (by omega)
      split
      · rename_i hn; omega
      · exact this
theorem few_eq {B : Nat} {g : GG} (h : IB B g) (hm : 0 < g 8 0) : few g (2 ^ g 8 0) = few8 g (2 ^ g 8 0) := by
  have hmc := h.mc
  have hT := allSh_pos h hm
  have hp : 0 < 2 ^ g 8 0 := Nat.two_pow_pos _
  have hw : wnB g (2 ^ g 8 0 - 1) = true := by
    unfold wnB
    rw [sG_ones (Nat.le_refl _)]
    refine decide_eq_true ?_
    show allSh g / 2 + 1 ≤ allSh g
    omega
  have hpc : ∀ n, n ≤ 8 → pcn (2 ^ n - 1) = n := by decide +kernel
  have h8 := few8_at hw (n := 2 ^ g 8 0) (by omega)
  rw [hpc _ hmc] at h8
  rw [few_min hmc]
  split
  · rfl
  · omega
/-! the beats that two members have in common -/
def patR (p r : Nat) : Nat → Nat
  | 0 => 0
  | k + 1 => if k % p = r then patR p r k ||| 1 * 2 ^ k else patR p r k
def pctR (p r p' r' : Nat) : Nat → Nat
  | 0 => 0
  | k + 1 => pctR p r p' r' k + (if k % p = r ∧ k % p' = r' then 1 else 0)
def patS (p r : Nat) : Nat := patR p r 60
def pctS (p r p' r' : Nat) : Nat := pctR p r p' r' 60
theorem pat_all : ∀ p, p < 13 → ∀ r, r < p → ∀ p', p' < 13 → ∀ r', r' < p' → bcL (lN (patS p r &&& patS p' r')) = nI (pctS p r p' r') := by decide +kernel
/-- where a member's due beats lie -/
def rsd (g : GG) (m : Nat) : Nat := (((g 2 m : Int) - ((g 8 1 : Int) + 1)) % (g 1 m : Int)).toNat
theorem rsd_ok {g : GG} {m : Nat} (hp : 0 < g 1 m) (k : Nat) : dueB g m (g 8 1 + 1 + k) = decide (k % g 1 m = rsd g m) := by
  have h0 : (0 : Int) < (g 1 m : Int) := by omega
  have hr := Int.emod_nonneg ((g 2 m : Int) - ((g 8 1 : Int) + 1)) (show (g 1 m : Int) ≠ 0 by omega)
  have hl := Int.emod_lt_of_pos ((g 2 m : Int) - ((g 8 1 : Int) + 1)) h0
  unfold dueB rsd
  refine decide_eq_decide.mpr ⟨fun ⟨_, hd⟩ => ?_, fun hk => ⟨hp, ?_⟩⟩
  · have h1 : ((g 2 m : Int) - ((g 8 1 : Int) + 1)) % (g 1 m : Int) = (k : Int) % (g 1 m : Int) := by
      refine (Int.emod_emod_of_dvd _ (Int.dvd_refl _)).symm.trans ?_
      rw [Int.emod_emod_of_dvd _ (Int.dvd_refl _)]
      refine Int.emod_eq_emod_iff_emod_sub_eq_zero.mpr (Int.emod_eq_zero_of_dvd ?_)
      obtain ⟨w, hw⟩ := hd
      refine ⟨-w, ?_⟩
      rw [Int.mul_neg, ← hw]
      omega
    rw [h1]
    rw [← Int.natCast_emod]
    exact (Int.toNat_natCast _).symm
  · have h1 : (k : Int) % (g 1 m : Int) = ((g 2 m : Int) - ((g 8 1 : Int) + 1)) % (g 1 m : Int) := by
      rw [← Int.natCast_emod, hk, Int.toNat_of_nonneg hr]
    have h2 := Int.emod_eq_emod_iff_emod_sub_eq_zero.mp h1
    obtain ⟨w, hw⟩ := Int.dvd_of_emod_eq_zero h2
    exact ⟨w, by rw [← hw]; omega⟩
theorem rsd_lt {g : GG} {m : Nat} (hp : 0 < g 1 m) : rsd g m < g 1 m := by
  have hr := Int.emod_nonneg ((g 2 m : Int) - ((g 8 1 : Int) + 1)) (show (g 1 m : Int) ≠ 0 by omega)
  have hl := Int.emod_lt_of_pos ((g 2 m : Int) - ((g 8 1 : Int) + 1)) (show (0 : Int) < (g 1 m : Int) by omega)
  unfold rsd
  omega
theorem dlk_pat {g : GG} {m : Nat} (hp : 0 < g 1 m) : ∀ k, dlk g m k = patR (g 1 m) (rsd g m) k
  | 0 => rfl
  | k + 1 => by
    show (if dueB g m (g 8 1 + 1 + k) then dlk g m k ||| 1 * 2 ^ k else dlk g m k) = if k % g 1 m = rsd g m then patR (g 1 m) (rsd g m) k ||| 1 * 2 ^ k else patR (g 1 m) (rsd g m) k
    rw [rsd_ok hp, dlk_pat hp k]
    by_cases h : k % g 1 m = rsd g m
    · rw [if_pos h, if_pos (decide_eq_true h)]
    · rw [if_neg h, if_neg (by rw [decide_eq_false h]; decide)]
theorem cmN_pct {g : GG} {x y : Nat} (hx : 0 < g 1 x) (hy : 0 < g 1 y) : ∀ k, cmN g x y k = pctR (g 1 x) (rsd g x) (g 1 y) (rsd g y) k
  | 0 => rfl
  | k + 1 => by
    show cmN g x y k + (if (dueB g x (g 8 1 + (k + 1)) && dueB g y (g 8 1 + (k + 1))) = true then 1 else 0) = pctR (g 1 x) (rsd g x) (g 1 y) (rsd g y) k + (if k % g 1 x = rsd g x ∧ k % g 1 y = rsd g y then 1 else 0)
    rw [cmN_pct hx hy k, show g 8 1 + (k + 1) = g 8 1 + 1 + k by omega, rsd_ok hx, rsd_ok hy]
    by_cases h1 : k % g 1 x = rsd g x <;> by_cases h2 : k % g 1 y = rsd g y <;> simp [h1, h2]
theorem common_eq {B : Nat} {g : GG} (h : IB B g) {x y : Nat} (hx : x < g 8 0) (hy : y < g 8 0) : bcL (lN (dlk g x 60 &&& dlk g y 60)) = nI (cmN g x y 60) := by
  have mx := (h.mem hx).2.1
  have my := (h.mem hy).2.1
  rw [dlk_pat (by omega), dlk_pat (by omega), cmN_pct (by omega) (by omega)]
  exact pat_all (g 1 x) (by omega) _ (rsd_lt (by omega)) (g 1 y) (by omega) _ (rsd_lt (by omega))
/-! the mean purse, the share of power -/
def mpD (g : GG) : UInt64 := FP.ddiv (FP.i2d (nI (pursN g))) (FP.i2d (nI (g 8 0)))
def psF (g : GG) (m : Nat) : UInt32 := FP.fdiv (FP.i2f (nI (powN g m))) (FP.i2f (nI (sm (powN g) (g 8 0))))
theorem fp_int {n : Nat} (h : n < 2 ^ 31) : FP.Core.ofInt (nI n).toInt = .fin false n 0 := by
  rw [nI_toInt h]
  show FP.Core.Datum.fin (decide ((n : Int) < 0)) (n : Int).natAbs 0 = _
  rw [decide_eq_false (by omega), Int.natAbs_natCast]
theorem fp_i2d {n : Nat} (h : n < 2 ^ 31) : FP.i2d (nI n) = UInt64.ofNat (FP.Core.encode FP.Core.b64 (FP.Core.round FP.Core.b64 (.fin false n 0))) := by
  show UInt64.ofNat (FP.Core.encode FP.Core.b64 (FP.Core.round FP.Core.b64 (FP.Core.ofInt (nI n).toInt))) = _
  rw [fp_int h]
theorem fp_i2f {n : Nat} (h : n < 2 ^ 31) : FP.i2f (nI n) = UInt32.ofNat (FP.Core.encode FP.Core.b32 (FP.Core.round FP.Core.b32 (.fin false n 0))) := by
  show UInt32.ofNat (FP.Core.encode FP.Core.b32 (FP.Core.round FP.Core.b32 (FP.Core.ofInt (nI n).toInt))) = _
  rw [fp_int h]
theorem mp_n {B : Nat} {g : GG} (h : IB B g) (hm : 0 < g 8 0) : vf_n64 (mpD g) := by
  have hmc := h.mc
  have hb := h.bud
  have hp : pursN g ≤ sm (g 5) 8 := sm_mono hmc
  show vf_n64 (UInt64.ofNat (FP.Core.encode FP.Core.b64 (FP.Core.quotient FP.Core.b64 (FP.Core.decode FP.Core.b64 (FP.i2d (nI (pursN g))).toNat) (FP.Core.decode FP.Core.b64 (FP.i2d (nI (g 8 0))).toNat))))
  rw [fp_i2d (by omega), fp_i2d (by omega)]
  exact n64_of (gd_quot (by decide) (by decide +kernel) (dbl_fin (by omega)) (dbl_nz _ (by omega) hm))
theorem powN_sum {B : Nat} {g : GG} (h : IB B g) : ∀ n, sm (powN g) n ≤ 256 * n := fun _ => sm_le (fun k _ => powN_le h k)
theorem ps_n {B : Nat} {g : GG} (h : IB B g) (hm : 0 < g 8 0) (m : Nat) : vf_n32 (psF g m) := by
  have hmc := h.mc
  have h1 := powN_le h m
  have h2 := powN_sum h (g 8 0)
  have h3 := powN_pos h hm
  have h4 : 256 * g 8 0 ≤ 256 * 8 := Nat.mul_le_mul_left _ hmc
  show vf_n32 (UInt32.ofNat (FP.Core.encode FP.Core.b32 (FP.Core.quotient FP.Core.b32 (FP.Core.decode FP.Core.b32 (FP.i2f (nI (powN g m))).toNat) (FP.Core.decode FP.Core.b32 (FP.i2f (nI (sm (powN g) (g 8 0)))).toNat))))
  rw [fp_i2f (by omega), fp_i2f (by omega)]
  exact n32_of (gd_quot (by decide) (by decide +kernel) (flt_fin (by omega)) (flt_nz _ (by omega) h3))
