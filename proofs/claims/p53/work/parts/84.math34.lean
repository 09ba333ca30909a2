/-! the law's long numbers and its floats -/
theorem lN_tI {n : Nat} (h : n < 2 ^ 63) : (lN n).toInt = (n : Int) := by
  rw [lN_ti (by omega), if_pos h]
theorem bm64 {z : Int} (h1 : -9223372036854775808 ≤ z) (h2 : z < 9223372036854775808) : z.bmod (2 ^ 64) = z := by rw [Int.bmod_def]; split <;> omega
theorem lmul_n {a b : Nat} (h : a * b < 2 ^ 63) (ha : a < 2 ^ 31) (hb : b < 2 ^ 31) : (nI a).toInt64 * (nI b).toInt64 = lN (a * b) := by
  apply Int64.toInt_inj.mp
  rw [Int64.toInt_mul, Int32.toInt_toInt64, Int32.toInt_toInt64, nI_toInt ha, nI_toInt hb, lN_tI h, ← Int.natCast_mul]
  exact bm64 (by omega) (by omega)
theorem ldiv_n {a b : Nat} (ha : a < 2 ^ 63) (hb : b < 2 ^ 31) : lN a / (nI b).toInt64 = lN (a / b) := by
  have h1 : a / b < 2 ^ 63 := Nat.lt_of_le_of_lt (Nat.div_le_self _ _) ha
  apply Int64.toInt_inj.mp
  rw [Int64.toInt_div, Int32.toInt_toInt64, nI_toInt hb, lN_tI ha, lN_tI h1, Int.tdiv_eq_ediv_of_nonneg (by omega)]
  rw [← Int.natCast_ediv]
  generalize a / b = c at h1 ⊢
  exact bm64 (by omega) (by omega)
theorem l2i_n {a : Nat} (ha : a < 2 ^ 31) : (lN a).toInt32 = nI a := by
  apply Int32.toInt_inj.mp
  rw [Int64.toInt_toInt32, lN_tI (by omega), nI_toInt ha]
  exact fb_bm (by omega) (by omega)
theorem l0_ne {b : Nat} (h0 : 0 < b) (hb : b < 2 ^ 31) : ¬ (nI b).toInt64 = 0 := fun e => by
  have h1 := congrArg Int64.toInt e
  rw [Int32.toInt_toInt64, nI_toInt hb] at h1
  have : (0 : Int64).toInt = 0 := by decide
  omega
theorem fcmp_xx {x : UInt32} (h : vf_n32 x) : FP.fcmp x x = some .eq := ord_self (nn_32 h)
theorem cmpf_0 {x : UInt32} (h : vf_n32 x) (op : CmpOp) : Op.cmpValue (FP.fcmp x x) op = nI 0 := by rw [fcmp_xx h]; rfl
theorem cmpd_0 {x : UInt64} (h : vf_n64 x) (op : CmpOp) : Op.cmpValue (FP.dcmp x x) op = nI 0 := by rw [dcmp_xx h]; rfl
theorem dq_le9 {B : Nat} {g : GG} (h : IB B g) {m : Nat} (hm : m < g 8 0) : dq g m ≤ 300000 := h.ic.dqb (allSh_pos h (by omega)) hm
theorem dv_le9 {B : Nat} {g : GG} (h : IB B g) {m : Nat} (hm : m < g 8 0) : dv g m ≤ 300001 := by
  have h1 := dq_le9 h hm
  rcases dv_q (g := g) m with e | e <;> omega
theorem lsub_n {k : Nat} (hk : k < 62) : lN (2 ^ k) - lN 1 = lN (2 ^ k - 1) := by
  have h1 : 2 ^ k < 2 ^ 62 := Nat.pow_lt_pow_right (by decide) hk
  have h0 : 0 < 2 ^ k := Nat.two_pow_pos k
  apply Int64.toInt_inj.mp
  rw [Int64.toInt_sub, lN_tI (by omega), lN_tI (by omega), lN_tI (by omega)]
  rw [show ((2 ^ k : Nat) : Int) - ((1 : Nat) : Int) = ((2 ^ k - 1 : Nat) : Int) by omega]
  exact bm64 (by omega) (by omega)
theorem pw_lt {k : Nat} (hk : k < 60) : 2 ^ k - 1 < 2 ^ 64 := by
  have h1 : 2 ^ k < 2 ^ 60 := Nat.pow_lt_pow_right (by decide) hk
  omega
theorem wch_no {g : GG} (h : ¬ fsC g < 60) : (wch g).toInt = -75 := by
  unfold wch
  rw [if_neg h]
  decide
theorem wch_0 {g : GG} (h : g 8 0 = 0) : (wch g).toInt = -75 := wch_no (fun q => by
  have h1 := (fst1_lt (p := fun k => chor g (g 8 1 + (k + 1))) (n := 60) q).1
  have h1 : chor g (g 8 1 + (fsC g + 1)) = true := h1
  rw [chor_0 (by omega)] at h1
  exact absurd h1 (by decide))
theorem wch_yes {g : GG} (h : fsC g < 60) : wch g = nI (fsC g + 1) := if_pos h
theorem ct_yes {g : GG} {k : Nat} (h : ctN9 g k < 12) : quo g ≤ favN g (ctN9 g k) k ∧ ∀ t, t < ctN9 g k → favN g t k < quo g := by
  obtain ⟨h1, h2⟩ := fst1_lt (p := fun t => decide (quo g ≤ favN g t k)) (n := 12) h
  exact ⟨of_decide_eq_true h1, fun t ht => Nat.lt_of_not_le (of_decide_eq_false (h2 t ht))⟩
theorem ct_no {g : GG} {k : Nat} (h : ¬ ctN9 g k < 12) : ∀ t, t < 12 → favN g t k < quo g := fun t ht => Nat.lt_of_not_le (of_decide_eq_false (fst1_ge (p := fun t => decide (quo g ≤ favN g t k)) (n := 12) h t ht))
theorem wsp_beat {B : Nat} {g : GG} (h : IB B g) (hJ : JG g) : (wsp g (nI 0)).toInt ≤ (g 8 1 : Int) := by
  have b1 := h.2.2.2.1.2.2.2 0
  have b2 := h.bud
  rw [wsp_0]
  split
  · rename_i c
    have := hJ.2.2 c
    rw [nI_toInt (by omega)]
    omega
  · have : (-77 : Int32).toInt = -77 := by decide
    omega
theorem wsm_in {g : GG} (h : 0 < g 8 0) : wsm g = nI (few8 g (2 ^ g 8 0)) := if_neg (by omega)
theorem wmp_0 {g : GG} (h : g 8 0 = 0) : wmp g = 13858279740860792832 := if_pos h
theorem wmp_in {g : GG} (h : ¬ g 8 0 = 0) : wmp g = mpD g := if_neg h
theorem k74_n : vf_n64 13858279740860792832 := by unfold vf_n64; decide
theorem fav0 {B : Nat} {g : GG} (h : IB B g) : wfv g (nI 0) (nI 6) = nI (allSh g) := by rw [wfv_in (by decide) (by decide), fav_all h]
