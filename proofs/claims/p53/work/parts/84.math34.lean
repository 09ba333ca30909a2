/-! the law's long numbers and its floats -/
theorem lN_tI {n : Nat} (h : n < 2 ^ 63) : (lN n).toInt = (n : Int) := by
  rw [lN_ti (by omega), if_pos h]
theorem bm64 {z : Int} (h1 : -9223372036854775808 ≤ z) (h2 : z < 9223372036854775808) : z.bmod (2 ^ 64) = z := by rw [Int.bmod_def]; split <;> omega
theorem lmul_n {a b : Nat} (h : a * b < 2 ^ 63) (ha : a < 2 ^ 31) (hb : b < 2 ^ 31) : (nI a).toInt64 * (nI b).toInt64 = lN (a * b) := by
  apply Int64.toInt_inj.mp
  rw [Int64.toInt_mul, Int32.toInt_toInt64, Int32.toInt_toInt64, nI_toInt ha, nI_toInt hb, lN_tI h, ← Int.natCast_mul]
  exact bm64 (by omega) (by omega)
theorem ldiv_n {a b : Nat} (ha : a < 2 ^ 63) (hb : b < 2 ^ 31) : lN a / (nI b).toInt64 = lN (a / b) := by
  have h1 : a / b < 2 ^ 63 := Nat.lt_of_le_of_lt (Nat.div_le_self _ _) ha
  apply Int64.toInt_inj.mp
  rw [Int64.toInt_div, Int32.toInt_toInt64, nI_toInt hb, lN_tI ha, lN_tI h1, Int.tdiv_eq_ediv_of_nonneg (by omega)]
  rw [← Int.natCast_ediv]
  generalize a / b = c at h1 ⊢
  exact bm64 (by omega) (by omega)
theorem l2i_n {a : Nat} (ha : a < 2 ^ 31) : (lN a).toInt32 = nI a := by
  apply Int32.toInt_inj.mp
  rw [Int64.toInt_toInt32, lN_tI (by omega), nI_toInt ha]
  exact fb_bm (by omega) (by omega)
theorem l0_ne {b : Nat} (h0 : 0 < b) (hb : b < 2 ^ 31) : ¬ (nI b).toInt64 = 0 := fun e => by
  have h1 := congrArg Int64.toInt e
  rw [Int32.toInt_toInt64, nI_toInt hb] at h1
  have : (0 : Int64).toInt = 0 := by decide
  omega
theorem fcmp_xx {x : UInt32} (h : vf_n32 x) : FP.fcmp x x = some .eq := ord_self (nn_32 h)
theorem cmpf_0 {x : UInt32} (h : vf_n32 x) (op : CmpOp) : Op.cmpValue (FP.fcmp x x) op = nI 0 := by rw [fcmp_xx h]; rfl
theorem cmpd_0 {x : UInt64} (h : vf_n64 x) (op : CmpOp) : Op.cmpValue (FP.dcmp x x) op = nI 0 := by rw [dcmp_xx h]; rfl
theorem dq_le9 {B : Nat} {g : GG} (h : IB B g) {m : Nat} (hm : m < g 8 0) : dq g m ≤ 300000 := h.ic.dqb (allSh_pos h (by omega)) hm
theorem dv_le9 {B : Nat} {g : GG} (h : IB B g) {m : Nat} (hm : m < g 8 0) : dv g m ≤ 300001 := by
  have h1 := dq_le9 h hm
  rcases dv_q (g := g) m with e | e <;> omega
