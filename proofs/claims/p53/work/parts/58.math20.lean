/-! the face: its cells, its exceptions, what a call that is not refused knows -/
def coC (E : EE) (x a a2 a3 b d k pa y : Nat → Nat) (w : Nat → Nat) : va_W := [(x 0, .inr (9, [.ref (a 0), .ref (a2 0), .ref (a3 0), .ref (b 0), .ref (d 0), .ref (k 0), .ref (pa 0), .ref (y 0), .int (nI (w 0)), .int (nI (w 1) - 1), .int (nI (w 2) - 1)]))]
def IOX : String := "java/lang/IndexOutOfBoundsException"
def IAX : String := "java/lang/IllegalArgumentException"
def ISX : String := "java/lang/IllegalStateException"
def UOX : String := "java/lang/UnsupportedOperationException"
def AEX : String := "java/lang/ArithmeticException"
def flX (n : Nat) : String := if n = 1 then IOX else if n = 2 then IAX else if n = 3 then ISX else UOX
theorem mx_NSE : ((NSE, 152, 156) : String × Nat × Nat) ∈ (NSE, 152, 156) :: xs9 := List.mem_cons_self
theorem mx_IAX : ((IAX, 181, 185) : String × Nat × Nat) ∈ (NSE, 152, 156) :: xs9 := List.mem_cons_of_mem _ List.mem_cons_self
theorem mx_IOX : ((IOX, 242, 246) : String × Nat × Nat) ∈ (NSE, 152, 156) :: xs9 := List.mem_cons_of_mem _ (List.mem_cons_of_mem _ List.mem_cons_self)
theorem mx_AEX : ((AEX, 250, 252) : String × Nat × Nat) ∈ (NSE, 152, 156) :: xs9 := List.mem_cons_of_mem _ (List.mem_cons_of_mem _ (List.mem_cons_of_mem _ List.mem_cons_self))
theorem mx_ISX : ((ISX, 263, 267) : String × Nat × Nat) ∈ (NSE, 152, 156) :: xs9 := List.mem_cons_of_mem _ (List.mem_cons_of_mem _ (List.mem_cons_of_mem _ (List.mem_cons_of_mem _ List.mem_cons_self)))
theorem mx_UOX : ((UOX, 286, 290) : String × Nat × Nat) ∈ (NSE, 152, 156) :: xs9 := List.mem_cons_of_mem _ (List.mem_cons_of_mem _ (List.mem_cons_of_mem _ (List.mem_cons_of_mem _ (List.mem_cons_of_mem _ List.mem_cons_self))))
theorem fJoin_0 {g : GG} {p0 p1 p2 p3 : Int32} (h : fJoin g p0 p1 p2 p3 = 0) : (1 ≤ p0.toInt ∧ p0.toInt ≤ 50) ∧ (2 ≤ p1.toInt ∧ p1.toInt ≤ 12) ∧ (0 ≤ p2.toInt ∧ p2.toInt < p1.toInt) ∧ (0 ≤ p3.toInt ∧ p3.toInt < 12) ∧ g 8 0 < 8 := by
  unfold fJoin at h
  (repeat' split at h) <;> omega
theorem fWind_0 {g : GG} {p0 p1 : Int32} (h : fWind g p0 p1 = 0) : (0 ≤ p0.toInt ∧ p0.toInt < (g 8 0 : Int)) ∧ (1 ≤ p1.toInt ∧ p1.toInt ≤ 60) ∧ (g 4 (tn p0) : Int) + p1.toInt ≤ 60 := by
  unfold fWind at h
  unfold tn
  (repeat' split at h) <;> omega
theorem fTune_0 {g : GG} {p0 p1 : Int32} (h : fTune g p0 p1 = 0) : (0 ≤ p0.toInt ∧ p0.toInt < (g 8 0 : Int)) ∧ (0 ≤ p1.toInt ∧ p1.toInt < 12) := by
  unfold fTune at h
  (repeat' split at h) <;> omega
theorem fBuy_0 {g : GG} {p0 p1 : Int32} (h : fBuy g p0 p1 = 0) : (0 ≤ p0.toInt ∧ p0.toInt < (g 8 0 : Int)) ∧ (1 ≤ p1.toInt ∧ p1.toInt < 50) ∧ (g 0 (tn p0) : Int) + p1.toInt ≤ 50 ∧ p1.toInt * 5 ≤ (g 5 (tn p0) : Int) := by
  unfold fBuy at h
  unfold tn
  (repeat' split at h) <;> omega
theorem fPass_0 {p0 : Int32} (h : fPass p0 = 0) : 1 ≤ p0.toInt ∧ p0.toInt ≤ 60 := by
  unfold fPass at h
  (repeat' split at h) <;> omega
theorem fMot_0 {p0 p1 : Int32} (h : fMot p0 p1 = 0) : (0 ≤ p0.toInt ∧ p0.toInt < 12) ∧ (0 ≤ p1.toInt ∧ p1.toInt ≤ 6) := by
  unfold fMot at h
  (repeat' split at h) <;> omega
theorem fPay_0 {g : GG} (h : fPay g = 0) : 0 < g 8 0 := by
  unfold fPay at h
  split at h
  · cases h
  · omega
theorem f_4 {g : GG} {p0 p1 p2 p3 : Int32} : fJoin g p0 p1 p2 p3 ≤ 4 ∧ fWind g p0 p1 ≤ 4 ∧ fTune g p0 p1 ≤ 4 ∧ fBuy g p0 p1 ≤ 4 ∧ fPass p0 ≤ 4 ∧ fMot p0 p1 ≤ 4 ∧ fPay g ≤ 4 := by
  refine ⟨?_, ?_, ?_, ?_, ?_, ?_, ?_⟩
  · unfold fJoin; (repeat' split) <;> omega
  · unfold fWind; (repeat' split) <;> omega
  · unfold fTune; (repeat' split) <;> omega
  · unfold fBuy; (repeat' split) <;> omega
  · unfold fPass; (repeat' split) <;> omega
  · unfold fMot; (repeat' split) <;> omega
  · unfold fPay; (repeat' split) <;> omega
theorem tn_n {x : Int32} (h : 0 ≤ x.toInt) : nI (tn x) = x := by
  obtain ⟨t, ht, e, -⟩ := raw_n h
  rw [e, tn_nI ht]
theorem hasM_t {g : GG} {p0 : Int32} (h : hasM g p0 = true) : 0 ≤ p0.toInt ∧ p0.toInt < (g 8 0 : Int) := of_decide_eq_true h
def cmC (g : GG) (x y : Nat) : Nat := cmN g x y 60
theorem common_eqC {B : Nat} {g : GG} (h : IB B g) {x y : Nat} (hx : x < g 8 0) (hy : y < g 8 0) : bcL (lN (dlk g x 60 &&& dlk g y 60)) = nI (cmC g x y) := common_eq h hx hy
theorem mot_0x {Ex : String} {p0 : Int32} (h : fMot (nI 0) p0 ≠ 0 ∧ Ex = flX (fMot (nI 0) p0)) : Ex = IAX ∧ ¬ (0 ≤ p0.toInt ∧ p0.toInt ≤ 6) := by
  have h0 : (nI 0).toInt = 0 := by decide
  obtain ⟨h1, h2⟩ := h
  by_cases hc : ¬ (0 ≤ (nI 0).toInt ∧ (nI 0).toInt < 12) ∨ p0.toInt < 0 ∨ 6 < p0.toInt
  · have e : fMot (nI 0) p0 = 2 := if_pos hc
    rw [e] at h2
    refine ⟨h2, ?_⟩
    rw [h0] at hc
    omega
  · exact absurd (if_neg hc) h1
theorem lg_eq (x : Int64) : lg_cmp x x = nI 0 := by simp [lg_cmp]; rfl
theorem purs_acc {B : Nat} {g : GG} (h : IB B g) : pursN g + g 8 2 = g 8 5 := by
  have h1 := h.2.2.2.2.1.2.2
  have h2 : sm (g 5) 8 = pursN g := sm_cut (fun m hm => (h.2.2.1 m hm).2.1) h.mc
  omega
theorem win_le {B : Nat} {g : GG} (h : IB B g) : winN g ≤ 256 := by
  have h1 : winN g ≤ 1 * 2 ^ g 8 0 := sm_le (fun q _ => by show (if wnB g q then 1 else 0) ≤ 1; split <;> decide)
  have h2 : 2 ^ g 8 0 ≤ 2 ^ 8 := Nat.pow_le_pow_right (by decide) h.mc
  omega
