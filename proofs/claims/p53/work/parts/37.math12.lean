/-! what the calls keep -/
theorem sm_upn {f : Nat → Nat} {k v : Nat} : ∀ {n : Nat}, k < n → sm (upn f k v) n + f k = sm f n + v
  | 0, h => absurd h (Nat.not_lt_zero _)
  | n + 1, h => by
    show sm (upn f k v) n + upn f k v n + f k = sm f n + f n + v
    by_cases e : k = n
    · subst e
      rw [upn_s, sm_cong (g := f) (n := k) (fun j hj => upn_n (by omega))]
      omega
    · rw [upn_n (by omega)]
      have := sm_upn (f := f) (v := v) (show k < n by omega)
      omega
theorem IB_join {B : Nat} {g : GG} (h : IB B g) {a b c d : Nat} (hn : g 8 0 < 8) (ha : 1 ≤ a ∧ a ≤ 50) (hb : 2 ≤ b ∧ b ≤ 12) (hc : c < b) (hd : d ≤ 11) : IB B (joinG g a b c d) := by
  rw [← joinG_eq h]
  obtain ⟨⟨a1, a2, a3⟩, b1, c1, ⟨d1, d2, d3, d4⟩, ⟨e1, e2, e3⟩, f1⟩ := h
  refine ⟨⟨?_, a2, a3⟩, ?_, ?_, ⟨d1, d2, d3, d4⟩, ⟨e1, e2, e3⟩, f1⟩
  · show g 8 0 + 1 ≤ 8; omega
  · intro m hm
    have hm : m < g 8 0 + 1 := hm
    show (1 ≤ upn (g 0) (g 8 0) a m ∧ upn (g 0) (g 8 0) a m ≤ 50) ∧ (2 ≤ upn (g 1) (g 8 0) b m ∧ upn (g 1) (g 8 0) b m ≤ 12 ∧ upn (g 2) (g 8 0) c m < upn (g 1) (g 8 0) b m) ∧ upn (g 3) (g 8 0) d m ≤ 11 ∧ g 4 m ≤ 60
    by_cases e : m = g 8 0
    · subst e
      rw [upn_s, upn_s, upn_s, upn_s]
      exact ⟨ha, ⟨hb.1, hb.2, hc⟩, hd, by rw [(c1 _ (Nat.le_refl _)).1]; exact Nat.zero_le _⟩
    · rw [upn_n e, upn_n e, upn_n e, upn_n e]
      exact b1 m (by omega)
  · intro m hm
    have hm : g 8 0 + 1 ≤ m := hm
    exact c1 m (by omega)
theorem IB_wind {B : Nat} {g : GG} (h : IB B g) {m t : Nat} (hm : m < g 8 0) (ht : g 4 m + t ≤ 60) (hB : B + t ≤ 300000) : IB (B + t) (windG g m t) := by
  obtain ⟨⟨a1, a2, a3⟩, b1, c1, ⟨d1, d2, d3, d4⟩, ⟨e1, e2, e3⟩, f1⟩ := h
  have hs := sm_upn (f := g 4) (k := m) (v := g 4 m + t) (n := 8) (by omega)
  refine ⟨⟨a1, a2, a3⟩, ?_, ?_, ⟨Nat.le_trans d1 (Nat.le_add_right _ _), Nat.le_trans d2 (Nat.le_add_right _ _), fun k => Nat.le_trans (d3 k) (Nat.le_add_right _ _), fun k => Nat.le_trans (d4 k) (Nat.le_add_right _ _)⟩, ⟨?_, ?_, e3⟩, hB⟩
  · intro k hk
    obtain ⟨x1, x2, x3, x4⟩ := b1 k hk
    refine ⟨x1, x2, x3, ?_⟩
    show upn (g 4) m (g 4 m + t) k ≤ 60
    unfold upn; split <;> omega
  · intro k hk
    obtain ⟨x1, x2, x3⟩ := c1 k hk
    refine ⟨?_, x2, x3⟩
    show upn (g 4) m (g 4 m + t) k = 0
    have hk : g 8 0 ≤ k := hk
    rw [upn_n (by omega)]; exact x1
  · show g 8 5 + sm (upn (g 4) m (g 4 m + t)) 8 ≤ B + t; omega
  · show g 8 6 + sm (upn (g 4) m (g 4 m + t)) 8 ≤ B + t; omega
theorem IB_tune {B : Nat} {g : GG} (h : IB B g) {m t : Nat} (ht : t ≤ 11) : IB B (up2 g 3 m t) := by
  obtain ⟨⟨a1, a2, a3⟩, b1, c1, d, e, f1⟩ := h
  refine ⟨⟨a1, a2, a3⟩, ?_, c1, d, e, f1⟩
  intro k hk
  obtain ⟨x1, x2, x3, x4⟩ := b1 k hk
  refine ⟨x1, x2, ?_, x4⟩
  show upn (g 3) m t k ≤ 11
  unfold upn; split <;> omega
theorem IB_buy {B : Nat} {g : GG} (h : IB B g) {m t : Nat} (hm : m < g 8 0) (h0 : g 0 m + t ≤ 50) (h5 : t * 5 ≤ g 5 m) : IB B (buyG g m t) := by
  obtain ⟨⟨a1, a2, a3⟩, b1, c1, ⟨d1, d2, d3, d4⟩, ⟨e1, e2, e3⟩, f1⟩ := h
  have hs := sm_upn (f := g 5) (k := m) (v := g 5 m - t * 5) (n := 8) (by omega)
  have hbm := b1 m hm
  refine ⟨⟨a1, a2, a3⟩, ?_, ?_, ⟨d1, d2, d3, d4⟩, ⟨e1, e2, ?_⟩, f1⟩
  · intro k hk
    obtain ⟨x1, x2, x3, x4⟩ := b1 k hk
    refine ⟨?_, x2, x3, x4⟩
    show 1 ≤ upn (g 0) m (g 0 m + t) k ∧ upn (g 0) m (g 0 m + t) k ≤ 50
    unfold upn; split <;> omega
  · intro k hk
    obtain ⟨x1, x2, x3⟩ := c1 k hk
    refine ⟨x1, ?_, x3⟩
    show upn (g 5) m (g 5 m - t * 5) k = 0
    have hk : g 8 0 ≤ k := hk
    rw [upn_n (by omega)]; exact x2
  · show sm (upn (g 5) m (g 5 m - t * 5)) 8 + (g 8 2 + t * 5) = g 8 5; omega
theorem IB_vote {B : Nat} {g : GG} (h : IB B g) {t k : Nat} (ht : t ≤ 11) (hB : B + 1 ≤ 300000) : IB (B + 1) (voteG g t k) := by
  obtain ⟨⟨a1, a2, a3⟩, b1, c1, ⟨d1, d2, d3, d4⟩, ⟨e1, e2, e3⟩, f1⟩ := h
  unfold voteG
  split
  · exact ⟨⟨a1, a2, a3⟩, b1, c1, ⟨by omega, by omega, fun m => Nat.le_trans (d3 m) (Nat.le_add_right _ _), fun m => Nat.le_trans (d4 m) (Nat.le_add_right _ _)⟩, ⟨by omega, by omega, e3⟩, hB⟩
  · refine ⟨⟨a1, ht, a3⟩, b1, ?_, ⟨Nat.le_trans d1 (Nat.le_add_right _ _), Nat.le_trans d2 (Nat.le_add_right _ _), ?_, fun m => Nat.le_trans (d4 m) (Nat.le_add_right _ _)⟩, ⟨Nat.le_trans e1 (Nat.le_add_right _ _), Nat.le_trans e2 (Nat.le_add_right _ _), e3⟩, hB⟩
    · intro m hm
      obtain ⟨x1, x2, x3⟩ := c1 m hm
      refine ⟨x1, x2, ?_⟩
      have hm : g 8 0 ≤ m := hm
      show fl (g 6) (disN g t k) (g 8 0) m = 0
      rw [fl_hi hm]; exact x3
    · intro m
      show fl (g 6) (disN g t k) (g 8 0) m ≤ B + 1
      have := d3 m
      unfold fl disN
      (repeat' split) <;> omega
theorem fl_sm {f h : Nat → Nat} {n : Nat} : ∀ {N : Nat}, n ≤ N → sm (fl f (fun m => f m + h m) n) N = sm f N + sm h n
  | 0, hN => by rw [show n = 0 by omega]; rfl
  | N + 1, hN => by
    show sm (fl f (fun m => f m + h m) n) N + fl f (fun m => f m + h m) n N = sm f N + f N + sm h n
    by_cases e : n = N + 1
    · subst e
      rw [fl_lo (by omega), sm_cong (f := fl f (fun m => f m + h m) (N + 1)) (g := fun m => f m + h m) (n := N) (fun j hj => fl_lo (show j < N + 1 by omega))]
      show sm (fun m => f m + h m) N + (f N + h N) = sm f N + f N + (sm h N + h N)
      have : ∀ k, sm (fun m => f m + h m) k = sm f k + sm h k := fun k => by
        induction k with
        | zero => rfl
        | succ k ih => show sm (fun m => f m + h m) k + (f k + h k) = sm f k + f k + (sm h k + h k); omega
      rw [this]; omega
    · rw [fl_hi (by omega), fl_sm (N := N) (by omega)]; omega
theorem IB_pay {B : Nat} {g : GG} (h : IB B g) (hm : 0 < g 8 0) (hB : B + 1 ≤ 300000) : IB (B + 1) (payG g) := by
  have hdv := dv_sum h hm
  obtain ⟨⟨a1, a2, a3⟩, b1, c1, ⟨d1, d2, d3, d4⟩, ⟨e1, e2, e3⟩, f1⟩ := h
  have hs := fl_sm (f := g 5) (h := dv g) (n := g 8 0) (N := 8) a1
  refine ⟨⟨a1, a2, a3⟩, b1, ?_, ⟨Nat.le_trans d1 (Nat.le_add_right _ _), ?_, fun m => Nat.le_trans (d3 m) (Nat.le_add_right _ _), fun m => Nat.le_trans (d4 m) (Nat.le_add_right _ _)⟩, ⟨Nat.le_trans e1 (Nat.le_add_right _ _), Nat.le_trans e2 (Nat.le_add_right _ _), ?_⟩, hB⟩
  · intro k hk
    obtain ⟨x1, x2, x3⟩ := c1 k hk
    refine ⟨x1, ?_, x3⟩
    have hk : g 8 0 ≤ k := hk
    show fl (g 5) (fun m => g 5 m + dv g m) (g 8 0) k = 0
    rw [fl_hi hk]; exact x2
  · show g 8 4 + 1 ≤ B + 1; omega
  · show sm (fl (g 5) (fun m => g 5 m + dv g m) (g 8 0)) 8 + 0 = g 8 5; omega
/-! what a command does: K is its sign, a b c d its numbers -/
def doF (g : GG) (K a b c d : Nat) : Nat :=
  if K = 98 then fBuy g (nI a) (nI b) else if K = 101 then fPass (nI a) else if K = 106 then fJoin g (nI a) (nI b) (nI c) (nI d) else if K = 113 then fPay g else if K = 116 then fTune g (nI a) (nI b) else if K = 119 then fWind g (nI a) (nI b) else fMot (nI a) (nI b)
/-- the reference's code -/
def doC (g : GG) (K a b c d : Nat) : Nat :=
  if K = 98 then fBuy g (nI a) (nI b) else if K = 101 then fPass (nI a) - 1 else if K = 106 then fJoin g (nI a) (nI b) (nI c) (nI d) - 1 else if K = 113 then fPay g - 2 else if K = 116 then fTune g (nI a) (nI b) else if K = 119 then fWind g (nI a) (nI b) else fMot (nI a) (nI b) - 1
def doA (g : GG) (K a b : Nat) : Nat :=
  if K = 98 then g 0 (tn (nI a)) + tn (nI b) else if K = 101 then passN g (tn (nI a)) else if K = 106 then g 8 0 else if K = 113 then g 8 2 else if K = 116 then g 3 (tn (nI a)) else if K = 119 then g 4 (tn (nI a)) + tn (nI b) else aVot g (tn (nI a)) (tn (nI b))
def doG (g : GG) (K a b c d : Nat) : GG :=
  if K = 98 then buyG g (tn (nI a)) (tn (nI b)) else if K = 101 then passG g (tn (nI a)) else if K = 106 then joinG g (tn (nI a)) (tn (nI b)) (tn (nI c)) (tn (nI d)) else if K = 113 then payG g else if K = 116 then up2 g 3 (tn (nI a)) (tn (nI b)) else if K = 119 then windG g (tn (nI a)) (tn (nI b)) else voteG g (tn (nI a)) (tn (nI b))
theorem do_0 {g : GG} {K a b c d : Nat} : doC g K a b c d = 0 ↔ doF g K a b c d = 0 := by
  unfold doC doF fPay fPass fJoin fMot
  (repeat' split) <;> omega
theorem do_9 {g : GG} {K a b c d : Nat} : doC g K a b c d < 10 := by
  unfold doC fPay fPass fJoin fMot fBuy fTune fWind
  (repeat' split) <;> omega
theorem tn_t {x : Int32} (h : 0 ≤ x.toInt) : (tn x : Int) = x.toInt := Int.toNat_of_nonneg h
/-- a command that does not fail keeps what is true of a state -/
theorem IB_do {B : Nat} {g : GG} (h : IB B g) {K a b c d : Nat} (h0 : doF g K a b c d = 0) (hB : B + 60 ≤ 300000) : IB (B + 60) (doG g K a b c d) := by
  have hmc := h.mc
  unfold doF at h0
  unfold doG
  split at h0
  · rw [if_pos (by assumption)]
    unfold fBuy at h0
    split at h0
    · omega
    split at h0
    · omega
    split at h0
    · omega
    split at h0
    · omega
    rename_i q17 q18 q20 q4
    have t1 := tn_t (x := nI a) (by omega)
    have t2 := tn_t (x := nI b) (by omega)
    have e1 : (nI a).toInt.toNat = tn (nI a) := rfl
    rw [e1] at q20 q4
    exact (IB_buy h (m := tn (nI a)) (t := tn (nI b)) (by omega) (by omega) (by omega)).le (by omega) hB
  split at h0
  · rw [if_neg (by assumption), if_pos (by assumption)]
    unfold fPass at h0
    split at h0
    · omega
    have t1 := tn_t (x := nI a) (by omega)
    exact (IB_pass h (k := tn (nI a)) (by omega)).le (by omega) hB
  split at h0
  · rw [if_neg (by assumption), if_neg (by assumption), if_pos (by assumption)]
    unfold fJoin at h0
    split at h0
    · omega
    split at h0
    · omega
    rename_i q17 q18
    have t1 := tn_t (x := nI a) (by omega)
    have t2 := tn_t (x := nI b) (by omega)
    have t3 := tn_t (x := nI c) (by omega)
    have t4 := tn_t (x := nI d) (by omega)
    exact (IB_join h (by omega) ⟨by omega, by omega⟩ ⟨by omega, by omega⟩ (by omega) (by omega)).le (by omega) hB
  split at h0
  · rw [if_neg (by assumption), if_neg (by assumption), if_neg (by assumption), if_pos (by assumption)]
    unfold fPay at h0
    split at h0
    · omega
    exact (IB_pay h (by omega) (by omega)).le (by omega) hB
  split at h0
  · rw [if_neg (by assumption), if_neg (by assumption), if_neg (by assumption), if_neg (by assumption), if_pos (by assumption)]
    unfold fTune at h0
    split at h0
    · omega
    split at h0
    · omega
    have t2 := tn_t (x := nI b) (by omega)
    exact (IB_tune h (m := tn (nI a)) (by omega)).le (by omega) hB
  split at h0
  · rw [if_neg (by assumption), if_neg (by assumption), if_neg (by assumption), if_neg (by assumption), if_neg (by assumption), if_pos (by assumption)]
    unfold fWind at h0
    split at h0
    · omega
    split at h0
    · omega
    split at h0
    · omega
    rename_i q17 q18 q20
    have t1 := tn_t (x := nI a) (by omega)
    have t2 := tn_t (x := nI b) (by omega)
    have e1 : (nI a).toInt.toNat = tn (nI a) := rfl
    rw [e1] at q20
    exact (IB_wind h (m := tn (nI a)) (t := tn (nI b)) (by omega) (by omega) (by omega)).le (by omega) hB
  · rw [if_neg (by assumption), if_neg (by assumption), if_neg (by assumption), if_neg (by assumption), if_neg (by assumption), if_neg (by assumption)]
    unfold fMot at h0
    split at h0
    · omega
    have t1 := tn_t (x := nI a) (by omega)
    exact (IB_vote h (t := tn (nI a)) (by omega) (by omega)).le (by omega) hB
