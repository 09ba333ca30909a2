/-! what stays true of every state, and what a call has done -/
def JG (g : GG) : Prop := g 8 5 ≤ g 8 6 ∧ (∀ i, i + 1 < g 8 7 → g 7 (i + 1) < g 7 i) ∧ (0 < g 8 7 → g 7 0 ≤ g 8 1)
theorem JG_0 : JG (fun _ _ => 0) := ⟨Nat.le_refl _, fun i h => absurd h (Nat.not_lt_zero _), fun h => absurd h (Nat.not_lt_zero _)⟩
theorem JG_join {g : GG} {a b c d : Nat} (h : JG g) : JG (joinG g a b c d) := h
theorem JG_wind {g : GG} {a b : Nat} (h : JG g) : JG (windG g a b) := h
theorem JG_tune {g : GG} {a b : Nat} (h : JG g) : JG (up2 g 3 a b) := h
theorem JG_buy {g : GG} {a b : Nat} (h : JG g) : JG (buyG g a b) := h
theorem JG_pay {g : GG} (h : JG g) : JG (payG g) := h
theorem JG_vote {g : GG} {a b : Nat} (h : JG g) : JG (voteG g a b) := by
  unfold voteG
  split
  · exact h
  · exact h
theorem msk_none {g : GG} : ∀ {n : Nat}, chN g n = 0 → msk g n = 0
  | 0, _ => rfl
  | n + 1, h => by
    have h1 : chN g n + (if chp g n = true then 1 else 0) = 0 := h
    by_cases c : chp g n = true
    · rw [if_pos c] at h1; omega
    · show (if chp g n = true then _ else msk g n) = 0
      rw [if_neg c]
      exact msk_none (by rw [if_neg c] at h1; exact h1)
theorem clash_pos {g : GG} {n : Nat} (h : clM (msk g n) = true) : 1 ≤ chN g n := by
  rcases Nat.eq_zero_or_pos (chN g n) with z | z
  · rw [msk_none z] at h
    exact absurd h (by decide)
  · exact z
theorem JG_one {g : GG} (h : JG g) : JG (oneG g) := by
  obtain ⟨h1, h2, h3⟩ := h
  unfold oneG
  split
  · refine ⟨?_, ?_, ?_⟩
    · show g 8 5 ≤ g 8 6 + chN g (g 8 0)
      omega
    · intro i hi
      have hi : i + 1 < (if 10 < g 8 7 + 1 then 10 else g 8 7 + 1) := hi
      show upn (shf (g 7) 0) 0 (g 8 1 + 1) (i + 1) < upn (shf (g 7) 0) 0 (g 8 1 + 1) i
      rw [upn_n (by omega)]
      have e1 : shf (g 7) 0 (i + 1) = g 7 i := by
        unfold shf
        rw [if_pos (by split at hi <;> omega)]
        rfl
      rw [e1]
      rcases Nat.eq_zero_or_pos i with z | z
      · subst z
        rw [upn_s]
        have := h3 (by split at hi <;> omega)
        omega
      · rw [upn_n (by omega)]
        have e2 : shf (g 7) 0 i = g 7 (i - 1) := by
          unfold shf
          rw [if_pos (by split at hi <;> omega)]
        rw [e2]
        have := h2 (i - 1) (by split at hi <;> omega)
        rw [show i - 1 + 1 = i by omega] at this
        exact this
    · intro _
      show upn (shf (g 7) 0) 0 (g 8 1 + 1) 0 ≤ g 8 1 + 1
      rw [upn_s]
      exact Nat.le_refl _
  · refine ⟨?_, h2, fun q => ?_⟩
    · show g 8 5 + chN g (g 8 0) ≤ g 8 6 + chN g (g 8 0)
      omega
    · show g 7 0 ≤ g 8 1 + 1
      have := h3 q
      omega
theorem JG_pass {g : GG} (h : JG g) : ∀ k, JG (passG g k)
  | 0 => h
  | k + 1 => JG_one (JG_pass h k)
theorem JG_do {g : GG} (h : JG g) {K a b c d : Nat} : JG (doG g K a b c d) := by
  unfold doG
  split
  · exact JG_buy h
  split
  · exact JG_pass h _
  split
  · exact JG_join h
  split
  · exact JG_pay h
  split
  · exact JG_tune h
  split
  · exact JG_wind h
  · exact JG_vote h
theorem JG_ex {g : GG} {T : Nat → Nat} (h : JG g) : ∀ k, JG (exG g T k)
  | 0 => h
  | k + 1 => JG_do (JG_ex h k)
theorem RUNP.jg {g g' : GG} {r : Int32} (h : RUNP g g' r) (hJ : JG g) : JG g' := by
  obtain ⟨T, C, -, -, rfl, -⟩ := h
  exact JG_ex hJ C
/-- the state of the law's object: what is known of it -/
def IJ (B : Nat) (g : GG) : Prop := IB B g ∧ JG g
/-! beats -/
theorem one_beat {g : GG} : oneG g 8 1 = g 8 1 + 1 := by
  unfold oneG
  split <;> rfl
theorem one_n {g : GG} : oneG g 8 0 = g 8 0 := by
  unfold oneG
  split <;> rfl
theorem pass_beat {g : GG} : ∀ k, passG g k 8 1 = g 8 1 + k
  | 0 => rfl
  | k + 1 => by
    show oneG (passG g k) 8 1 = g 8 1 + (k + 1)
    rw [one_beat, pass_beat k]
    rfl
theorem one_spring {g : GG} (m : Nat) : oneG g 4 m ≤ g 4 m := by
  have h : fl (g 4) (spN g) (g 8 0) m ≤ g 4 m := by
    unfold fl spN
    split
    · split
      · omega
      · exact Nat.le_refl _
    · exact Nat.le_refl _
  unfold oneG
  split
  · exact h
  · exact h
theorem pass_spring {g : GG} (m : Nat) : ∀ k, passG g k 4 m ≤ g 4 m
  | 0 => Nat.le_refl _
  | k + 1 => Nat.le_trans (one_spring m) (pass_spring m k)
theorem pass_n {g : GG} : ∀ k, passG g k 8 0 = g 8 0
  | 0 => rfl
  | k + 1 => by
    show oneG (passG g k) 8 0 = g 8 0
    rw [one_n, pass_n k]
/-- no beat was spoilt, or one was -/
def PSP (g h : GG) : Prop := (h 7 = g 7 ∧ h 8 7 = g 8 7 ∧ h 8 6 + g 8 2 = h 8 2 + g 8 6) ∨ (0 < h 8 7 ∧ g 8 1 < h 7 0 ∧ h 8 2 + g 8 6 < h 8 6 + g 8 2)
theorem pass_sp {g : GG} : ∀ k, PSP g (passG g k)
  | 0 => Or.inl ⟨rfl, rfl, Nat.add_comm _ _⟩
  | k + 1 => by
    have ih := pass_sp (g := g) k
    have hb := pass_beat (g := g) k
    show PSP g (oneG (passG g k))
    generalize passG g k = h at ih hb
    unfold oneG
    by_cases c : clM (msk h (h 8 0)) = true
    · rw [if_pos c]
      have hp := clash_pos c
      refine Or.inr ⟨?_, ?_, ?_⟩
      · show 0 < (if 10 < h 8 7 + 1 then 10 else h 8 7 + 1)
        split <;> omega
      · show g 8 1 < upn (shf (h 7) 0) 0 (h 8 1 + 1) 0
        rw [upn_s]
        omega
      · show h 8 2 + g 8 6 < h 8 6 + chN h (h 8 0) + g 8 2
        rcases ih with ⟨-, -, q⟩ | ⟨-, -, q⟩ <;> omega
    · rw [if_neg c]
      rcases ih with ⟨q1, q2, q⟩ | ⟨q1, q2, q⟩
      · refine Or.inl ⟨q1, q2, ?_⟩
        show h 8 6 + chN h (h 8 0) + g 8 2 = h 8 2 + chN h (h 8 0) + g 8 6
        omega
      · refine Or.inr ⟨q1, q2, ?_⟩
        show h 8 2 + chN h (h 8 0) + g 8 6 < h 8 6 + chN h (h 8 0) + g 8 2
        omega
theorem wsp_0 {g : GG} : wsp g (nI 0) = if 0 < g 8 7 then nI (g 7 0) else -77 := by
  unfold wsp
  have h0 : (nI 0).toInt = 0 := by decide
  have h1 : tn (nI 0) = 0 := by decide
  rw [h0, h1]
  by_cases c : 0 < g 8 7
  · rw [if_pos c, if_pos (by omega)]
  · rw [if_neg c, if_neg (by omega)]
theorem nI_m77 {n : Nat} (h : n < 2147483648) : nI n ≠ -77 := fun e => by
  have h1 := nI_toInt h
  rw [e] at h1
  have : ((-77 : Int32)).toInt = -77 := by decide
  omega
/-- the newest spoilt beat is another one just when a beat was spoilt -/
theorem pass_wsp {B B' : Nat} {g h : GG} (hI : IB B g) (hI' : IB B' h) (hJ : JG g) (hp : PSP g h) : wsp h (nI 0) = wsp g (nI 0) ↔ h 8 6 + g 8 2 = h 8 2 + g 8 6 := by
  rw [wsp_0, wsp_0]
  rcases hp with ⟨q1, q2, q⟩ | ⟨q1, q2, q⟩
  · rw [q1, q2]
    exact ⟨fun _ => q, fun _ => rfl⟩
  · refine ⟨fun e => ?_, fun e => by omega⟩
    exfalso
    rw [if_pos q1] at e
    have b1 := hI'.2.2.2.1.2.2.2 0
    have b2 := hI.2.2.2.1.2.2.2 0
    have b3 := hI.bud.2.2.2.2.2.2
    have b4 := hI'.bud.2.2.2.2.2.2
    by_cases c : 0 < g 8 7
    · rw [if_pos c] at e
      have e1 := congrArg Int32.toInt e
      rw [nI_toInt (by omega), nI_toInt (by omega)] at e1
      have := hJ.2.2 c
      omega
    · rw [if_neg c] at e
      exact nI_m77 (by omega) e
theorem pass_sur {g : GG} {k : Nat} : passG g k 8 2 = g 8 2 + passN g k := by
  have := sur_pass g k
  unfold passN
  omega
theorem pass_chi {g : GG} {k : Nat} : g 8 6 + passN g k ≤ passG g k 8 6 := by
  have h1 := pass_sp (g := g) k
  have h2 := pass_sur (g := g) (k := k)
  rcases h1 with ⟨-, -, q⟩ | ⟨-, -, q⟩ <;> omega
/-! votes -/
theorem vote_house {g : GG} {t k : Nat} : voteG g t k 8 3 = if quo g ≤ favN g t k then t else g 8 3 := by
  unfold voteG
  by_cases c : favN g t k < quo g
  · rw [if_pos c, if_neg (by omega)]
  · rw [if_neg c, if_pos (by omega)]
    rfl
theorem vote_dis {g : GG} {t k m : Nat} : g 6 m ≤ voteG g t k 6 m ∧ voteG g t k 6 m ≤ g 6 m + (if quo g ≤ favN g t k then 1 else 0) := by
  unfold voteG
  by_cases c : favN g t k < quo g
  · rw [if_pos c]
    exact ⟨Nat.le_refl _, Nat.le_add_right _ _⟩
  · rw [if_neg c, if_pos (by omega)]
    show g 6 m ≤ fl (g 6) (disN g t k) (g 8 0) m ∧ fl (g 6) (disN g t k) (g 8 0) m ≤ g 6 m + 1
    unfold fl disN
    split
    · split <;> omega
    · omega
theorem vote_same {g : GG} {t k : Nat} : voteG g t k 8 1 = g 8 1 ∧ voteG g t k 8 6 = g 8 6 ∧ voteG g t k 8 0 = g 8 0 := by
  unfold voteG
  split
  · exact ⟨rfl, rfl, rfl⟩
  · exact ⟨rfl, rfl, rfl⟩
theorem pay_purse {g : GG} {m : Nat} (hm : m < g 8 0) : payG g 5 m = g 5 m + dv g m := by
  show fl (g 5) (fun m => g 5 m + dv g m) (g 8 0) m = _
  unfold fl
  rw [if_pos hm]
/-! what is asked of a number, of a member -/
theorem hasM_nI {g : GG} (hm : g 8 0 ≤ 8) {m : Nat} (h8 : m ≤ 8) : hasM g (nI m) = decide (m < g 8 0) := by
  unfold hasM
  rw [nI_toInt (by omega)]
  exact decide_eq_decide.mpr (by omega)
theorem wf_in {g : GG} {f : Nat → Nat} (hm : g 8 0 ≤ 8) {m : Nat} (h : m < g 8 0) : wf g f (nI m) = nI (f m) := by
  unfold wf
  rw [hasM_nI hm (by omega), decide_eq_true h, if_pos rfl, tn_nI (by omega)]
theorem wf_out {g : GG} {f : Nat → Nat} (hm : g 8 0 ≤ 8) {m : Nat} (h : g 8 0 ≤ m) (h8 : m ≤ 8) : wf g f (nI m) = -77 := by
  unfold wf
  rw [hasM_nI hm h8, decide_eq_false (by omega), if_neg (by decide)]
theorem wf2_in {g : GG} {f : Nat → Nat → Nat} (hm : g 8 0 ≤ 8) {x y : Nat} (hx : x < g 8 0) (hy : y < g 8 0) : wf2 g f (nI x) (nI y) = nI (f x y) := by
  unfold wf2
  rw [hasM_nI hm (by omega), hasM_nI hm (by omega), decide_eq_true hx, decide_eq_true hy, if_pos (show (true && true) = true from rfl), tn_nI (by omega), tn_nI (by omega)]
theorem wl_in {g : GG} (hm : g 8 0 ≤ 8) {m : Nat} (h : m < g 8 0) : wl g (nI m) = lN (dlk g m 60) := by
  unfold wl
  rw [hasM_nI hm (by omega), decide_eq_true h, if_pos rfl, tn_nI (by omega)]
theorem wps_in {g : GG} (hm : g 8 0 ≤ 8) {m : Nat} (h : m < g 8 0) : wps g (nI m) = psF g m := by
  unfold wps
  rw [hasM_nI hm (by omega), decide_eq_true h, if_pos rfl, tn_nI (by omega)]
theorem wea_in {g : GG} {k : Nat} (h : k ≤ 60) : wea g (nI k) = nI (passN g k) := by
  unfold wea
  rw [nI_toInt (by omega), if_pos (by omega), tn_nI (by omega)]
theorem fMot_ok {t k : Nat} (ht : t < 12) (hk : k ≤ 6) : fMot (nI t) (nI k) = 0 := by
  unfold fMot
  rw [nI_toInt (by omega), nI_toInt (by omega), if_neg (by omega)]
theorem wfv_in {g : GG} {t k : Nat} (ht : t < 12) (hk : k ≤ 6) : wfv g (nI t) (nI k) = nI (favN g t k) := by
  unfold wfv
  rw [if_pos (fMot_ok ht hk), tn_nI (by omega), tn_nI (by omega)]
/-- the first tone that would be carried -/
def ctN9 (g : GG) (k : Nat) : Nat := fst1 (fun t => decide (quo g ≤ favN g t k)) 12
theorem wct_in {g : GG} {k : Nat} (hk : k ≤ 6) : wct g (nI k) = if ctN9 g k < 12 then nI (ctN9 g k) else -75 := by
  unfold wct
  rw [nI_toInt (by omega), if_pos (by omega), tn_nI (by omega)]
  rfl
theorem wsp_in {g : GG} (hm : g 8 7 ≤ 10) {p : Nat} (h : p ≤ 20) : wsp g (nI p) = if p < g 8 7 then nI (g 7 p) else -77 := by
  unfold wsp
  rw [nI_toInt (by omega), tn_nI (by omega)]
  by_cases c : p < g 8 7
  · rw [if_pos c, if_pos (by omega)]
  · rw [if_neg c, if_neg (by omega)]
theorem fav_le8 {B : Nat} {g : GG} (h : IB B g) {t k : Nat} : favN g t k ≤ 400 := by
  have h1 : favN g t k ≤ 50 * g 8 0 := fav_le h (Nat.le_refl _)
  have := h.mc
  omega
theorem all_le {B : Nat} {g : GG} (h : IB B g) : allSh g ≤ 400 := by
  have h1 : allSh g ≤ 50 * g 8 0 := h.shs (Nat.le_refl _)
  have := h.mc
  omega
theorem rfX_le {n : Nat} : (rfX n).toInt ≤ -76 := by
  unfold rfX
  split
  · decide
  split
  · decide
  split
  · decide
  · decide
