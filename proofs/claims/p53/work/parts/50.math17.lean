/-! the two ways of reading a program agree -/
def fmS : List (List Nat × Nat × Nat) → List Nat
  | [] => []
  | (p, _, m) :: l => p ++ ((if m = 2 then 35 else 63) :: fmS l)
def plainS (p : List Nat) : Bool := p.all (fun c => c != 35 && c != 63)
def okL : Nat → List (List Nat × Nat × Nat) → Bool
  | _, [] => true
  | k0, (p, k, m) :: l => plainS p && (k == k0) && (m == 1 || m == 2) && okL (k0 + 1) l
theorem okL_s {k0 k m : Nat} {p : List Nat} {l : List (List Nat × Nat × Nat)} (h : okL k0 ((p, k, m) :: l) = true) : plainS p = true ∧ k = k0 ∧ (m = 1 ∨ m = 2) ∧ okL (k0 + 1) l = true := by
  simp only [okL, Bool.and_eq_true, Bool.or_eq_true, beq_iff_eq] at h
  exact ⟨h.1.1.1, h.1.1.2, h.1.2, h.2⟩
theorem frm_say {tx : Nat → Nat} {e : Nat} : ∀ (p : List Nat) {r : List Nat} {sp pl : Nat} {A : Nat → Nat}, plainS p = true →
    frmR tx e (p ++ r) sp pl A = if (sayR tx e p sp 0).2 = 0 then frmR tx e r (sayR tx e p sp 0).1 pl A else ((sayR tx e p sp 0).1, 0, A)
  | [], r, sp, pl, A, _ => (if_pos rfl).symm
  | c :: p, r, sp, pl, A, h => by
    have h1 : (c ≠ 35 ∧ c ≠ 63) ∧ plainS p = true := by
      simp only [plainS, List.all_cons, Bool.and_eq_true, bne_iff_ne] at h ⊢
      exact h
    by_cases h2 : sp < e ∧ tx sp = c
    · rw [List.cons_append, frmR_s h1.1 h2, frm_say p h1.2, sayR_t h2.1 h2.2]
    · rw [List.cons_append, frmR_sf h1.1 h2, sayR_f h2, if_neg (show ¬ (1 : Nat) = 0 by decide)]
theorem seqR_bad {tx : Nat → Nat} {e c : Nat} : ∀ (L : List (List Nat × Nat × Nat)) {sp w : Nat} {t : Nat → Nat}, w ≠ 0 → (seqR tx e c L (sp, w, t)).1 = sp ∧ (seqR tx e c L (sp, w, t)).2.1 ≠ 0
  | [], sp, w, t, h => ⟨rfl, h⟩
  | (p, k, m) :: l, sp, w, t, h => by
    have hn : numR tx e p m sp w = (sp, w, 0) := by
      unfold numR; rw [sayR_w h, if_neg h]
    rw [seqR_s hn]
    exact seqR_bad l h
theorem seqR_kp {tx : Nat → Nat} {e c : Nat} : ∀ (L : List (List Nat × Nat × Nat)) {k0 : Nat} {s : Nat × Nat × (Nat → Nat)}, okL k0 L = true → ∀ j, j < 5 * c + k0 → (seqR tx e c L s).2.2 j = s.2.2 j
  | [], _, s, _, _, _ => rfl
  | (p, k, m) :: l, k0, s, h, j, hj => by
    obtain ⟨-, rfl, -, h4⟩ := okL_s h
    show (seqR tx e c l ((numR tx e p m s.1 s.2.1).1, (numR tx e p m s.1 s.2.1).2.1, upn s.2.2 (5 * c + k) (numR tx e p m s.1 s.2.1).2.2)).2.2 j = s.2.2 j
    rw [seqR_kp l h4 j (by omega)]
    exact upn_n (by omega)
theorem frm_seq {tx : Nat → Nat} {e c : Nat} : ∀ (L : List (List Nat × Nat × Nat)) {k0 sp pl : Nat} {A t : Nat → Nat}, okL k0 L = true →
    (frmR tx e (fmS L) sp pl A).1 = (seqR tx e c L (sp, 0, t)).1 ∧ ((frmR tx e (fmS L) sp pl A).2.1 = 0 ↔ (seqR tx e c L (sp, 0, t)).2.1 ≠ 0) ∧ (∀ j, j < pl → (frmR tx e (fmS L) sp pl A).2.2 j = A j) ∧
      ((frmR tx e (fmS L) sp pl A).2.1 ≠ 0 → ∀ i, i < L.length → (frmR tx e (fmS L) sp pl A).2.2 (pl + i) = (seqR tx e c L (sp, 0, t)).2.2 (5 * c + k0 + i))
  | [], k0, sp, pl, A, t, _ => ⟨rfl, ⟨fun h => absurd h (by show ¬ (1 : Nat) = 0; decide), fun h => absurd rfl h⟩, fun _ _ => rfl, fun _ i hi => absurd hi (Nat.not_lt_zero _)⟩
  | (p, k, m) :: l, k0, sp, pl, A, t, h => by
    obtain ⟨h1, rfl, h3, h4⟩ := okL_s h
    show (frmR tx e (p ++ ((if m = 2 then 35 else 63) :: fmS l)) sp pl A).1 = _ ∧ ((frmR tx e (p ++ ((if m = 2 then 35 else 63) :: fmS l)) sp pl A).2.1 = 0 ↔ _) ∧ (∀ j, j < pl → (frmR tx e (p ++ ((if m = 2 then 35 else 63) :: fmS l)) sp pl A).2.2 j = A j) ∧ ((frmR tx e (p ++ ((if m = 2 then 35 else 63) :: fmS l)) sp pl A).2.1 ≠ 0 → ∀ i, i < ((p, k, m) :: l).length → (frmR tx e (p ++ ((if m = 2 then 35 else 63) :: fmS l)) sp pl A).2.2 (pl + i) = _)
    rw [frm_say p h1]
    by_cases hs : (sayR tx e p sp 0).2 = 0
    · rw [if_pos hs]
      generalize hX : (sayR tx e p sp 0).1 = X
      have hc : ¬ ((if m = 2 then 35 else 63) ≠ 35 ∧ (if m = 2 then 35 else 63) ≠ 63) := by rcases h3 with rfl | rfl <;> decide
      have hm : (if (if m = 2 then 35 else 63) = 35 then 2 else 1) = m := by rcases h3 with rfl | rfl <;> decide
      by_cases hd : X < e ∧ 48 ≤ tx X ∧ tx X ≤ 57
      · have hn : numR tx e p m sp 0 = ((digR tx e m X 0 0).1, 0, (digR tx e m X 0 0).2.1) := by
          unfold numR
          rw [if_pos hs, hX]
          have : (digR tx e m X 0 0).2.2 ≠ 0 := by
            obtain ⟨m', rfl⟩ : ∃ m', m = m' + 1 := ⟨m - 1, by omega⟩
            rw [digR_t hd]
            have := (digR_le (tx := tx) (e := e) (f := m') (sp := X + 1) (n := 10 * 0 + tx X - 48) (d := 0 + 1) (by omega)).2.2.1
            omega
          rw [if_neg this]
        rw [frmR_d hc hd, hm, seqR_s hn]
        obtain ⟨i1, i2, i3, i4⟩ := frm_seq (tx := tx) (e := e) (c := c) l (k0 := k + 1) (sp := (digR tx e m X 0 0).1) (pl := pl + 1) (A := upn A pl (digR tx e m X 0 0).2.1) (t := upn t (5 * c + k) (digR tx e m X 0 0).2.1) h4
        refine ⟨i1, i2, fun j hj => (i3 j (by omega)).trans (upn_n (by omega)), fun hv i hi => ?_⟩
        rcases Nat.eq_zero_or_pos i with rfl | hp
        · rw [show pl + 0 = pl from rfl, i3 pl (by omega), upn_s, seqR_kp l h4 _ (by omega), show 5 * c + k + 0 = 5 * c + k from rfl]
          exact upn_s.symm
        · have := i4 hv (i - 1) (by rw [List.length_cons] at hi; omega)
          rw [show pl + 1 + (i - 1) = pl + i by omega, show 5 * c + (k + 1) + (i - 1) = 5 * c + k + i by omega] at this
          exact this
      · have hn : numR tx e p m sp 0 = (X, 1, 0) := by
          unfold numR
          rw [if_pos hs, hX, digR_f hd, if_pos rfl]
        rw [frmR_df hc hd, seqR_s hn]
        obtain ⟨b1, b2⟩ := seqR_bad (tx := tx) (e := e) (c := c) l (sp := X) (w := 1) (t := upn t (5 * c + k) 0) (by decide)
        exact ⟨b1.symm, ⟨fun _ => b2, fun _ => rfl⟩, fun _ _ => rfl, fun q => absurd rfl q⟩
    · rw [if_neg hs]
      have hn : numR tx e p m sp 0 = ((sayR tx e p sp 0).1, (sayR tx e p sp 0).2, 0) := by
        unfold numR; rw [if_neg hs]
      rw [seqR_s hn]
      obtain ⟨b1, b2⟩ := seqR_bad (tx := tx) (e := e) (c := c) l (sp := (sayR tx e p sp 0).1) (w := (sayR tx e p sp 0).2) (t := upn t (5 * c + k) 0) hs
      exact ⟨b1.symm, ⟨fun _ => b2, fun _ => rfl⟩, fun _ _ => rfl, fun q => absurd rfl q⟩
theorem frmR_ge {tx : Nat → Nat} {e : Nat} : ∀ (l : List Nat) (sp pl : Nat) (A : Nat → Nat), sp ≤ e → sp ≤ (frmR tx e l sp pl A).1
  | [], sp, pl, A, _ => Nat.le_refl _
  | c :: l, sp, pl, A, h => by
    by_cases h1 : c ≠ 35 ∧ c ≠ 63
    · by_cases h2 : sp < e ∧ tx sp = c
      · rw [frmR_s h1 h2]; have := frmR_ge (tx := tx) (e := e) l (sp + 1) pl A (by omega); omega
      · rw [frmR_sf h1 h2]; exact Nat.le_refl _
    · by_cases h2 : sp < e ∧ 48 ≤ tx sp ∧ tx sp ≤ 57
      · rw [frmR_d h1 h2]
        have hdl := digR_le (tx := tx) (f := if c = 35 then 2 else 1) (n := 0) (d := 0) (show sp ≤ e from h)
        have := frmR_ge (tx := tx) (e := e) l (digR tx e (if c = 35 then 2 else 1) sp 0 0).1 (pl + 1) (upn A pl (digR tx e (if c = 35 then 2 else 1) sp 0 0).2.1) (by omega)
        omega
      · rw [frmR_df h1 h2]; exact Nat.le_refl _
/-! one command: the forms one after another, against the one that the first sign names -/
/-- the form k fails at x and changes nothing -/
def fmX (tx : Nat → Nat) (e st n k X : Nat) : Prop := ∀ A, ∃ x, x ≤ X ∧ fmR tx e st n k A = (x, 0, A)
theorem cmd_late {tx : Nat → Nat} {e st n X : Nat} : ∀ (f k fur : Nat) (A : Nat → Nat), X ≤ fur → (∀ j, k ≤ j → j < k + f → fmX tx e st n j X) → (cmdR tx e st n f k fur A).1 = fur ∧ (cmdR tx e st n f k fur A).2.1 = 0 ∧ (cmdR tx e st n f k fur A).2.2.2 = A
  | 0, k, fur, A, _, _ => ⟨rfl, rfl, rfl⟩
  | f + 1, k, fur, A, hX, h => by
    obtain ⟨x, hx, h1⟩ := h k (Nat.le_refl _) (by omega) A
    rw [cmdR_f h1, show mxN fur x = fur from if_neg (by omega)]
    exact cmd_late f (k + 1) fur A hX (fun j h1 h2 => h j (by omega) (by omega))
theorem cmd_at {tx : Nat → Nat} {e st n kk X v : Nat} {A A2 : Nat → Nat} (hk : fmR tx e st n kk A = (X, v, A2)) (ho : ∀ j, j < 7 → j ≠ kk → fmX tx e st n j X) (hkk : kk < 7) : ∀ (d k fur : Nat), k + d = kk → fur ≤ X →
    (v ≠ 0 → cmdR tx e st n (7 - k) k fur A = (X, 1, kk, A2)) ∧ (v = 0 → (cmdR tx e st n (7 - k) k fur A).1 = X ∧ (cmdR tx e st n (7 - k) k fur A).2.1 = 0 ∧ (cmdR tx e st n (7 - k) k fur A).2.2.2 = A2)
  | 0, k, fur, hd, hf => by
    obtain rfl : k = kk := by omega
    rw [show 7 - k = (6 - k) + 1 by omega]
    refine ⟨fun hv => cmdR_t hk hv, fun hv => ?_⟩
    subst hv
    rw [cmdR_f hk, show mxN fur X = X by unfold mxN; split <;> omega]
    exact cmd_late (6 - k) (k + 1) X A2 (Nat.le_refl _) (fun j h1 h2 => ho j (by omega) (by omega))
  | d + 1, k, fur, hd, hf => by
    obtain ⟨x, hx, h1⟩ := ho k (by omega) (by omega) A
    rw [show 7 - k = (7 - (k + 1)) + 1 by omega, cmdR_f h1]
    exact cmd_at hk ho hkk d (k + 1) (mxN fur x) (by omega) (mxN_le hf hx)
/-- the signs of the seven forms -/
def fmQ : Nat → List Nat
  | 0 => fmS LJ9 | 1 => fmS (LW9 "wind ") | 2 => fmS (LW9 "tune ") | 3 => fmS (LW9 "buy ") | 4 => fmS LE9 | 5 => tl "quarter" | _ => fmS LV9
theorem fmQ_ok : ∀ k, k < 7 → tl (qF k).2.2 = fmQ k := by decide +kernel
def fc1 : Nat → Nat
  | 0 => 106 | 1 => 119 | 2 => 116 | 3 => 98 | 4 => 98 | 5 => 113 | _ => 118
def fc2 : Nat → Nat
  | 3 => 117 | _ => 101
theorem fm_c1 : ∀ k, k < 7 → ∃ r, fmQ k = fc1 k :: r := by
  have h : ∀ k, k < 7 → fmQ k = fc1 k :: (fmQ k).drop 1 := by decide +kernel
  exact fun k hk => ⟨_, h k hk⟩
theorem fm_c2 : ∀ k, (k = 3 ∨ k = 4) → ∃ r, fmQ k = 98 :: fc2 k :: r := by
  have h : ∀ k, k < 5 → (k = 3 ∨ k = 4) → fmQ k = 98 :: fc2 k :: (fmQ k).drop 2 := by decide +kernel
  exact fun k hk => ⟨_, h k (by omega) hk⟩
theorem fc_ok : ∀ k, k < 7 → fc1 k ≠ 35 ∧ fc1 k ≠ 63 ∧ fc2 k ≠ 35 ∧ fc2 k ≠ 63 := by decide +kernel
theorem fmX_1 {tx : Nat → Nat} {e st n k X : Nat} (hk : k < 7) (h : ¬ (st < e ∧ tx st = fc1 k)) (hX : st ≤ X) : fmX tx e st n k X := by
  intro A
  obtain ⟨r, hr⟩ := fm_c1 k hk
  obtain ⟨h1, h2, -, -⟩ := fc_ok k hk
  refine ⟨st, hX, ?_⟩
  unfold fmR
  rw [fmQ_ok k hk, hr]
  exact frmR_sf ⟨h1, h2⟩ h
theorem fmX_2 {tx : Nat → Nat} {e st n k X : Nat} (hk : k = 3 ∨ k = 4) (h1 : st < e ∧ tx st = 98) (h : ¬ (st + 1 < e ∧ tx (st + 1) = fc2 k)) (hX : st + 1 ≤ X) : fmX tx e st n k X := by
  intro A
  obtain ⟨r, hr⟩ := fm_c2 k hk
  obtain ⟨-, -, h3, h4⟩ := fc_ok k (by omega)
  refine ⟨st + 1, hX, ?_⟩
  unfold fmR
  rw [fmQ_ok k (by omega), hr, frmR_s (by decide) h1]
  exact frmR_sf ⟨h3, h4⟩ h
/-- the sign by which the reference names a command of the kind k -/
def sgK : Nat → Nat
  | 0 => 106 | 1 => 119 | 2 => 116 | 3 => 98 | 4 => 101 | 5 => 113 | _ => 118
def ngK : Nat → Nat
  | 0 => 4 | 4 => 1 | 5 => 0 | _ => 2
/-- what a command of the class and one of the reference have in common -/
def cmRel (c k : Nat) (A t : Nat → Nat) : Prop := k < 7 ∧ t (5 * c) = sgK k ∧ ∀ i, i < ngK k → A (4 * c + i) = t (5 * c + 1 + i)
/-- a command's reading, by the class and by the reference -/
def rdRel (tx : Nat → Nat) (e c sp : Nat) (A t : Nat → Nat) : Prop :=
  (cmdR tx e sp c 7 0 sp A).1 = (rdR tx e c sp t).1 ∧ ((cmdR tx e sp c 7 0 sp A).2.1 = 0 ↔ (rdR tx e c sp t).2.1 ≠ 0) ∧ (∀ j, j < 4 * c → (cmdR tx e sp c 7 0 sp A).2.2.2 j = A j) ∧ (∀ j, j < 5 * c → (rdR tx e c sp t).2.2 j = t j) ∧
    ((cmdR tx e sp c 7 0 sp A).2.1 ≠ 0 → cmRel c (cmdR tx e sp c 7 0 sp A).2.2.1 (cmdR tx e sp c 7 0 sp A).2.2.2 (rdR tx e c sp t).2.2)
theorem rd_form {tx : Nat → Nat} {e c sp kk : Nat} {A t : Nat → Nat} {L : List (List Nat × Nat × Nat)} (hsp : sp ≤ e) (hkk : kk < 7) (hL : fmQ kk = fmS L) (hok : okL 1 L = true) (hn : L.length = ngK kk)
    (ho : ∀ X, sp ≤ X → (∀ A, (fmR tx e sp c kk A).1 = X) → ∀ j, j < 7 → j ≠ kk → fmX tx e sp c j X) (hx : ∀ A A' : Nat → Nat, (fmR tx e sp c kk A).1 = (fmR tx e sp c kk A').1) (hr : rdR tx e c sp t = seqR tx e c L (sp, 0, rdT tx e c sp t)) (hs : rdT tx e c sp t (5 * c) = sgK kk) : rdRel tx e c sp A t := by
  have hq := fmQ_ok kk hkk
  have hf : fmR tx e sp c kk A = frmR tx e (fmS L) sp (c * 4) A := by unfold fmR; rw [hq, hL]
  obtain ⟨s1, s2, s3, s4⟩ := frm_seq (tx := tx) (e := e) (c := c) L (sp := sp) (pl := c * 4) (A := A) (t := rdT tx e c sp t) hok
  have hkp := seqR_kp (tx := tx) (e := e) (c := c) L (s := (sp, 0, rdT tx e c sp t)) hok
  rw [← hf] at s1 s2 s3 s4
  rw [← hr] at s1 s2 s4 hkp
  rcases hF : fmR tx e sp c kk A with ⟨X, v, A2⟩
  have hge := frmR_ge (tx := tx) (e := e) (fmS L) sp (c * 4) A hsp
  rw [← hf, hF] at hge
  rw [hF] at s1 s2 s3 s4
  have hat := cmd_at hF (ho X hge (fun A' => by rw [hx A' A, hF])) hkk kk 0 sp (by omega) hge
  have ht : ∀ j, j < 5 * c → (rdR tx e c sp t).2.2 j = t j := fun j hj => (hkp j (by omega)).trans (upn_n (by omega))
  by_cases hv : v = 0
  · obtain ⟨a1, a2, a3⟩ := hat.2 hv
    rw [show 7 - 0 = 7 from rfl] at a1 a2 a3
    unfold rdRel
    rw [a1, a2, a3]
    exact ⟨s1, ⟨fun _ => s2.1 hv, fun _ => rfl⟩, fun j hj => s3 j (by omega), ht, fun q => absurd rfl q⟩
  · have a1 := hat.1 hv
    rw [show 7 - 0 = 7 from rfl] at a1
    unfold rdRel
    rw [a1]
    refine ⟨s1, ⟨fun q => absurd (show (1 : Nat) = 0 from q) (by decide), fun q => absurd (s2.2 q) hv⟩, fun j hj => s3 j (by omega), ht, fun _ => ⟨hkk, ?_, fun i hi => ?_⟩⟩
    · exact (hkp (5 * c) (by omega)).trans hs
    · have := s4 hv i (by rw [hn]; exact hi)
      rw [show c * 4 = 4 * c from Nat.mul_comm _ _] at this
      exact this
/-- the place of a form does not hang on what stood in the arguments -/
theorem frmR_x {tx : Nat → Nat} {e : Nat} : ∀ (l : List Nat) (sp pl : Nat) (A A' : Nat → Nat), (frmR tx e l sp pl A).1 = (frmR tx e l sp pl A').1
  | [], sp, pl, A, A' => rfl
  | c :: l, sp, pl, A, A' => by
    by_cases h1 : c ≠ 35 ∧ c ≠ 63
    · by_cases h2 : sp < e ∧ tx sp = c
      · rw [frmR_s h1 h2, frmR_s h1 h2]; exact frmR_x l _ _ A A'
      · rw [frmR_sf h1 h2, frmR_sf h1 h2]
    · by_cases h2 : sp < e ∧ 48 ≤ tx sp ∧ tx sp ≤ 57
      · rw [frmR_d h1 h2, frmR_d h1 h2]; exact frmR_x l _ _ _ _
      · rw [frmR_df h1 h2, frmR_df h1 h2]
theorem fmR_b {tx : Nat → Nat} {e st n k : Nat} {A : Nat → Nat} (hk : k = 3 ∨ k = 4) (h1 : st < e ∧ tx st = 98) : st + 1 ≤ (fmR tx e st n k A).1 := by
  obtain ⟨r, hr⟩ := fm_c2 k hk
  unfold fmR
  rw [fmQ_ok k (by omega), hr, frmR_s (by decide) h1]
  exact frmR_ge _ _ _ _ (by omega)
theorem hr_at {tx : Nat → Nat} {e sp c : Nat} (h : sp < e ∧ tx sp = c) : hrE e tx sp = c + 1 := by rw [hrE_of h.1, h.2]
theorem hr_no {tx : Nat → Nat} {e sp c : Nat} (h : ¬ (sp < e ∧ tx sp = c)) : hrE e tx sp ≠ c + 1 := fun q => h (hrE_eq q)
theorem isE_t {tx : Nat → Nat} {e sp : Nat} (h : sp < e ∧ tx sp = 98) (h2 : sp + 1 < e ∧ tx (sp + 1) = 101) : isE tx e sp = true := decide_eq_true ⟨hr_at h, hr_at h2⟩
theorem isE_f {tx : Nat → Nat} {e sp : Nat} (h : ¬ (sp < e ∧ tx sp = 98 ∧ sp + 1 < e ∧ tx (sp + 1) = 101)) : isE tx e sp = false := by
  refine decide_eq_false (fun q => h ?_)
  have a := hrE_eq q.1; have b := hrE_eq q.2
  exact ⟨a.1, a.2, b.1, b.2⟩
theorem fc1_ne : ∀ j, j < 7 → ∀ k, k < 7 → j ≠ k → ¬ (k = 3 ∨ k = 4) → fc1 j ≠ fc1 k := by decide +kernel
theorem rd_first {tx : Nat → Nat} {e c sp kk : Nat} {A t : Nat → Nat} {L : List (List Nat × Nat × Nat)} (hkk : kk < 7) (hb : ¬ (kk = 3 ∨ kk = 4)) (h1 : sp < e ∧ tx sp = fc1 kk) (hL : fmQ kk = fmS L) (hok : okL 1 L = true) (hn : L.length = ngK kk)
    (hr : rdR tx e c sp t = seqR tx e c L (sp, 0, rdT tx e c sp t)) (hs : rdT tx e c sp t (5 * c) = sgK kk) : rdRel tx e c sp A t :=
  rd_form (by omega) hkk hL hok hn (fun X hX _ j hj hne => fmX_1 hj (fun q => fc1_ne j hj kk hkk hne hb (by rw [← q.2, h1.2])) hX) (fun A A' => frmR_x _ _ _ _ _) hr hs
theorem rd_rel {tx : Nat → Nat} {e c sp : Nat} {A t : Nat → Nat} (hsp : sp ≤ e) : rdRel tx e c sp A t := by
  by_cases hj : sp < e ∧ tx sp = 106
  · have he : hrE e tx sp = 107 := hr_at hj
    have hi : isE tx e sp = false := isE_f (by omega)
    refine rd_first (kk := 0) (L := LJ9) (by decide) (by decide) hj rfl (by decide +kernel) rfl ?_ ?_
    · unfold rdR; rw [if_pos he]
    · unfold rdT; rw [upn_s, hi, he]; rfl
  have nj : ¬ hrE e tx sp = 107 := hr_no hj
  by_cases hw : sp < e ∧ tx sp = 119
  · have he : hrE e tx sp = 120 := hr_at hw
    have hi : isE tx e sp = false := isE_f (by omega)
    refine rd_first (kk := 1) (L := LW9 "wind ") (by decide) (by decide) hw rfl (by decide +kernel) rfl ?_ ?_
    · unfold rdR; rw [if_neg nj, if_pos he]
    · unfold rdT; rw [upn_s, hi, he]; rfl
  have nw : ¬ hrE e tx sp = 120 := hr_no hw
  by_cases ht : sp < e ∧ tx sp = 116
  · have he : hrE e tx sp = 117 := hr_at ht
    have hi : isE tx e sp = false := isE_f (by omega)
    refine rd_first (kk := 2) (L := LW9 "tune ") (by decide) (by decide) ht rfl (by decide +kernel) rfl ?_ ?_
    · unfold rdR; rw [if_neg nj, if_neg nw, if_pos he]
    · unfold rdT; rw [upn_s, hi, he]; rfl
  have nt : ¬ hrE e tx sp = 117 := hr_no ht
  by_cases hb : sp < e ∧ tx sp = 98
  · have he : hrE e tx sp = 99 := hr_at hb
    by_cases h2 : sp + 1 < e ∧ tx (sp + 1) = 101
    · have hi : isE tx e sp = true := isE_t hb h2
      refine rd_form (kk := 4) (L := LE9) hsp (by decide) rfl (by decide +kernel) rfl (fun X hX hXA j hj7 hne => ?_) (fun A A' => frmR_x _ _ _ _ _) ?_ ?_
      · by_cases h3 : j = 3
        · subst h3
          exact fmX_2 (Or.inl rfl) hb (fun q => by have := q.2.symm.trans h2.2; exact absurd this (by decide)) (by rw [← hXA A]; exact fmR_b (Or.inr rfl) hb)
        · exact fmX_1 hj7 (fun q => by have h9 : fc1 j = 98 := by rw [← q.2, hb.2]
                                       have h8 : ∀ j, j < 7 → j ≠ 3 → j ≠ 4 → fc1 j ≠ 98 := by decide +kernel
                                       exact h8 j hj7 h3 hne h9) hX
      · unfold rdR; rw [if_neg nj, if_neg nw, if_neg nt, if_pos he, if_pos hi]
      · unfold rdT; rw [upn_s, if_pos hi]; rfl
    · have hi : isE tx e sp = false := isE_f (fun q => h2 ⟨q.2.2.1, q.2.2.2⟩)
      refine rd_form (kk := 3) (L := LW9 "buy ") hsp (by decide) rfl (by decide +kernel) rfl (fun X hX hXA j hj7 hne => ?_) (fun A A' => frmR_x _ _ _ _ _) ?_ ?_
      · by_cases h3 : j = 4
        · subst h3
          exact fmX_2 (Or.inr rfl) hb h2 (by rw [← hXA A]; exact fmR_b (Or.inl rfl) hb)
        · exact fmX_1 hj7 (fun q => by have h9 : fc1 j = 98 := by rw [← q.2, hb.2]
                                       have h8 : ∀ j, j < 7 → j ≠ 3 → j ≠ 4 → fc1 j ≠ 98 := by decide +kernel
                                       exact h8 j hj7 hne h3 h9) hX
      · unfold rdR; rw [if_neg nj, if_neg nw, if_neg nt, if_pos he, hi]; rfl
      · unfold rdT; rw [upn_s, hi, he]; rfl
  have nb : ¬ hrE e tx sp = 99 := hr_no hb
  have hi : isE tx e sp = false := isE_f (fun q => hb ⟨q.1, q.2.1⟩)
  by_cases hq : sp < e ∧ tx sp = 113
  · have he : hrE e tx sp = 114 := hr_at hq
    have hr : rdR tx e c sp t = ((sayR tx e (tl "quarter") sp 0).1, (sayR tx e (tl "quarter") sp 0).2, rdT tx e c sp t) := by unfold rdR; rw [if_neg nj, if_neg nw, if_neg nt, if_neg nb, if_pos he]
    have hpl : plainS (tl "quarter") = true := by decide +kernel
    have hfm : ∀ A, fmR tx e sp c 5 A = ((sayR tx e (tl "quarter") sp 0).1, (if (sayR tx e (tl "quarter") sp 0).2 = 0 then 1 else 0), A) := by
      intro A
      unfold fmR
      rw [fmQ_ok 5 (by decide), show fmQ 5 = tl "quarter" ++ [] from (List.append_nil _).symm, frm_say _ hpl]
      split <;> rfl
    have hge := (sayR_le (tx := tx) (l := tl "quarter") (w := 0) hsp)
    have hat := cmd_at (hfm A) (fun j hj7 hne => fmX_1 hj7 (fun q => fc1_ne j hj7 5 (by decide) hne (by decide) (by rw [← q.2, hq.2]; rfl)) hge.1) (by decide) 5 0 sp rfl hge.1
    have ht9 : ∀ j, j < 5 * c → rdT tx e c sp t j = t j := fun j hj => upn_n (by omega)
    unfold rdRel
    rw [hr]
    by_cases hv : (sayR tx e (tl "quarter") sp 0).2 = 0
    · have a1 := hat.1 (by rw [if_pos hv]; decide)
      rw [show 7 - 0 = 7 from rfl] at a1
      rw [a1]
      refine ⟨rfl, ⟨fun q => absurd (show (1 : Nat) = 0 from q) (by decide), fun q => absurd hv q⟩, fun _ _ => rfl, ht9, fun _ => ⟨by show 5 < 7; decide, ?_, fun i hi => absurd hi (Nat.not_lt_zero _)⟩⟩
      show rdT tx e c sp t (5 * c) = 113
      unfold rdT; rw [upn_s, hi, he]; rfl
    · obtain ⟨a1, a2, a3⟩ := hat.2 (by rw [if_neg hv])
      rw [show 7 - 0 = 7 from rfl] at a1 a2 a3
      rw [a1, a2, a3]
      exact ⟨rfl, ⟨fun _ => hv, fun _ => rfl⟩, fun _ _ => rfl, ht9, fun q => absurd rfl q⟩
  have nq : ¬ hrE e tx sp = 114 := hr_no hq
  by_cases hv : sp < e ∧ tx sp = 118
  · have he : hrE e tx sp = 119 := hr_at hv
    refine rd_first (kk := 6) (L := LV9) (by decide) (by decide) hv rfl (by decide +kernel) rfl ?_ ?_
    · unfold rdR; rw [if_neg nj, if_neg nw, if_neg nt, if_neg nb, if_neg nq, if_pos he]
    · unfold rdT; rw [upn_s, hi, he]; rfl
  have nv : ¬ hrE e tx sp = 119 := hr_no hv
  have hr : rdR tx e c sp t = (sp, 1, rdT tx e c sp t) := by unfold rdR; rw [if_neg nj, if_neg nw, if_neg nt, if_neg nb, if_neg nq, if_neg nv]
  obtain ⟨a1, a2, a3⟩ := cmd_late (tx := tx) (e := e) (st := sp) (n := c) (X := sp) 7 0 sp A (Nat.le_refl _) (fun j _ hj7 => fmX_1 (by omega) (fun q => by
    have h9 : ∀ j, j < 7 → fc1 j = 106 ∨ fc1 j = 119 ∨ fc1 j = 116 ∨ fc1 j = 98 ∨ fc1 j = 113 ∨ fc1 j = 118 := by decide +kernel
    have := h9 j (by omega)
    rw [← q.2] at this
    have := q.1
    omega) (Nat.le_refl _))
  unfold rdRel
  rw [hr, a1, a2, a3]
  exact ⟨rfl, ⟨fun _ => by show (1 : Nat) ≠ 0; decide, fun _ => rfl⟩, fun _ _ => rfl, fun j hj => upn_n (by omega), fun q => absurd rfl q⟩
/-- two programs read: the place, whether it is one, and then their commands -/
def prRel (P : Nat × Nat × Nat × (Nat → Nat) × (Nat → Nat)) (T : Nat × Nat × Nat × (Nat → Nat)) : Prop :=
  P.2.1 = T.2.1 ∧ (P.2.2.1 = 0 ↔ T.2.2.1 = 0) ∧ (P.2.2.1 = 0 → P.1 = T.1 ∧ P.1 ≤ 7 ∧ ∀ i, i < P.1 → cmRel i (P.2.2.2.2 i) P.2.2.2.1 T.2.2.2)
theorem ng_4 (k : Nat) : ngK k ≤ 4 := by unfold ngK; split <;> decide
theorem cmRel_keep {c i k : Nat} {A A2 t t2 : Nat → Nat} (h : cmRel i k A t) (hi : i < c) (hA : ∀ j, j < 4 * c → A2 j = A j) (ht : ∀ j, j < 5 * c → t2 j = t j) : cmRel i k A2 t2 := by
  obtain ⟨h1, h2, h3⟩ := h
  refine ⟨h1, (ht _ (by omega)).trans h2, fun j hj => ?_⟩
  have := ng_4 k
  rw [hA _ (by omega), ht _ (by omega)]
  exact h3 j hj
theorem prg_rel {tx : Nat → Nat} {e : Nat} (he : e ≤ 60) : ∀ (f f2 c sp : Nat) (A K t : Nat → Nat), c + f = 8 → f ≤ f2 → sp ≤ e → 8 * c ≤ sp → (∀ i, i < c → cmRel i (K i) A t) → prRel (parR tx e f c sp A K) (prgR tx e f2 c sp t)
  | 0, f2, c, sp, A, K, t, hc, _, hs, h8, _ => by omega
  | f + 1, 0, c, sp, A, K, t, hc, hf, hs, h8, hr => by omega
  | f + 1, f2 + 1, c, sp, A, K, t, hc, hf, hs, h8, hr => by
    obtain ⟨r1, r2, r3, r4, r5⟩ := rd_rel (tx := tx) (e := e) (c := c) (sp := sp) (A := A) (t := t) hs
    have hp := rdR_p (tx := tx) (e := e) (c := c) (sp := sp) (t := t) hs
    have hle := rdR_le (tx := tx) (e := e) (c := c) (sp := sp) (t := t) hs
    rcases hC : cmdR tx e sp c 7 0 sp A with ⟨x, v, k, A2⟩
    rcases hR : rdR tx e c sp t with ⟨x2, w, t2⟩
    rw [hC] at r1 r2 r3 r5
    rw [hR] at r1 r2 r4 r5 hp hle
    obtain rfl : x = x2 := r1
    have r2 : v = 0 ↔ w ≠ 0 := r2
    have hp : w = 0 → sp + 7 ≤ x ∧ _ := hp
    have hle : sp ≤ x ∧ x ≤ e ∧ _ := hle
    rw [prgR_s hR]
    by_cases hv : v = 0
    · subst hv
      have hw : w ≠ 0 := r2.1 rfl
      rw [parR_f hC, if_neg (fun q => hw q.1)]
      exact ⟨rfl, ⟨fun q => absurd (show (2 : Nat) = 0 from q) (by decide), fun q => absurd q hw⟩, fun q => absurd (show (2 : Nat) = 0 from q) (by decide)⟩
    · have hw : w = 0 := Decidable.byContradiction (fun q => hv (r2.2 q))
      subst hw
      have hcm := r5 hv
      have hn : ∀ i, i < c + 1 → cmRel i (upn K c k i) A2 t2 := by
        intro i hi
        by_cases h9 : i = c
        · subst h9; rw [upn_s]; exact hcm
        · rw [upn_n h9]; exact cmRel_keep (hr i (by omega)) (show i < c by omega) r3 r4
      rw [parR_s hC hv]
      by_cases hs9 : x < e ∧ tx x = 59
      · rw [if_pos (decide_eq_true hs9), if_pos hs9, if_pos ⟨rfl, by rw [hrE_of hs9.1, hs9.2]⟩]
        exact prg_rel he f f2 (c + 1) (x + 1) A2 (upn K c k) t2 (by omega) (by omega) (by omega) (by have := (hp rfl).1; omega) hn
      · rw [decide_eq_false hs9, if_neg (show ¬ (false = true) by decide), if_neg hs9, if_neg (show ¬ ((0 : Nat) = 0 ∧ hrE e tx x = 60) from fun q => hs9 (hrE_eq (c := 59) q.2))]
        exact ⟨rfl, ⟨fun _ => rfl, fun _ => rfl⟩, fun _ => ⟨rfl, by show c + 1 ≤ 7; have := (hp rfl).1; omega, hn⟩⟩
