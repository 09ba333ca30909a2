/-! the class and the reference stand alike -/
def RS9 (B : Nat) (w : Nat → Nat) (g2 : GG) (z : Nat → Nat) (gs : Nat → GG) : Prop := w 0 = z 2 ∧ w 0 ≤ 1 ∧ (w 0 ≠ 0 → gs 1 = g2 ∧ IB B g2)
def RH9 (B : Nat) (hg : Nat → GG) (nx ct : Nat) (z : Nat → Nat) (gs : Nat → GG) : Prop := nx < 8 ∧ ct ≤ 8 ∧ z 1 = ct ∧ ∀ i, i < ct → gs (3 + i) = hg ((nx + 8 - ct + i) % 8) ∧ IB B (hg ((nx + 8 - ct + i) % 8))
def RW9 (w z : Nat → Nat) : Prop := w 1 = z 5 ∧ w 2 = z 6 ∧ z 5 ≤ 1000 ∧ z 6 ≤ 1000
def RP9 (q : Nat → Nat) (F : GG) (z : Nat → Nat) (ar : GG) : Prop := q 0 = z 3 ∧ q 0 ≤ 60 ∧ F 0 = ar 0 ∧ ∀ j, F 0 j < 65536
def RN9 (n cp : Nat) (t z : Nat → Nat) (ar : GG) : Prop := n = z 4 ∧ n ≤ cp ∧ (cp = 16 ∨ cp = 34) ∧ (∀ j, t j < 128) ∧ (∀ j, j < n → t j = ar 2 j) ∧ ∀ j, ar 2 j < 65536
def REL (B : Nat) (w : Nat → Nat) (g g2 : GG) (hg : Nat → GG) (nx ct : Nat) (q : Nat → Nat) (F : GG) (n cp : Nat) (t z : Nat → Nat) (gs : Nat → GG) (ar : GG) : Prop :=
  IB B g ∧ RS9 B w g2 z gs ∧ RH9 B hg nx ct z gs ∧ RW9 w z ∧ RP9 q F z ar ∧ RN9 n cp t z ar
theorem rs_to {B B' : Nat} {w : Nat → Nat} {g2 : GG} {z z' : Nat → Nat} {gs gs' : Nat → GG} (h : RS9 B w g2 z gs) (hB : B ≤ B') (h3 : B' ≤ 300000) (hz : z' 2 = z 2) (hg : gs' 1 = gs 1) : RS9 B' w g2 z' gs' :=
  ⟨h.1.trans hz.symm, h.2.1, fun q => ⟨hg.trans (h.2.2 q).1, (h.2.2 q).2.le hB h3⟩⟩
theorem rh_to {B B' : Nat} {hg : Nat → GG} {nx ct : Nat} {z z' : Nat → Nat} {gs gs' : Nat → GG} (h : RH9 B hg nx ct z gs) (hB : B ≤ B') (h3 : B' ≤ 300000) (hz : z' 1 = z 1) (hg3 : ∀ i, gs' (3 + i) = gs (3 + i)) : RH9 B' hg nx ct z' gs' :=
  ⟨h.1, h.2.1, hz.trans h.2.2.1, fun i hi => ⟨(hg3 i).trans (h.2.2.2 i hi).1, (h.2.2.2 i hi).2.le hB h3⟩⟩
theorem rel_to {B B' : Nat} {w : Nat → Nat} {g g2 : GG} {hg : Nat → GG} {nx ct : Nat} {q : Nat → Nat} {F : GG} {n cp : Nat} {t z z' : Nat → Nat} {gs gs' : Nat → GG} {ar : GG} (h : REL B w g g2 hg nx ct q F n cp t z gs ar) (hB : B ≤ B') (h3 : B' ≤ 300000)
    (hz : ∀ k, 1 ≤ k → k ≤ 6 → z' k = z k) (hg1 : gs' 1 = gs 1) (hg3 : ∀ i, gs' (3 + i) = gs (3 + i)) : REL B' w g g2 hg nx ct q F n cp t z' gs' ar := by
  obtain ⟨h1, h2, h4, h5, h6, h7⟩ := h
  have z1 := hz 1 (by decide) (by decide)
  have z2 := hz 2 (by decide) (by decide)
  have z3 := hz 3 (by decide) (by decide)
  have z4 := hz 4 (by decide) (by decide)
  have z5 := hz 5 (by decide) (by decide)
  have z6 := hz 6 (by decide) (by decide)
  refine ⟨h1.le hB h3, rs_to h2 hB h3 z2 hg1, rh_to h4 hB h3 z1 hg3, ?_, ?_, ?_⟩
  · unfold RW9 at h5 ⊢; rw [z5, z6]; exact h5
  · unfold RP9 at h6 ⊢; rw [z3]; exact h6
  · unfold RN9 at h7 ⊢; rw [z4]; exact h7
theorem z_up {z : Nat → Nat} {c : Nat} : ∀ k, 1 ≤ k → k ≤ 6 → upn z 0 c k = z k := fun k h1 _ => upn_n (by omega)
theorem z_up2 {z : Nat → Nat} {c d : Nat} : ∀ k, 1 ≤ k → k ≤ 6 → upn (upn z 0 c) 0 d k = z k := fun k h1 _ => (upn_n (by omega)).trans (upn_n (by omega))
/-- a query -/
theorem rel_q {B : Nat} {w : Nat → Nat} {g g2 : GG} {hg : Nat → GG} {nx ct : Nat} {q : Nat → Nat} {F : GG} {n cp : Nat} {t z : Nat → Nat} {gs : Nat → GG} {ar : GG} {c : Nat} (h : REL B w g g2 hg nx ct q F n cp t z gs ar) (h3 : B + 420 ≤ 300000) : REL (B + 420) w g g2 hg nx ct q F n cp t (upn z 0 c) gs ar :=
  rel_to h (by omega) h3 z_up rfl (fun _ => rfl)
theorem upa_n {α : Type} {f : Nat → α} {k j : Nat} {v : α} (h : j ≠ k) : upa f k v j = f j := if_neg h
theorem upa_s {α : Type} {f : Nat → α} {k : Nat} {v : α} : upa f k v k = v := if_pos rfl
/-- a refused change -/
theorem rel_f {B : Nat} {w : Nat → Nat} {g g2 : GG} {hg : Nat → GG} {nx ct : Nat} {q : Nat → Nat} {F : GG} {n cp : Nat} {t z : Nat → Nat} {gs : Nat → GG} {ar : GG} {Fl k ans : Nat} (h : REL B w g g2 hg nx ct q F n cp t z gs ar) (h3 : B + 420 ≤ 300000) (hf : Fl ≠ 0) : REL (B + 420) w g g2 hg nx ct q F n cp t (mchZ Fl k ans z) (mchS Fl (z 1) g gs) ar := by
  have e1 : mchZ Fl k ans z = upn (upn z 0 0) 0 (Fl - k) := if_neg hf
  have e2 : mchS Fl (z 1) g gs = upa gs 0 g := if_neg hf
  rw [e1, e2]
  exact rel_to h (by omega) h3 z_up2 (upa_n (by decide)) (fun i => upa_n (by omega))
theorem mchZ_0 {Fl k ans : Nat} {z : Nat → Nat} (h : Fl = 0) : mchZ Fl k ans z 0 = 0 := by
  rw [show mchZ Fl k ans z = upn (upn (upn z 0 0) 7 ans) 1 (chK (z 1)) from if_pos h, upn_n (by decide), upn_n (by decide), upn_s]
theorem mchZ_1 {Fl k ans : Nat} {z : Nat → Nat} (h : Fl ≠ 0) : mchZ Fl k ans z 0 = Fl - k := by
  rw [show mchZ Fl k ans z = upn (upn z 0 0) 0 (Fl - k) from if_neg h, upn_s]
/-- the ring and the rows, after a change -/
theorem rh_m {B : Nat} {g : GG} {hg : Nat → GG} {nx ct : Nat} {z z' : Nat → Nat} {gs : Nat → GG} (h : RH9 B hg nx ct z gs) (hI : IB B g) (h3 : B + 420 ≤ 300000) (hz : z' 1 = chK (z 1)) : RH9 (B + 420) (upa hg nx g) ((nx + 1) % 8) (if 8 < ct + 1 then 8 else ct + 1) z' (chS (z 1) (upa gs 0 g)) := by
  obtain ⟨h1, h2, rfl, h4⟩ := h
  have hk : chK (z 1) = if 8 < z 1 + 1 then 8 else z 1 + 1 := by unfold chK; split <;> split <;> omega
  refine ⟨by omega, by split <;> omega, hz.trans hk, fun i hi => ?_⟩
  unfold chS
  rw [hk]
  by_cases c8 : z 1 = 8
  · rw [if_pos (by omega)] at hi ⊢
    by_cases e : i = 7
    · subst e
      rw [show (2 + 8 : Nat) = 3 + 7 from rfl, upa_s, upa_s, show ((nx + 1) % 8 + 8 - 8 + 7) % 8 = nx by omega, upa_s]
      exact ⟨rfl, hI.le (by omega) h3⟩
    · rw [upa_n (by omega), if_pos ⟨c8, by omega, by omega⟩, upa_n (by omega), show 3 + i + 1 = 3 + (i + 1) by omega, upa_n (by omega)]
      have := h4 (i + 1) (by omega)
      rw [show (nx + 8 - z 1 + (i + 1)) % 8 = ((nx + 1) % 8 + 8 - 8 + i) % 8 by omega] at this
      exact ⟨this.1, this.2.le (by omega) h3⟩
  · rw [if_neg (by omega)] at hi ⊢
    by_cases e : i = z 1
    · subst e
      rw [show 2 + (z 1 + 1) = 3 + z 1 by omega, upa_s, upa_s, show ((nx + 1) % 8 + 8 - (z 1 + 1) + z 1) % 8 = nx by omega, upa_s]
      exact ⟨rfl, hI.le (by omega) h3⟩
    · rw [upa_n (by omega), if_neg (by omega), upa_n (by omega), upa_n (by omega)]
      have := h4 i (by omega)
      rw [show (nx + 8 - z 1 + i) % 8 = ((nx + 1) % 8 + 8 - (z 1 + 1) + i) % 8 by omega] at this
      exact ⟨this.1, this.2.le (by omega) h3⟩
theorem rel_m0 {B : Nat} {w : Nat → Nat} {g g' g2 : GG} {hg : Nat → GG} {nx ct : Nat} {q : Nat → Nat} {F : GG} {n cp : Nat} {t z z' : Nat → Nat} {gs : Nat → GG} {ar : GG} (h : REL B w g g2 hg nx ct q F n cp t z gs ar) (h3 : B + 420 ≤ 300000) (hI : IB (B + 420) g') (hz1 : z' 1 = chK (z 1)) (hz : ∀ k, 2 ≤ k → k ≤ 6 → z' k = z k) :
    REL (B + 420) w g' g2 (upa hg nx g) ((nx + 1) % 8) (if 8 < ct + 1 then 8 else ct + 1) q F n cp t z' (chS (z 1) (upa gs 0 g)) ar := by
  obtain ⟨h1, h2, h4, h5, h6, h7⟩ := h
  have z2 := hz 2 (by decide) (by decide)
  have z3 := hz 3 (by decide) (by decide)
  have z4 := hz 4 (by decide) (by decide)
  have z5 := hz 5 (by decide) (by decide)
  have z6 := hz 6 (by decide) (by decide)
  have hg1 : chS (z 1) (upa gs 0 g) 1 = gs 1 := by
    unfold chS
    rw [upa_n (by omega), if_neg (by omega), upa_n (by decide)]
  refine ⟨hI, rs_to h2 (by omega) h3 z2 hg1, rh_m h4 h1 h3 hz1, ?_, ?_, ?_⟩
  · unfold RW9 at h5 ⊢; rw [z5, z6]; exact h5
  · unfold RP9 at h6 ⊢; rw [z3]; exact h6
  · unfold RN9 at h7 ⊢; rw [z4]; exact h7
/-- a change -/
theorem rel_m {B : Nat} {w : Nat → Nat} {g g' g2 : GG} {hg : Nat → GG} {nx ct : Nat} {q : Nat → Nat} {F : GG} {n cp : Nat} {t z : Nat → Nat} {gs : Nat → GG} {ar : GG} {Fl k ans : Nat} (h : REL B w g g2 hg nx ct q F n cp t z gs ar) (h3 : B + 420 ≤ 300000) (hf : Fl = 0) (hI : IB (B + 420) g') :
    REL (B + 420) w g' g2 (upa hg nx g) ((nx + 1) % 8) (if 8 < ct + 1 then 8 else ct + 1) q F n cp t (mchZ Fl k ans z) (mchS Fl (z 1) g gs) ar := by
  rw [show mchZ Fl k ans z = upn (upn (upn z 0 0) 7 ans) 1 (chK (z 1)) from if_pos hf, show mchS Fl (z 1) g gs = chS (z 1) (upa gs 0 g) from if_pos hf]
  exact rel_m0 h h3 hI upn_s (fun k h1 h2 => by rw [upn_n (by omega), upn_n (by omega), upn_n (by omega)])
/-- taken back -/
theorem rel_u {B : Nat} {w : Nat → Nat} {g g2 : GG} {hg : Nat → GG} {nx ct : Nat} {q : Nat → Nat} {F : GG} {n cp : Nat} {t z : Nat → Nat} {gs : Nat → GG} {ar : GG} (h : REL B w g g2 hg nx ct q F n cp t z gs ar) (h3 : B + 420 ≤ 300000) (hc : ct ≠ 0) :
    gs (3 + (z 1 - 1)) = hg ((nx + 8 - 1) % 8) ∧ REL (B + 420) w (hg ((nx + 8 - 1) % 8)) g2 hg ((nx + 8 - 1) % 8) (ct - 1) q F n cp t (upn (upn z 0 0) 1 (z 1 - 1)) gs ar := by
  obtain ⟨h1, h2, ⟨k1, k2, k3, k4⟩, h5, h6, h7⟩ := h
  have hl := k4 (ct - 1) (by omega)
  rw [show (nx + 8 - ct + (ct - 1)) % 8 = (nx + 8 - 1) % 8 by omega] at hl
  have zz : ∀ k, 2 ≤ k → upn (upn z 0 0) 1 (z 1 - 1) k = z k := fun k h => by rw [upn_n (by omega), upn_n (by omega)]
  refine ⟨by rw [k3]; exact hl.1, hl.2.le (by omega) h3, rs_to h2 (by omega) h3 (zz 2 (by decide)) rfl, ⟨by omega, by omega, by rw [upn_s, k3], fun i hi => ?_⟩, ?_, ?_, ?_⟩
  · have := k4 i (by omega)
    rw [show (nx + 8 - ct + i) % 8 = ((nx + 8 - 1) % 8 + 8 - (ct - 1) + i) % 8 by omega] at this
    exact ⟨this.1, this.2.le (by omega) h3⟩
  · unfold RW9 at h5 ⊢; rw [zz 5 (by decide), zz 6 (by decide)]; exact h5
  · unfold RP9 at h6 ⊢; rw [zz 3 (by decide)]; exact h6
  · unfold RN9 at h7 ⊢; rw [zz 4 (by decide)]; exact h7
/-- saved -/
theorem rel_s {B : Nat} {w : Nat → Nat} {g g2 : GG} {hg : Nat → GG} {nx ct : Nat} {q : Nat → Nat} {F : GG} {n cp : Nat} {t z : Nat → Nat} {gs : Nat → GG} {ar : GG} (h : REL B w g g2 hg nx ct q F n cp t z gs ar) (h3 : B + 420 ≤ 300000) :
    REL (B + 420) (upn w 0 1) g g hg nx ct q F n cp t (upn (upn z 0 0) 2 1) (upa gs 1 g) ar := by
  obtain ⟨h1, h2, h4, h5, h6, h7⟩ := h
  have zz : ∀ k, k ≠ 0 → k ≠ 2 → upn (upn z 0 0) 2 1 k = z k := fun k h h9 => by rw [upn_n h9, upn_n h]
  refine ⟨h1.le (by omega) h3, ⟨by rw [upn_s, upn_s], by rw [upn_s]; decide, fun _ => ⟨upa_s, h1.le (by omega) h3⟩⟩, rh_to h4 (by omega) h3 (zz 1 (by decide) (by decide)) (fun i => upa_n (by omega)), ?_, ?_, ?_⟩
  · unfold RW9 at h5 ⊢; rw [zz 5 (by decide) (by decide), zz 6 (by decide) (by decide), upn_n (by decide), upn_n (by decide)]; exact h5
  · unfold RP9 at h6 ⊢; rw [zz 3 (by decide) (by decide)]; exact h6
  · unfold RN9 at h7 ⊢; rw [zz 4 (by decide) (by decide)]; exact h7
/-- restored -/
theorem rel_r {B : Nat} {w : Nat → Nat} {g g2 : GG} {hg : Nat → GG} {nx ct : Nat} {q : Nat → Nat} {F : GG} {n cp : Nat} {t z : Nat → Nat} {gs : Nat → GG} {ar : GG} (h : REL B w g g2 hg nx ct q F n cp t z gs ar) (h3 : B + 420 ≤ 300000) (hw : w 0 ≠ 0) :
    gs 1 = g2 ∧ REL (B + 420) w g2 g2 hg nx 0 q F n cp t (upn (upn z 0 0) 1 0) gs ar := by
  obtain ⟨h1, h2, h4, h5, h6, h7⟩ := h
  have zz : ∀ k, 2 ≤ k → upn (upn z 0 0) 1 0 k = z k := fun k h => by rw [upn_n (by omega), upn_n (by omega)]
  have hs := h2.2.2 hw
  refine ⟨hs.1, hs.2.le (by omega) h3, rs_to h2 (by omega) h3 (zz 2 (by decide)) rfl, ⟨h4.1, Nat.zero_le _, upn_s, fun i hi => absurd hi (Nat.not_lt_zero _)⟩, ?_, ?_, ?_⟩
  · unfold RW9 at h5 ⊢; rw [zz 5 (by decide), zz 6 (by decide)]; exact h5
  · unfold RP9 at h6 ⊢; rw [zz 3 (by decide)]; exact h6
  · unfold RN9 at h7 ⊢; rw [zz 4 (by decide)]; exact h7
/-- a sign is put behind the text -/
theorem rel_a {B : Nat} {w : Nat → Nat} {g g2 : GG} {hg : Nat → GG} {nx ct : Nat} {q : Nat → Nat} {F : GG} {n cp : Nat} {t z : Nat → Nat} {gs : Nat → GG} {ar : GG} {n0 : Nat} (h : REL B w g g2 hg nx ct q F n cp t z gs ar) (h3 : B + 420 ≤ 300000) (hq : q 0 < 60) (hn : n0 < 65536) :
    REL (B + 420) w g g2 hg nx ct (upn q 0 (q 0 + 1)) (upr F 0 (upn (F 0) (q 0) n0)) n cp t (upn (upn z 0 0) 3 (z 3 + 1)) gs (upr ar 0 (upn (ar 0) (z 3) n0)) := by
  obtain ⟨h1, h2, h4, h5, ⟨a1, a2, a3, a4⟩, h7⟩ := h
  have zz : ∀ k, k ≠ 0 → k ≠ 3 → upn (upn z 0 0) 3 (z 3 + 1) k = z k := fun k h h9 => by rw [upn_n h9, upn_n h]
  refine ⟨h1.le (by omega) h3, rs_to h2 (by omega) h3 (zz 2 (by decide) (by decide)) rfl, rh_to h4 (by omega) h3 (zz 1 (by decide) (by decide)) (fun _ => rfl), ?_, ⟨?_, ?_, ?_, ?_⟩, ?_⟩
  · unfold RW9 at h5 ⊢; rw [zz 5 (by decide) (by decide), zz 6 (by decide) (by decide)]; exact h5
  · rw [upn_s, upn_s, a1]
  · rw [upn_s]; omega
  · rw [upr_s, upr_s, a1, a3]
  · intro j; rw [upr_s]; unfold upn; split; exact hn; exact a4 j
  · unfold RN9 at h7 ⊢; rw [zz 4 (by decide) (by decide), upr_n (by decide)]; exact h7
/-- a member is written -/
theorem putL_lt {M : Nat} : ∀ {f : Nat → Nat} {p : Nat} {L : List Nat}, (∀ j, f j < M) → (∀ c ∈ L, c < M) → ∀ j, putL f p L j < M
  | _, _, [], h, _, j => h j
  | f, p, c :: L, h, hL, j => by
    show putL (upn f p c) (p + 1) L j < M
    exact putL_lt (fun i => by unfold upn; split; exact hL c List.mem_cons_self; exact h i) (fun d hd => hL d (List.mem_cons_of_mem _ hd)) j
theorem memL_lt {g : GG} {m : Nat} : ∀ c ∈ memL g m, c < 65536 := by
  intro c hc
  unfold memL at hc
  simp only [List.mem_append, List.mem_cons] at hc
  rcases hc with h | h | h | h | h | h | h | h | h | h | h <;> first | (have := dgs_lt c h; omega) | omega
theorem rel_wm {B : Nat} {w : Nat → Nat} {g g2 : GG} {hg : Nat → GG} {nx ct : Nat} {q : Nat → Nat} {F : GG} {n cp cp' : Nat} {t t' z : Nat → Nat} {gs : Nat → GG} {ar : GG} {m : Nat} (h : REL B w g g2 hg nx ct q F n cp t z gs ar) (h3 : B + 420 ≤ 300000) (hT : TX t' (memL g m)) (hl : (memL g m).length ≤ cp') (hc : cp' = 16 ∨ cp' = 34) (ht : ∀ j, t' j < 128) :
    REL (B + 420) w g g2 hg nx ct q F (memL g m).length cp' t' (upn (upn z 0 0) 4 (memL g m).length) gs (upr ar 2 (putL (ar 2) 0 (memL g m))) := by
  obtain ⟨h1, h2, h4, h5, h6, a1, a2, a3, a4, a5, a6⟩ := h
  have zz : ∀ k, k ≠ 0 → k ≠ 4 → upn (upn z 0 0) 4 (memL g m).length k = z k := fun k h h9 => by rw [upn_n h9, upn_n h]
  refine ⟨h1.le (by omega) h3, rs_to h2 (by omega) h3 (zz 2 (by decide) (by decide)) rfl, rh_to h4 (by omega) h3 (zz 1 (by decide) (by decide)) (fun _ => rfl), ?_, ?_, ⟨upn_s.symm, hl, hc, ht, ?_, ?_⟩⟩
  · unfold RW9 at h5 ⊢; rw [zz 5 (by decide) (by decide), zz 6 (by decide) (by decide)]; exact h5
  · unfold RP9 at h6 ⊢; rw [zz 3 (by decide) (by decide), upr_n (by decide)]; exact h6
  · intro j hj
    have e := putL_at (f := ar 2) (p := 0) hj
    rw [Nat.zero_add] at e
    rw [upr_s, hT j hj, e]
  · intro j; rw [upr_s]; exact putL_lt a6 memL_lt j
/-- run: its places -/
theorem prgR_le {tx : Nat → Nat} {e : Nat} : ∀ (f c sp : Nat) (t : Nat → Nat), sp ≤ e → (prgR tx e f c sp t).2.1 ≤ e ∧ (prgR tx e f c sp t).1 ≤ c + f
  | 0, c, sp, t, h => ⟨h, Nat.le_refl _⟩
  | f + 1, c, sp, t, h => by
    have h1 := (rdR_le (tx := tx) (e := e) (c := c) (t := t) h).2.1
    show (if _ then _ else _ : Nat × Nat × Nat × (Nat → Nat)).2.1 ≤ e ∧ (if _ then _ else _ : Nat × Nat × Nat × (Nat → Nat)).1 ≤ _
    split
    · rename_i hc
      have h2 := (hrE_eq (e := e) (tx := tx) (sp := (rdR tx e c sp t).1) (c := 59) hc.2).1
      have := prgR_le (tx := tx) (e := e) f (c + 1) ((rdR tx e c sp t).1 + 1) (rdR tx e c sp t).2.2 (by omega)
      exact ⟨this.1, by omega⟩
    · exact ⟨h1, by show c + 1 ≤ c + (f + 1); omega⟩
theorem exG_IB {B : Nat} {g : GG} {t : Nat → Nat} (h : IB B g) : ∀ k, (∀ j, j < k → exF g t j = 0) → B + 60 * k ≤ 300000 → IB (B + 60 * k) (exG g t k)
  | 0, _, _ => h
  | k + 1, hf, hB => by
    have h1 := exG_IB h k (fun j hj => hf j (by omega)) (by omega)
    have := IB_do h1 (hf k (Nat.lt_succ_self k)) (by omega)
    rw [show B + 60 * k + 60 = B + 60 * (k + 1) by omega] at this
    exact this
theorem fst1_min {p : Nat → Bool} {j : Nat} (hj : p j = true) : ∀ {n : Nat}, j < n → fst1 p n ≤ j
  | 0, h => absurd h (Nat.not_lt_zero _)
  | n + 1, h => by
    show (if fst1 p n < n then fst1 p n else if p n then n else n + 1) ≤ j
    by_cases e : j = n
    · subst e
      rw [if_pos hj]
      split <;> omega
    · have := fst1_min hj (n := n) (by omega)
      rw [if_pos (by omega)]
      exact this
theorem exN_all {g : GG} {t : Nat → Nat} {c : Nat} (h : exN g t c = c) : ∀ j, j < c → exF g t j = 0 := by
  intro j hj
  by_cases e : exF g t j = 0
  · exact e
  · exfalso
    have := fst1_min (p := fun k => decide (exF g t k ≠ 0)) (n := c) (j := j) (decide_eq_true e) hj
    unfold exN at h
    omega
