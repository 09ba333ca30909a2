/-! the commands of the class's program, as the reference keeps them -/
def tOf (A K : Nat → Nat) : Nat → Nat := fun j => if j % 5 = 0 then sgK (K (j / 5)) else A (4 * (j / 5) + (j % 5 - 1))
theorem tOf_0 {A K : Nat → Nat} {k : Nat} : tOf A K (5 * k) = sgK (K k) := by
  unfold tOf; rw [if_pos (by omega), show 5 * k / 5 = k by omega]
theorem tOf_s {A K : Nat → Nat} {k i : Nat} (h : i < 4) : tOf A K (5 * k + (1 + i)) = A (4 * k + i) := by
  unfold tOf; rw [if_neg (by omega), show (5 * k + (1 + i)) / 5 = k by omega, show (5 * k + (1 + i)) % 5 - 1 = i by omega]
theorem do_sg {g : GG} {k : Nat} (hk : k < 7) {a b c d a2 b2 c2 d2 : Nat} (h0 : 0 < ngK k → a = a2) (h1 : 1 < ngK k → b = b2) (h2 : 2 < ngK k → c = c2) (h3 : 3 < ngK k → d = d2) : doF g (sgK k) a b c d = doF g (sgK k) a2 b2 c2 d2 ∧ doG g (sgK k) a b c d = doG g (sgK k) a2 b2 c2 d2 := by
  have e0 : sgK 0 = 106 := rfl
  have e1 : sgK 1 = 119 := rfl
  have e2 : sgK 2 = 116 := rfl
  have e3 : sgK 3 = 98 := rfl
  have e4 : sgK 4 = 101 := rfl
  have e5 : sgK 5 = 113 := rfl
  have e6 : sgK 6 = 118 := rfl
  rcases (show k = 0 ∨ k = 1 ∨ k = 2 ∨ k = 3 ∨ k = 4 ∨ k = 5 ∨ k = 6 by omega) with rfl | rfl | rfl | rfl | rfl | rfl | rfl
  · rw [h0 (by decide), h1 (by decide), h2 (by decide), h3 (by decide)]; exact ⟨rfl, rfl⟩
  · rw [h0 (by decide), h1 (by decide), e1]; exact ⟨by simp [doF], by simp [doG]⟩
  · rw [h0 (by decide), h1 (by decide), e2]; exact ⟨by simp [doF], by simp [doG]⟩
  · rw [h0 (by decide), h1 (by decide), e3]; exact ⟨by simp [doF], by simp [doG]⟩
  · rw [h0 (by decide), e4]; exact ⟨by simp [doF], by simp [doG]⟩
  · rw [e5]; exact ⟨by simp [doF], by simp [doG]⟩
  · rw [h0 (by decide), h1 (by decide), e6]; exact ⟨by simp [doF], by simp [doG]⟩
theorem do_rel {g : GG} {c k : Nat} {A K t : Nat → Nat} (hK : K c = k) (h : cmRel c k A t) : doF g (tOf A K (5 * c)) (tOf A K (5 * c + 1)) (tOf A K (5 * c + 2)) (tOf A K (5 * c + 3)) (tOf A K (5 * c + 4)) = doF g (t (5 * c)) (t (5 * c + 1)) (t (5 * c + 2)) (t (5 * c + 3)) (t (5 * c + 4)) ∧
    doG g (tOf A K (5 * c)) (tOf A K (5 * c + 1)) (tOf A K (5 * c + 2)) (tOf A K (5 * c + 3)) (tOf A K (5 * c + 4)) = doG g (t (5 * c)) (t (5 * c + 1)) (t (5 * c + 2)) (t (5 * c + 3)) (t (5 * c + 4)) := by
  obtain ⟨h1, h2, h3⟩ := h
  rw [h2, tOf_0, hK]
  exact do_sg h1 (fun q => (tOf_s (i := 0) (by decide)).trans (h3 0 q)) (fun q => (tOf_s (i := 1) (by decide)).trans (h3 1 q)) (fun q => (tOf_s (i := 2) (by decide)).trans (h3 2 q)) (fun q => (tOf_s (i := 3) (by decide)).trans (h3 3 q))
theorem exG_rel {g : GG} {n : Nat} {A K t : Nat → Nat} (h : ∀ i, i < n → cmRel i (K i) A t) : ∀ k, k ≤ n → exG g (tOf A K) k = exG g t k
  | 0, _ => rfl
  | k + 1, hk => by
    show doG (exG g (tOf A K) k) _ _ _ _ _ = doG (exG g t k) _ _ _ _ _
    rw [exG_rel h k (by omega)]
    exact (do_rel rfl (h k (by omega))).2
theorem exF_rel {g : GG} {n : Nat} {A K t : Nat → Nat} (h : ∀ i, i < n → cmRel i (K i) A t) {k : Nat} (hk : k < n) : exF g (tOf A K) k = exF g t k := by
  show doF (exG g (tOf A K) k) _ _ _ _ _ = doF (exG g t k) _ _ _ _ _
  rw [exG_rel h k (by omega)]
  exact (do_rel rfl (h k hk)).1
theorem fst1_cong {p q : Nat → Bool} : ∀ {n : Nat}, (∀ j, j < n → p j = q j) → fst1 p n = fst1 q n := by
  intro n h
  by_cases hx : ∃ j, j < n ∧ q j = true
  · obtain ⟨j, hj, hm⟩ := pk_least (fun k => k < n ∧ q k = true) hx
    have hmin : ∀ i, i < j → q i = false := fun i hi => by
      have := hm i hi
      cases hq : q i with
      | false => rfl
      | true => exact absurd ⟨by omega, hq⟩ this
    rw [fst1_at (p := p) (i := j) ((h j hj.1).trans hj.2) (fun i hi => (h i (by omega)).trans (hmin i hi)) hj.1, fst1_at (p := q) (i := j) hj.2 hmin hj.1]
  · have hn : ∀ j, j < n → q j = false := fun j hj => by
      cases hq : q j with
      | false => rfl
      | true => exact absurd ⟨j, hj, hq⟩ hx
    rw [fst1_none (p := p) (fun j hj => (h j hj).trans (hn j hj)), fst1_none (p := q) hn]
theorem exN_rel {g : GG} {n : Nat} {A K t : Nat → Nat} (h : ∀ i, i < n → cmRel i (K i) A t) : exN g (tOf A K) n = exN g t n := by
  unfold exN
  exact fst1_cong (fun j hj => by rw [exF_rel h hj])
/-- the places of a number are a command's -/
theorem frm_whole {tx : Nat → Nat} {e : Nat} (he : e ≤ 60) {A K t : Nat → Nat} : (parR tx e 8 0 0 A K).2.1 = (prgR tx e 20 0 0 t).2.1 ∧ ((parR tx e 8 0 0 A K).2.2.1 = 0 ↔ (prgR tx e 20 0 0 t).2.2.1 = 0) ∧ ((parR tx e 8 0 0 A K).2.2.1 = 0 → (parR tx e 8 0 0 A K).1 = (prgR tx e 20 0 0 t).1 ∧ (parR tx e 8 0 0 A K).1 ≤ 7 ∧ ∀ i, i < (parR tx e 8 0 0 A K).1 → cmRel i ((parR tx e 8 0 0 A K).2.2.2.2 i) (parR tx e 8 0 0 A K).2.2.2.1 (prgR tx e 20 0 0 t).2.2.2) :=
  prg_rel he 8 20 0 0 A K t rfl (by decide) (Nat.zero_le _) (Nat.le_refl _) (fun i hi => absurd hi (Nat.not_lt_zero _))
/-! doubles and floats: what is no NaN -/
def gdD (f : FP.Core.Fmt) : FP.Core.Datum → Prop
  | .nan => False
  | .inf _ => True
  | .fin _ c q => c < 2 ^ f.p ∧ q ≤ f.qmax
theorem gd_settle {f : FP.Core.Fmt} {s : Bool} {c : Nat} {q : Int} (hp : 0 < f.p) : gdD f (FP.Core.settle f s c q) := by
  have hb : ∀ c q, c < 2 ^ f.p → gdD f (FP.Core.bound f s c q) := by
    intro c q hc
    unfold FP.Core.bound
    split
    · rename_i h; exact ⟨hc, h⟩
    · trivial
  unfold FP.Core.settle
  split
  · rename_i h; exact hb _ _ h
  · refine hb _ _ ?_
    show 2 ^ (f.p - 1) < 2 ^ f.p
    exact Nat.pow_lt_pow_right (by decide) (by omega)
theorem gd_round {f : FP.Core.Fmt} (hp : 0 < f.p) (hq : f.qmin ≤ f.qmax) {s : Bool} {n d : Nat} {e : Int} : gdD f (FP.Core.roundRatio f s n d e) := by
  unfold FP.Core.roundRatio
  split
  · exact ⟨Nat.two_pow_pos _, hq⟩
  · exact gd_settle hp
def fnD : FP.Core.Datum → Prop
  | .fin _ _ _ => True
  | _ => False
def nzD : FP.Core.Datum → Prop
  | .fin _ d _ => d ≠ 0
  | _ => False
theorem gd_quot {f : FP.Core.Fmt} (hp : 0 < f.p) (hq : f.qmin ≤ f.qmax) {X Y : FP.Core.Datum} (hX : fnD X) (hY : nzD Y) : gdD f (FP.Core.quotient f X Y) := by
  cases X with
  | fin s c q =>
    cases Y with
    | fin t d r =>
      unfold FP.Core.quotient
      show gdD f (if d = 0 then _ else _)
      rw [if_neg hY]
      exact gd_round hp hq
    | _ => exact hY.elim
  | _ => exact hX.elim
/-- the bits of what isn't NaN -/
theorem enc_le {f : FP.Core.Fmt} {D : FP.Core.Datum} (h : gdD f D) (hf : f = FP.Core.b64 ∨ f = FP.Core.b32) : FP.Core.encode f D % (f.exps * f.tails) ≤ (f.exps - 1) * f.tails ∧ FP.Core.encode f D < 2 * (f.exps * f.tails) := by
  have hexp : (f.qmax - f.qmin).toNat + 1 ≤ f.exps - 2 ∧ 2 ≤ f.exps ∧ 0 < f.tails ∧ 2 ^ f.p = 2 * f.tails := by rcases hf with rfl | rfl <;> decide +kernel
  obtain ⟨h1, h2, h3, h4⟩ := hexp
  have key : ∀ (s : Bool) (e t : Nat), (e ≤ f.exps - 2 ∧ t < f.tails ∨ e = f.exps - 1 ∧ t = 0) → FP.Core.assemble f s e t % (f.exps * f.tails) ≤ (f.exps - 1) * f.tails ∧ FP.Core.assemble f s e t < 2 * (f.exps * f.tails) := by
    intro s e t ht
    have hl : e * f.tails + t ≤ (f.exps - 1) * f.tails := by
      rcases ht with ⟨a, b⟩ | ⟨rfl, rfl⟩
      · have : (e + 1) * f.tails ≤ (f.exps - 1) * f.tails := Nat.mul_le_mul_right _ (by omega)
        rw [Nat.add_mul, Nat.one_mul] at this
        omega
      · exact Nat.le_refl _
    have hlt : (f.exps - 1) * f.tails < f.exps * f.tails := Nat.mul_lt_mul_of_pos_right (by omega) h3
    unfold FP.Core.assemble
    cases s with
    | false =>
      rw [show (false.toNat * f.exps + e) * f.tails + t = e * f.tails + t by simp]
      rw [Nat.mod_eq_of_lt (by omega)]
      omega
    | true =>
      rw [show (true.toNat * f.exps + e) * f.tails + t = (e * f.tails + t) + f.exps * f.tails by simp [Nat.add_mul]; omega]
      rw [Nat.add_mod_right, Nat.mod_eq_of_lt (by omega)]
      omega
  cases D with
  | nan => exact h.elim
  | inf s => exact key s _ _ (Or.inr ⟨rfl, rfl⟩)
  | fin s c q =>
    obtain ⟨hc, hq⟩ := h
    unfold FP.Core.encode
    show (if c < f.tails then FP.Core.assemble f s 0 c else FP.Core.assemble f s ((q - f.qmin).toNat + 1) (c - f.tails)) % _ ≤ _ ∧ (if c < f.tails then FP.Core.assemble f s 0 c else FP.Core.assemble f s ((q - f.qmin).toNat + 1) (c - f.tails)) < _
    split
    · rename_i hlt; exact key s _ _ (Or.inl ⟨by omega, hlt⟩)
    · refine key s _ _ (Or.inl ⟨?_, by omega⟩)
      have : (q - f.qmin).toNat ≤ (f.qmax - f.qmin).toNat := by omega
      omega
theorem n64_of {D : FP.Core.Datum} (h : gdD FP.Core.b64 D) : vf_n64 (UInt64.ofNat (FP.Core.encode FP.Core.b64 D)) := by
  obtain ⟨h1, h2⟩ := enc_le h (Or.inl rfl)
  have e1 : FP.Core.b64.exps * FP.Core.b64.tails = 2 ^ 63 := by decide +kernel
  have e2 : (FP.Core.b64.exps - 1) * FP.Core.b64.tails = 0x7ff0000000000000 := by decide +kernel
  rw [e1] at h1 h2; rw [e2] at h1
  unfold vf_n64
  rw [UInt64.le_iff_toNat_le, UInt64.toNat_and, show (0x7fffffffffffffff : UInt64).toNat = 2 ^ 63 - 1 from by decide, Nat.and_two_pow_sub_one_eq_mod]
  rw [show (UInt64.ofNat (FP.Core.encode FP.Core.b64 D)).toNat = FP.Core.encode FP.Core.b64 D % 2 ^ 64 from UInt64.toNat_ofNat', Nat.mod_eq_of_lt (by omega : FP.Core.encode FP.Core.b64 D < 2 ^ 64)]
  exact h1
theorem n32_of {D : FP.Core.Datum} (h : gdD FP.Core.b32 D) : vf_n32 (UInt32.ofNat (FP.Core.encode FP.Core.b32 D)) := by
  obtain ⟨h1, h2⟩ := enc_le h (Or.inr rfl)
  have e1 : FP.Core.b32.exps * FP.Core.b32.tails = 2 ^ 31 := by decide +kernel
  have e2 : (FP.Core.b32.exps - 1) * FP.Core.b32.tails = 0x7f800000 := by decide +kernel
  rw [e1] at h1 h2; rw [e2] at h1
  unfold vf_n32
  rw [UInt32.le_iff_toNat_le, UInt32.toNat_and, show (0x7fffffff : UInt32).toNat = 2 ^ 31 - 1 from by decide, Nat.and_two_pow_sub_one_eq_mod]
  rw [show (UInt32.ofNat (FP.Core.encode FP.Core.b32 D)).toNat = FP.Core.encode FP.Core.b32 D % 2 ^ 32 from UInt32.toNat_ofNat', Nat.mod_eq_of_lt (by omega : FP.Core.encode FP.Core.b32 D < 2 ^ 32)]
  exact h1
/-- a number below 2^31, as a double -/
theorem dbl_fin {n : Nat} (h : n < 2 ^ 31) : fnD (FP.Core.decode FP.Core.b64 (UInt64.ofNat (FP.Core.encode FP.Core.b64 (FP.Core.round FP.Core.b64 (.fin false n 0)))).toNat) := by
  have hr : ∃ c q, FP.Core.round FP.Core.b64 (.fin false n 0) = .fin false c q ∧ c < 2 ^ 53 ∧ q ≤ FP.Core.b64.qmax := by
    show ∃ c q, FP.Core.roundRatio FP.Core.b64 false n 1 0 = .fin false c q ∧ _
    unfold FP.Core.roundRatio
    split
    · exact ⟨0, _, rfl, by decide, by decide +kernel⟩
    · rename_i hn
      unfold FP.Core.roundAt FP.Core.settle
      have hq : FP.Core.quantum FP.Core.b64 n 1 0 ≤ 31 := by
        unfold FP.Core.quantum FP.Core.leading
        have hl : n.log2 < 31 := (Nat.log2_lt hn).mpr h
        have h1 : (1 : Nat).log2 = 0 := by decide
        have hm : FP.Core.b64.qmin ≤ 31 := by decide +kernel
        have hp : (FP.Core.b64.p : Int) = 53 := rfl
        rw [h1, hp]
        simp only []
        split <;> omega
      have hM : (32 : Int) ≤ FP.Core.b64.qmax := by decide +kernel
      have hb : ∀ c q, c < 2 ^ 53 → q ≤ 32 → ∃ c' q', FP.Core.bound FP.Core.b64 false c q = .fin false c' q' ∧ c' < 2 ^ 53 ∧ q' ≤ FP.Core.b64.qmax := fun c q hc hq => ⟨c, q, by unfold FP.Core.bound; rw [if_pos (by omega)], hc, by omega⟩
      split
      · rename_i hc; exact hb _ _ hc (by omega)
      · exact hb _ _ (by decide +kernel) (by omega)
  obtain ⟨c, q, hr, hc, hq⟩ := hr
  rw [hr]
  obtain ⟨h1, h2⟩ := enc_le (f := FP.Core.b64) (D := .fin false c q) ⟨hc, hq⟩ (Or.inl rfl)
  have e1 : FP.Core.b64.exps * FP.Core.b64.tails = 2 ^ 63 := by decide +kernel
  rw [e1] at h2
  rw [show (UInt64.ofNat (FP.Core.encode FP.Core.b64 (.fin false c q))).toNat = FP.Core.encode FP.Core.b64 (.fin false c q) % 2 ^ 64 from UInt64.toNat_ofNat', Nat.mod_eq_of_lt (by omega)]
  have hexp : ∃ e t, FP.Core.encode FP.Core.b64 (.fin false c q) = e * FP.Core.b64.tails + t ∧ e ≤ FP.Core.b64.exps - 2 ∧ t < FP.Core.b64.tails := by
    have hk : (FP.Core.b64.qmax - FP.Core.b64.qmin).toNat + 1 ≤ FP.Core.b64.exps - 2 ∧ 0 < FP.Core.b64.tails ∧ 2 ^ 53 = 2 * FP.Core.b64.tails := by decide +kernel
    unfold FP.Core.encode
    show ∃ e t, (if c < FP.Core.b64.tails then FP.Core.assemble FP.Core.b64 false 0 c else FP.Core.assemble FP.Core.b64 false ((q - FP.Core.b64.qmin).toNat + 1) (c - FP.Core.b64.tails)) = _ ∧ _
    split
    · rename_i hlt; exact ⟨0, c, by unfold FP.Core.assemble; simp, Nat.zero_le _, hlt⟩
    · refine ⟨(q - FP.Core.b64.qmin).toNat + 1, c - FP.Core.b64.tails, by unfold FP.Core.assemble; simp, ?_, by omega⟩
      omega
  obtain ⟨e, t, he, hle, ht⟩ := hexp
  have hfe : FP.Core.fieldE FP.Core.b64 (FP.Core.encode FP.Core.b64 (.fin false c q)) ≠ FP.Core.b64.exps - 1 := by
    have hpos : 0 < FP.Core.b64.tails ∧ 2 ≤ FP.Core.b64.exps := by decide +kernel
    unfold FP.Core.fieldE
    rw [he, Nat.mul_comm, Nat.mul_add_div hpos.1, Nat.div_eq_of_lt ht, Nat.add_zero, Nat.mod_eq_of_lt (by omega)]
    omega
  unfold FP.Core.decode
  rw [if_neg hfe]
  split <;> trivial
theorem dbl_nz : ∀ n, n < 9 → 1 ≤ n → nzD (FP.Core.decode FP.Core.b64 (UInt64.ofNat (FP.Core.encode FP.Core.b64 (FP.Core.round FP.Core.b64 (.fin false n 0)))).toNat) := by
  have h : ∀ n, n < 9 → 1 ≤ n → (match FP.Core.decode FP.Core.b64 (UInt64.ofNat (FP.Core.encode FP.Core.b64 (FP.Core.round FP.Core.b64 (.fin false n 0)))).toNat with | .fin _ d _ => d != 0 | _ => false) = true := by decide +kernel
  intro n h1 h2
  have := h n h1 h2
  revert this
  generalize FP.Core.decode FP.Core.b64 (UInt64.ofNat (FP.Core.encode FP.Core.b64 (FP.Core.round FP.Core.b64 (.fin false n 0)))).toNat = D
  cases D <;> simp [nzD]
theorem flt_nz : ∀ n, n < 2100 → 1 ≤ n → nzD (FP.Core.decode FP.Core.b32 (UInt32.ofNat (FP.Core.encode FP.Core.b32 (FP.Core.round FP.Core.b32 (.fin false n 0)))).toNat) := by
  have h : ∀ n, n < 2100 → 1 ≤ n → (match FP.Core.decode FP.Core.b32 (UInt32.ofNat (FP.Core.encode FP.Core.b32 (FP.Core.round FP.Core.b32 (.fin false n 0)))).toNat with | .fin _ d _ => d != 0 | _ => false) = true := by decide +kernel
  intro n h1 h2
  have := h n h1 h2
  revert this
  generalize FP.Core.decode FP.Core.b32 (UInt32.ofNat (FP.Core.encode FP.Core.b32 (FP.Core.round FP.Core.b32 (.fin false n 0)))).toNat = D
  cases D <;> simp [nzD]
theorem flt_fin {n : Nat} (h : n < 2100) : fnD (FP.Core.decode FP.Core.b32 (UInt32.ofNat (FP.Core.encode FP.Core.b32 (FP.Core.round FP.Core.b32 (.fin false n 0)))).toNat) := by
  rcases Nat.eq_zero_or_pos n with rfl | hp
  · have : (match FP.Core.decode FP.Core.b32 (UInt32.ofNat (FP.Core.encode FP.Core.b32 (FP.Core.round FP.Core.b32 (.fin false 0 0)))).toNat with | .fin _ _ _ => true | _ => false) = true := by decide +kernel
    revert this
    generalize FP.Core.decode FP.Core.b32 (UInt32.ofNat (FP.Core.encode FP.Core.b32 (FP.Core.round FP.Core.b32 (.fin false 0 0)))).toNat = D
    cases D <;> simp [fnD]
  · have := flt_nz n h hp
    revert this
    generalize FP.Core.decode FP.Core.b32 (UInt32.ofNat (FP.Core.encode FP.Core.b32 (FP.Core.round FP.Core.b32 (.fin false n 0)))).toNat = D
    cases D <;> simp [fnD, nzD]
