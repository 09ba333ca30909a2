/-! dividends: quotients, remainders, ranks -/
def diC (E : EE) (a : Nat → Nat) (co re : Nat → Nat) : va_W := [(a 0, .inr (4, [.ref (a 1), .ref (a 2)])), (a 1, .inl (E.2.1 0, 8, .inl (fun j => nI (co j)))), (a 2, .inl (E.2.1 0, 8, .inl (fun j => nI (re j) - 1)))]
def dq (g : GG) (m : Nat) : Nat := g 8 2 * g 0 m / allSh g
def dr (g : GG) (m : Nat) : Nat := g 8 2 * g 0 m % allSh g
def lef (g : GG) : Nat := g 8 2 - sm (dq g) (g 8 0)
def bfr (g : GG) (o m : Nat) : Bool := decide (dr g m < dr g o ∨ dr g o = dr g m ∧ o < m)
def rnk (g : GG) (m : Nat) : Nat := sm (fun o => if bfr g o m then 1 else 0) (g 8 0)
def dv (g : GG) (m : Nat) : Nat := dq g m + (if rnk g m < lef g then 1 else 0)
theorem sm_mul (c : Nat) (f : Nat → Nat) : ∀ n, sm (fun m => c * f m) n = c * sm f n
  | 0 => by show 0 = c * 0; rw [Nat.mul_zero]
  | n + 1 => by show sm (fun m => c * f m) n + c * f n = c * (sm f n + f n); rw [sm_mul c f n, Nat.mul_add]
theorem sm_le2 {f g : Nat → Nat} : ∀ {n : Nat}, (∀ k, k < n → f k ≤ g k) → sm f n ≤ sm g n
  | 0, _ => Nat.le_refl _
  | n + 1, h => by
    have h1 := sm_le2 (n := n) (fun k hk => h k (by omega))
    have h2 := h n (by omega)
    show sm f n + f n ≤ sm g n + g n
    omega
theorem sm_lt {f g : Nat → Nat} : ∀ {n : Nat}, (∀ k, k < n → f k < g k) → 0 < n → sm f n + n ≤ sm g n
  | 0, _, h => absurd h (Nat.lt_irrefl _)
  | n + 1, h, _ => by
    have h2 := h n (by omega)
    show sm f n + f n + (n + 1) ≤ sm g n + g n
    rcases Nat.eq_zero_or_pos n with q | q
    · subst q; show 0 + f 0 + 1 ≤ 0 + g 0; omega
    · have h1 := sm_lt (n := n) (fun k hk => h k (by omega)) q
      omega
theorem sm_const (c : Nat) : ∀ n, sm (fun _ => c) n = c * n
  | 0 => rfl
  | n + 1 => by show sm (fun _ => c) n + c = c * (n + 1); rw [sm_const c n, Nat.mul_succ]
theorem allSh_pos {B : Nat} {g : GG} (h : IB B g) (hm : 0 < g 8 0) : 0 < allSh g :=
  Nat.lt_of_lt_of_le (h.mem hm).1.1 (sm_part hm)
theorem dq_dr {g : GG} {m : Nat} : allSh g * dq g m + dr g m = g 8 2 * g 0 m := Nat.div_add_mod _ _
theorem dq_sum {g : GG} : ∀ {i : Nat}, allSh g * sm (dq g) i + sm (dr g) i = g 8 2 * sm (g 0) i
  | 0 => by show allSh g * 0 + 0 = g 8 2 * 0; omega
  | i + 1 => by
    have h1 := dq_sum (g := g) (i := i)
    have h2 := dq_dr (g := g) (m := i)
    show allSh g * (sm (dq g) i + dq g i) + (sm (dr g) i + dr g i) = g 8 2 * (sm (g 0) i + g 0 i)
    rw [Nat.mul_add, Nat.mul_add]
    omega
theorem dq_le {g : GG} (hT : 0 < allSh g) {i : Nat} (hi : i ≤ g 8 0) : sm (dq g) i ≤ g 8 2 := by
  have h1 := dq_sum (g := g) (i := i)
  have h2 : sm (g 0) i ≤ allSh g := sm_mono hi
  have h3 : g 8 2 * sm (g 0) i ≤ g 8 2 * allSh g := Nat.mul_le_mul_left _ h2
  rw [Nat.mul_comm (g 8 2) (allSh g)] at h3
  exact Nat.le_of_mul_le_mul_left (by omega : allSh g * sm (dq g) i ≤ allSh g * g 8 2) hT
theorem lef_eq {g : GG} (hT : 0 < allSh g) : allSh g * lef g = sm (dr g) (g 8 0) := by
  have h1 := dq_sum (g := g) (i := g 8 0)
  have h2 := dq_le hT (Nat.le_refl (g 8 0))
  have h3 : g 8 2 * sm (g 0) (g 8 0) = allSh g * g 8 2 := Nat.mul_comm _ _
  unfold lef
  rw [Nat.mul_sub]
  omega
theorem dr_lt {g : GG} (hT : 0 < allSh g) {m : Nat} : dr g m < allSh g := Nat.mod_lt _ hT
theorem lef_lt {g : GG} (hT : 0 < allSh g) (hm : 0 < g 8 0) : lef g < g 8 0 := by
  have h1 := lef_eq hT
  have h2 := sm_lt (f := dr g) (g := fun _ => allSh g) (n := g 8 0) (fun k _ => dr_lt hT) hm
  rw [sm_const] at h2
  exact Nat.lt_of_mul_lt_mul_left (by omega : allSh g * lef g < allSh g * g 8 0)
theorem dq_bd {B : Nat} {g : GG} (h : IB B g) (hT : 0 < allSh g) {m : Nat} (hm : m < g 8 0) : dq g m ≤ 300000 := by
  have h1 := sm_part (f := dq g) hm
  have h2 := dq_le hT (Nat.le_refl (g 8 0))
  have h3 := h.bud
  omega
/-- the order of ranks -/
theorem bfr_irr {g : GG} {m : Nat} : bfr g m m = false := decide_eq_false (by omega)
theorem bfr_tr {g : GG} {a b c : Nat} (h1 : bfr g a b = true) (h2 : bfr g b c = true) : bfr g a c = true := by
  have h1 := of_decide_eq_true h1
  have h2 := of_decide_eq_true h2
  exact decide_eq_true (by omega)
theorem bfr_tot {g : GG} {a b : Nat} (h : a ≠ b) (h1 : bfr g a b = false) : bfr g b a = true := by
  have h1 := of_decide_eq_false h1
  exact decide_eq_true (by omega)
theorem rnk_lt {g : GG} {a b : Nat} (ha : a < g 8 0) (h : bfr g a b = true) : rnk g a < rnk g b := by
  have h1 : sm (fun o => if bfr g o a then 1 else 0) (g 8 0) + sm (fun o => if o = a then 1 else 0) (g 8 0) ≤ rnk g b := by
    rw [← sm_add]
    refine sm_le2 (fun o ho => ?_)
    by_cases e : o = a
    · subst e; rw [bfr_irr, if_pos rfl, if_pos h]; simp
    · rw [if_neg e]
      by_cases q : bfr g o a = true
      · rw [if_pos q, if_pos (bfr_tr q h)]
        exact Nat.le_refl _
      · rw [if_neg q]
        exact Nat.zero_le _
  have h2 : (fun o => if o = a then 1 else 0) a ≤ sm (fun o => if o = a then 1 else 0) (g 8 0) := sm_part (f := fun o => if o = a then 1 else 0) ha
  have h3 : (fun o => if o = a then 1 else 0) a = 1 := if_pos rfl
  have h4 : rnk g a = sm (fun o => if bfr g o a then 1 else 0) (g 8 0) := rfl
  omega
theorem rnk_inj {g : GG} {a b : Nat} (ha : a < g 8 0) (hb : b < g 8 0) (h : rnk g a = rnk g b) : a = b := by
  refine Decidable.byContradiction (fun e => ?_)
  cases q : bfr g a b with
  | true => have := rnk_lt ha q; omega
  | false => have := rnk_lt hb (bfr_tot e q); omega
theorem rnk_bd {g : GG} {a : Nat} (ha : a < g 8 0) : rnk g a < g 8 0 := by
  have h1 : rnk g a + sm (fun o => if o = a then 1 else 0) (g 8 0) ≤ sm (fun _ => 1) (g 8 0) := by
    unfold rnk
    rw [← sm_add]
    refine sm_le2 (fun o ho => ?_)
    by_cases e : o = a
    · subst e; rw [bfr_irr, if_pos rfl]; simp
    · rw [if_neg e]; split <;> omega
  rw [sm_const] at h1
  have h2 : (fun o => if o = a then 1 else 0) a ≤ sm (fun o => if o = a then 1 else 0) (g 8 0) := sm_part (f := fun o => if o = a then 1 else 0) ha
  have h3 : (fun o => if o = a then 1 else 0) a = 1 := if_pos rfl
  omega
theorem rnk_onto {g : GG} {k : Nat} (hk : k < g 8 0) : ∃ m, m < g 8 0 ∧ rnk g m = k :=
  fb_onto (n := g 8 0) (f := rnk g) (fun i hi => rnk_bd hi) (fun i j hij hj e => by have := rnk_inj (by omega) hj e; omega) hk
theorem one_at {n m : Nat} (h : m < n) : ∀ {p : Nat → Bool}, p m = true → (∀ o, o < n → p o = true → o = m) → sm (fun o => if p o then 1 else 0) n = 1 := by
  intro p hp hu
  have h1 : sm (fun o => if p o then 1 else 0) n = sm (fun o => if o = m then 1 else 0) n := sm_cong (fun o ho => by
    by_cases e : o = m
    · subst e; rw [if_pos hp, if_pos rfl]
    · rw [if_neg e, if_neg (fun q => e (hu o ho q))])
  rw [h1]
  clear h1
  induction n with
  | zero => exact absurd h (Nat.not_lt_zero _)
  | succ n ih =>
    show sm _ n + (if n = m then 1 else 0) = 1
    by_cases e : n = m
    · subst e
      rw [if_pos rfl, sm_cong (g := fun _ => 0) (fun o ho => if_neg (by omega)), sm_const]
      omega
    · rw [if_neg e, ih (by omega) (fun o ho => hu o (by omega))]
/-- so many members have a rank below k -/
theorem rnk_count {g : GG} : ∀ {k : Nat}, k ≤ g 8 0 → sm (fun m => if rnk g m < k then 1 else 0) (g 8 0) = k
  | 0, _ => by
    rw [sm_cong (g := fun _ => 0) (fun o ho => if_neg (Nat.not_lt_zero _)), sm_const]
    omega
  | k + 1, hk => by
    obtain ⟨m, hm, hr⟩ := rnk_onto (g := g) (k := k) (by omega)
    have h1 := rnk_count (g := g) (k := k) (by omega)
    have h2 := one_at (n := g 8 0) (m := m) hm (p := fun o => decide (rnk g o = k)) (decide_eq_true hr) (fun o ho q => rnk_inj ho hm ((of_decide_eq_true q).trans hr.symm))
    have h3 : sm (fun m => if rnk g m < k + 1 then 1 else 0) (g 8 0) = sm (fun m => (if rnk g m < k then 1 else 0) + (if decide (rnk g m = k) then 1 else 0)) (g 8 0) := sm_cong (fun o ho => by
      by_cases e : rnk g o = k
      · rw [if_pos (by omega), if_neg (by omega), if_pos (decide_eq_true e)]
      · by_cases q : rnk g o < k
        · rw [if_pos (by omega), if_pos q, if_neg (by rw [decide_eq_false e]; decide)]
        · rw [if_neg (by omega), if_neg q, if_neg (by rw [decide_eq_false e]; decide)])
    rw [h3, sm_add, h1, h2]
theorem dv_sum {B : Nat} {g : GG} (h : IB B g) (hm : 0 < g 8 0) : sm (dv g) (g 8 0) = g 8 2 := by
  have hT := allSh_pos h hm
  have h1 := dq_le hT (Nat.le_refl (g 8 0))
  have h2 := lef_lt hT hm
  show sm (fun m => dq g m + (if rnk g m < lef g then 1 else 0)) (g 8 0) = g 8 2
  rw [sm_add, rnk_count (by omega)]
  unfold lef
  omega
/-- the greatest remainder, the first of them -/
def bs (re : Nat → Nat) : Nat → Nat
  | 0 => 0
  | n + 1 => if re (bs re n) < re n then n else bs re n
theorem bs_max {re : Nat → Nat} : ∀ {n : Nat}, 0 < n → bs re n < n ∧ (∀ o, o < n → re o ≤ re (bs re n)) ∧ ∀ o, o < bs re n → re o < re (bs re n)
  | 0, h => absurd h (Nat.lt_irrefl _)
  | n + 1, _ => by
    rcases Nat.eq_zero_or_pos n with q | q
    · subst q
      have e : bs re 1 = 0 := by show (if re 0 < re 0 then 0 else 0) = 0; split <;> rfl
      rw [e]
      exact ⟨by omega, fun o ho => by rw [show o = 0 by omega]; exact Nat.le_refl _, fun o ho => absurd ho (Nat.not_lt_zero _)⟩
    · obtain ⟨h1, h2, h3⟩ := bs_max (re := re) q
      show (if re (bs re n) < re n then n else bs re n) < n + 1 ∧ (∀ o, o < n + 1 → re o ≤ re (if re (bs re n) < re n then n else bs re n)) ∧ ∀ o, o < (if re (bs re n) < re n then n else bs re n) → re o < re (if re (bs re n) < re n then n else bs re n)
      split
      · rename_i g
        refine ⟨by omega, fun o ho => ?_, fun o ho => Nat.lt_of_le_of_lt (h2 o ho) g⟩
        rcases Nat.lt_or_ge o n with z | z
        · exact Nat.le_of_lt (Nat.lt_of_le_of_lt (h2 o z) g)
        · rw [show o = n by omega]; exact Nat.le_refl _
      · rename_i g
        refine ⟨by omega, fun o ho => ?_, h3⟩
        rcases Nat.lt_or_ge o n with z | z
        · exact h2 o z
        · rw [show o = n by omega]; omega
def gco (g : GG) (co : Nat → Nat) (k : Nat) : Nat → Nat := fun m => if m < g 8 0 then dq g m + (if rnk g m < k then 1 else 0) else co m
def gre (g : GG) (re : Nat → Nat) (k : Nat) : Nat → Nat := fun m => if m < g 8 0 then (if rnk g m < k then 0 else dr g m + 1) else re m
theorem gco_0 {g : GG} {co : Nat → Nat} : fl co (dq g) (g 8 0) = gco g co 0 := by
  funext m
  unfold fl gco
  by_cases h : m < g 8 0
  · rw [if_pos h, if_pos h, if_neg (Nat.not_lt_zero _)]; rfl
  · rw [if_neg h, if_neg h]
theorem gre_0 {g : GG} {re : Nat → Nat} : fl re (fun m => dr g m + 1) (g 8 0) = gre g re 0 := by
  funext m
  unfold fl gre
  by_cases h : m < g 8 0
  · rw [if_pos h, if_pos h, if_neg (Nat.not_lt_zero _)]
  · rw [if_neg h, if_neg h]
theorem luck {g : GG} {re : Nat → Nat} {k : Nat} (hk : k < g 8 0) : bs (gre g re k) (g 8 0) < g 8 0 ∧ rnk g (bs (gre g re k) (g 8 0)) = k := by
  obtain ⟨h1, h2, h3⟩ := bs_max (re := gre g re k) (n := g 8 0) (by omega)
  refine ⟨h1, ?_⟩
  obtain ⟨m, hm, hr⟩ := rnk_onto hk
  have e1 : gre g re k m = dr g m + 1 := by unfold gre; rw [if_pos hm, if_neg (by omega)]
  generalize hB : bs (gre g re k) (g 8 0) = b at h1 h2 h3 ⊢
  have h4 := h2 m hm
  have e2 : gre g re k b = dr g b + 1 := by
    unfold gre at h4 ⊢
    rw [if_pos h1] at h4 ⊢
    split
    · rename_i q
      rw [if_pos q] at h4
      unfold gre at e1
      omega
    · rfl
  have e3 : ¬ rnk g b < k := fun q => by
    unfold gre at e2
    rw [if_pos h1, if_pos q] at e2
    omega
  refine Decidable.byContradiction (fun e => ?_)
  -- m, of rank k, is before b
  have h5 : bfr g m b = true := by
    cases q : bfr g m b with
    | true => rfl
    | false =>
      have h6 : m ≠ b := fun z => by subst z; omega
      have := rnk_lt h1 (bfr_tot h6 q)
      omega
  have h6 := of_decide_eq_true h5
  rw [e1, e2] at h4
  rcases h6 with q | ⟨q17, q18⟩
  · omega
  · have := h3 m q18
    omega
theorem gco_s {g : GG} {co re : Nat → Nat} {k : Nat} (hk : k < g 8 0) : upn (gco g co k) (bs (gre g re k) (g 8 0)) (gco g co k (bs (gre g re k) (g 8 0)) + 1) = gco g co (k + 1) := by
  obtain ⟨h1, h2⟩ := luck (g := g) (re := re) hk
  generalize bs (gre g re k) (g 8 0) = b at h1 h2 ⊢
  funext m
  unfold upn gco
  by_cases e : m = b
  · subst e; rw [if_pos rfl, if_pos h1, if_pos h1, if_neg (by omega), if_pos (by omega)]
  · rw [if_neg e]
    by_cases h : m < g 8 0
    · rw [if_pos h, if_pos h]
      by_cases q : rnk g m < k
      · rw [if_pos q, if_pos (by omega)]
      · rw [if_neg q, if_neg (fun z => e (rnk_inj h h1 (by omega)))]
    · rw [if_neg h, if_neg h]
theorem gre_s {g : GG} {re : Nat → Nat} {k : Nat} (hk : k < g 8 0) : upn (gre g re k) (bs (gre g re k) (g 8 0)) 0 = gre g re (k + 1) := by
  obtain ⟨h1, h2⟩ := luck (g := g) (re := re) hk
  generalize bs (gre g re k) (g 8 0) = b at h1 h2 ⊢
  funext m
  unfold upn gre
  by_cases e : m = b
  · subst e; rw [if_pos rfl, if_pos h1, if_pos (by omega)]
  · rw [if_neg e]
    by_cases h : m < g 8 0
    · rw [if_pos h, if_pos h]
      by_cases q : rnk g m < k
      · rw [if_pos q, if_pos (by omega)]
      · rw [if_neg q, if_neg (fun z => e (rnk_inj h h1 (by omega)))]
    · rw [if_neg h, if_neg h]
theorem gco_dv {g : GG} {co : Nat → Nat} {m : Nat} (h : m < g 8 0) : gco g co (lef g) m = dv g m := if_pos h
theorem gre_bd {g : GG} {re : Nat → Nat} {k m : Nat} (hT : 0 < allSh g) (h : m < g 8 0) : gre g re k m ≤ allSh g := by
  have := dr_lt hT (m := m)
  unfold gre
  rw [if_pos h]
  split <;> omega
def payG (g : GG) : GG := up2 (up2 (upr g 5 (fl (g 5) (fun m => g 5 m + dv g m) (g 8 0))) 8 2 0) 8 4 (g 8 4 + 1)
/-! arrays that hold their numbers less one -/
section ND
variable {p : Program} {l : Launch} {e : Env} {R : Room} {s : State} {m : MethodId} {args : Array Value} {below : List Frame} {meth : Method} {c : Code} {H : Heap} {locs : List Loc} {cells slots : Nat} {Q : State → Prop} {cc : ByteArray} {pc : Nat} {ls : Array Slot} {rest : List Value} {D : va_G} {cl : List vw_C} {tys : List (ClassId × FieldType)} {ws : va_W} {A : Nat → Prop} {H0 : Heap} {a : Nat}
theorem nv_iald1 (hexec : p.tables.exec = Jvm.exec) (hb : c.code = cc) (hK : va_K D cl tys s) (hP : va_P D cl ws H) (q16 t0 : Nat) {cA : ClassId} {n : Nat} {f : Nat → Nat} (ha : ws[q16]? = some (a, .inl (cA, n, .inl (fun j => nI (f j) - 1)))) (ht : tys[t0]? = some (cA, .int)) {i : Nat} (hin : i < n) (hn : n < 2 ^ 31) (hdg : decode cc pc = .ok (.iaload, 1))
    (kk : W p l e R s m args below meth c H locs cells slots Q (F0 m (pc + 1) ls (.int (nI (f i) - 1) :: rest))) : W p l e R s m args below meth c H locs cells slots Q (F0 m pc ls (.int (nI i) :: .ref a :: rest)) :=
  va_iald hexec hb hK hP q16 t0 ha ht (vp_in_nI hin hn) hdg (by rw [nI_clamp (by omega)]; exact kk)
theorem nv_iast1 (hexec : p.tables.exec = Jvm.exec) (hb : c.code = cc) (hK : va_K D cl tys s) (hP : va_P D cl ws H) (hD : va_D A ws) (hS : va_S A H0 H locs) (q16 t0 : Nat) {cA : ClassId} {n : Nat} {f : Nat → Nat} (ha : ws[q16]? = some (a, .inl (cA, n, .inl (fun j => nI (f j) - 1)))) (ht : tys[t0]? = some (cA, .int)) {i v : Nat} {x : Int32} (hx : x = nI v - 1) (hin : i < n) (hn : n < 2 ^ 31) (hdg : decode cc pc = .ok (.iastore, 1))
    (kk : ∀ (H1 : Heap) (locs1 : List Loc), va_P D cl (ws.set q16 (a, .inl (cA, n, .inl (fun j => nI (upn f i v j) - 1)))) H1 → va_D A (ws.set q16 (a, .inl (cA, n, .inl (fun j => nI (upn f i v j) - 1)))) → va_S A H0 H1 locs1 → W p l e R s m args below meth c H1 locs1 cells slots Q (F0 m (pc + 1) ls rest)) : W p l e R s m args below meth c H locs cells slots Q (F0 m pc ls (.int x :: .int (nI i) :: .ref a :: rest)) :=
  va_iast hexec hb hK hP hD hS q16 t0 ha ht (vp_in_nI hin hn) hdg (by
    rw [nI_clamp (by omega), hx, show upd (fun j => nI (f j) - 1) i (nI v - 1) = fun j => nI (upn f i v j) - 1 from by funext j; unfold upd upn; split <;> rfl]
    exact kk)
theorem m1_t {n : Nat} (h : n < 2 ^ 30) : (nI n - 1).toInt = (n : Int) - 1 := isub_t (nI_toInt (by omega)) rfl (by omega) (by omega)
end ND
theorem m1_of (n : Nat) : nI n = nI (n + 1) - 1 := (nI_pred n).symm
theorem m1_dr {g : GG} {re : Nat → Nat} {m k : Nat} (_ : 0 < allSh g) (h : m < k) : nI (fl re (fun m => dr g m + 1) k m) - 1 = nI (dr g m) := by rw [fl_lo h]; exact nI_pred _
theorem bs_1 {re : Nat → Nat} : bs re 1 = 0 := by show (if re 0 < re 0 then 0 else 0) = 0; split <;> rfl
