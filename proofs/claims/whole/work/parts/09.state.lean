/-! the State: its cells, what is true of it -/
def stC (E : EE) (a : Nat → Nat) (g : GG) : va_W := [(a 0, .inr (8, [.ref (a 1), .ref (a 2), .ref (a 3), .ref (a 4), .ref (a 5), .ref (a 6), .ref (a 7), .ref (a 8), .int (nI (g 8 0)), .int (nI (g 8 7)), .int (nI (g 8 1)), .int (nI (g 8 2)), .int (nI (g 8 3)), .int (nI (g 8 4)), .int (nI (g 8 5)), .int (nI (g 8 6))])),
  (a 1, .inl (E.2.1 0, 8, .inl (fun j => nI (g 0 j)))), (a 2, .inl (E.2.1 0, 8, .inl (fun j => nI (g 1 j)))), (a 3, .inl (E.2.1 0, 8, .inl (fun j => nI (g 2 j)))), (a 4, .inl (E.2.1 0, 8, .inl (fun j => nI (g 3 j)))), (a 5, .inl (E.2.1 0, 8, .inl (fun j => nI (g 4 j)))), (a 6, .inl (E.2.1 0, 8, .inl (fun j => nI (g 5 j)))), (a 7, .inl (E.2.1 0, 8, .inl (fun j => nI (g 6 j)))), (a 8, .inl (E.2.1 0, 10, .inl (fun j => nI (g 7 j))))]
def sm (f : Nat → Nat) : Nat → Nat
  | 0 => 0
  | n + 1 => sm f n + f n
theorem sm_le {f : Nat → Nat} {c : Nat} : ∀ {n : Nat}, (∀ k, k < n → f k ≤ c) → sm f n ≤ c * n
  | 0, _ => Nat.le_refl 0
  | n + 1, h => by
    have h1 := sm_le (n := n) (fun k hk => h k (by omega))
    have h2 := h n (by omega)
    show sm f n + f n ≤ c * (n + 1)
    rw [Nat.mul_succ]
    omega
theorem sm_cong {f g : Nat → Nat} : ∀ {n : Nat}, (∀ k, k < n → f k = g k) → sm f n = sm g n
  | 0, _ => rfl
  | n + 1, h => by
    show sm f n + f n = sm g n + g n
    rw [sm_cong (fun k hk => h k (by omega)), h n (by omega)]
theorem sm_mono {f : Nat → Nat} {m : Nat} : ∀ {n : Nat}, m ≤ n → sm f m ≤ sm f n
  | 0, h => by rw [show m = 0 by omega]; exact Nat.le_refl _
  | n + 1, h => by
    rcases Nat.lt_or_ge m (n + 1) with q | q
    · exact Nat.le_trans (sm_mono (f := f) (n := n) (by omega)) (Nat.le_add_right _ _)
    · rw [show m = n + 1 by omega]; exact Nat.le_refl _
theorem bt_of {P : Prop} [Decidable P] (h : P) : nI 1 = bI (decide P) := by rw [decide_eq_true h]; rfl
theorem bf_of {P : Prop} [Decidable P] (h : ¬ P) : nI 0 = bI (decide P) := by rw [decide_eq_false h]; rfl
theorem bI_fit (b : Bool) : fits .boolean (.int (bI b)) = true := by cases b <;> decide
/-- what is true of a state, and of the numbers that calls may have made of it so far: B -/
def IB (B : Nat) (g : GG) : Prop :=
  (g 8 0 ≤ 8 ∧ g 8 3 ≤ 11 ∧ g 8 7 ≤ 10) ∧ (∀ m, m < g 8 0 → (1 ≤ g 0 m ∧ g 0 m ≤ 50) ∧ (2 ≤ g 1 m ∧ g 1 m ≤ 12 ∧ g 2 m < g 1 m) ∧ g 3 m ≤ 11 ∧ g 4 m ≤ 60) ∧ (∀ m, g 8 0 ≤ m → g 4 m = 0 ∧ g 5 m = 0 ∧ g 6 m = 0) ∧
  (g 8 1 ≤ B ∧ g 8 4 ≤ B ∧ (∀ m, g 6 m ≤ B) ∧ (∀ j, g 7 j ≤ B)) ∧ (g 8 5 + sm (g 4) 8 ≤ B ∧ g 8 6 + sm (g 4) 8 ≤ B ∧ sm (g 5) 8 + g 8 2 = g 8 5) ∧ B ≤ 300000
theorem IB.mc {B : Nat} {g : GG} (h : IB B g) : g 8 0 ≤ 8 := h.1.1
theorem IB.mem {B : Nat} {g : GG} (h : IB B g) {m : Nat} (hm : m < g 8 0) : (1 ≤ g 0 m ∧ g 0 m ≤ 50) ∧ (2 ≤ g 1 m ∧ g 1 m ≤ 12 ∧ g 2 m < g 1 m) ∧ g 3 m ≤ 11 ∧ g 4 m ≤ 60 := h.2.1 m hm
theorem IB.bud {B : Nat} {g : GG} (h : IB B g) : g 8 1 ≤ B ∧ g 8 2 ≤ B ∧ g 8 4 ≤ B ∧ g 8 5 ≤ B ∧ g 8 6 ≤ B ∧ sm (g 5) 8 ≤ B ∧ B ≤ 300000 := by
  obtain ⟨-, -, -, h1, h2, h3⟩ := h
  omega
theorem sm_part {f : Nat → Nat} {i : Nat} : ∀ {n : Nat}, i < n → f i ≤ sm f n
  | 0, h => absurd h (Nat.not_lt_zero _)
  | n + 1, h => by
    show f i ≤ sm f n + f n
    rcases Nat.lt_or_ge i n with q | q
    · have := sm_part (f := f) q; omega
    · rw [show i = n by omega]; omega
theorem IB.pu {B : Nat} {g : GG} (h : IB B g) {m : Nat} (hm : m < 8) : g 5 m ≤ B := Nat.le_trans (sm_part hm) h.bud.2.2.2.2.2.1
theorem IB.shs {B : Nat} {g : GG} (h : IB B g) {i : Nat} (hi : i ≤ g 8 0) : sm (g 0) i ≤ 50 * i := sm_le (fun k hk => (h.mem (Nat.lt_of_lt_of_le hk hi)).1.2)
def isTo (x : Int32) : Bool := decide (0 ≤ x.toInt ∧ x.toInt < 12)
def hasM (g : GG) (x : Int32) : Bool := decide (0 ≤ x.toInt ∧ x.toInt < (g 8 0 : Int))
/-- all shares, the quota -/
def allSh (g : GG) : Nat := sm (g 0) (g 8 0)
def quo (g : GG) : Nat := allSh g / 2 + 1
abbrev rm_X4_isTone : Room := { frames := 0, cells := 0, slots := 0, locals := 0 }
set_option maxHeartbeats 4000000 in
set_option maxRecDepth 100000 in
theorem c_X4_isTone (l : Launch) (E : EE) (sz : Nat) (p0 : Int32) : MI l yX4_isTone cX4_isTone 1 .boolean rm_X4_isTone [.int p0] E sz [] (fun (r : Int32) (_ : Unit) => r = bI (isTo p0)) (fun _ => []) 0 0 := by
  refine mi_go (by decide) (Nat.le_of_ble_eq_true rfl) ?_
  intro p e s m below meth c A Q ls hx hb hml hown hts hK hZ hA hsz hP hD hl hret
  have hS : va_S A s.heap s.heap [] := va_S.rf
  have hl : lv_has ls 1 [(0, .int p0)] := hl
  skip
  refine lv_iload_n hx hb dX4_isTone_0 rfl (lv_at hl 0 rfl) ?_
  refine nv_if_lt (X := p0.toInt) hx hb rfl (tgt := 14) dX4_isTone_1 (by decide) (fun c_1 => ?_) (fun c_1 => ?_)
  · skip
    refine lv_iconst (v := nI 0) hx hb dX4_isTone_14 (by decide) ?_
    exact hret _ _ (nI 0) () _ _ hP hD hS (by decide) (bf_of (by omega)) dX4_isTone_15
  · skip
    refine lv_iload_n hx hb dX4_isTone_4 rfl (lv_at hl 0 rfl) ?_
    refine lv_bipush (v := nI 12) hx hb dX4_isTone_5 (by decide) ?_
    refine nv_icmp_ge (X := p0.toInt) (Y := ((12 : Nat) : Int)) hx hb rfl (nI_toInt (by omega)) (tgt := 14) dX4_isTone_7 (by decide) (fun c_2 => ?_) (fun c_2 => ?_)
    · skip
      refine lv_iconst (v := nI 0) hx hb dX4_isTone_14 (by decide) ?_
      exact hret _ _ (nI 0) () _ _ hP hD hS (by decide) (bf_of (by omega)) dX4_isTone_15
    · skip
      refine lv_iconst (v := nI 1) hx hb dX4_isTone_10 (by decide) ?_
      refine lv_goto (tgt := 15) hx hb dX4_isTone_11 (by decide) ?_
      exact hret _ _ (nI 1) () _ _ hP hD hS (by decide) (bt_of (by omega)) dX4_isTone_15
abbrev rm_X4_hasMember : Room := { frames := 0, cells := 0, slots := 0, locals := 0 }
set_option maxHeartbeats 4000000 in
set_option maxRecDepth 100000 in
theorem c_X4_hasMember (l : Launch) (E : EE) (sz : Nat) (a : Nat → Nat) (g : GG) (p0 : Int32) (hm : g 8 0 ≤ 8) : MI l yX4_hasMember cX4_hasMember 2 .boolean rm_X4_hasMember [.ref (a 0), .int p0] E sz [stC E a g] (fun (r : Int32) (_ : Unit) => r = bI (hasM g p0)) (fun _ => [stC E a g]) 0 0 := by
  refine mi_go (by decide) (Nat.le_of_ble_eq_true rfl) ?_
  intro p e s m below meth c A Q ls hx hb hml hown hts hK hZ hA hsz hP hD hl hret
  have hS : va_S A s.heap s.heap [] := va_S.rf
  have hl : lv_has ls 2 [(0, .ref (a 0)), (1, .int p0)] := hl
  skip
  refine lv_iload_n hx hb dX4_hasMember_0 rfl (lv_at hl 1 rfl) ?_
  refine nv_if_lt (X := p0.toInt) hx hb rfl (tgt := 16) dX4_hasMember_1 (by decide) (fun c_1 => ?_) (fun c_1 => ?_)
  · skip
    refine lv_iconst (v := nI 0) hx hb dX4_hasMember_16 (by decide) ?_
    exact hret _ _ (nI 0) () _ _ hP hD hS (by decide) (bf_of (by omega)) dX4_hasMember_17
  · skip
    refine lv_iload_n hx hb dX4_hasMember_4 rfl (lv_at hl 1 rfl) ?_
    refine lv_aload_n hx hb dX4_hasMember_5 rfl (lv_at hl 0 rfl) ?_
    refine va_get (D := E.1) (ci := 8) (v := .int (nI (g 8 0))) (C := RX4) (T := TX4) (N := 16) hx hb hts inX4 hown hK hP 0 rfl rfl 8 (by decide) (hts _ q121) (fun _ h9 => h9) rfl dX4_hasMember_6 ?_
    refine nv_icmp_ge (X := p0.toInt) (Y := ((g 8 0 : Nat) : Int)) hx hb rfl (nI_toInt (by omega)) (tgt := 16) dX4_hasMember_9 (by decide) (fun c_2 => ?_) (fun c_2 => ?_)
    · skip
      refine lv_iconst (v := nI 0) hx hb dX4_hasMember_16 (by decide) ?_
      exact hret _ _ (nI 0) () _ _ hP hD hS (by decide) (bf_of (by omega)) dX4_hasMember_17
    · skip
      refine lv_iconst (v := nI 1) hx hb dX4_hasMember_12 (by decide) ?_
      refine lv_goto (tgt := 17) hx hb dX4_hasMember_13 (by decide) ?_
      exact hret _ _ (nI 1) () _ _ hP hD hS (by decide) (bt_of (by omega)) dX4_hasMember_17
abbrev rm_X4_faultOfQuarter : Room := { frames := 0, cells := 0, slots := 0, locals := 0 }
set_option maxHeartbeats 4000000 in
set_option maxRecDepth 100000 in
theorem c_X4_faultOfQuarter (l : Launch) (E : EE) (sz : Nat) (a : Nat → Nat) (g : GG) (hm : g 8 0 ≤ 8) : MI l yX4_faultOfQuarter cX4_faultOfQuarter 1 .int rm_X4_faultOfQuarter [.ref (a 0)] E sz [stC E a g] (fun (r : Int32) (_ : Unit) => r = nI (if g 8 0 = 0 then 3 else 0)) (fun _ => [stC E a g]) 0 0 := by
  refine mi_go (by decide) (Nat.le_of_ble_eq_true rfl) ?_
  intro p e s m below meth c A Q ls hx hb hml hown hts hK hZ hA hsz hP hD hl hret
  have hS : va_S A s.heap s.heap [] := va_S.rf
  have hl : lv_has ls 1 [(0, .ref (a 0))] := hl
  skip
  refine lv_aload_n hx hb dX4_faultOfQuarter_0 rfl (lv_at hl 0 rfl) ?_
  refine va_get (D := E.1) (ci := 8) (v := .int (nI (g 8 0))) (C := RX4) (T := TX4) (N := 16) hx hb hts inX4 hown hK hP 0 rfl rfl 8 (by decide) (hts _ q121) (fun _ h9 => h9) rfl dX4_faultOfQuarter_1 ?_
  refine nv_if_ne (X := ((g 8 0 : Nat) : Int)) hx hb (nI_toInt (by omega)) (tgt := 11) dX4_faultOfQuarter_4 (by decide) (fun c_1 => ?_) (fun c_1 => ?_)
  · skip
    refine lv_iconst (v := nI 0) hx hb dX4_faultOfQuarter_11 (by decide) ?_
    exact hret _ _ (nI 0) () _ _ hP hD hS rfl (by split <;> first | rfl | omega) dX4_faultOfQuarter_12
  · skip
    refine lv_iconst (v := nI 3) hx hb dX4_faultOfQuarter_7 (by decide) ?_
    refine lv_goto (tgt := 12) hx hb dX4_faultOfQuarter_8 (by decide) ?_
    exact hret _ _ (nI 3) () _ _ hP hD hS rfl (by split <;> first | rfl | omega) dX4_faultOfQuarter_12
abbrev rm_X4_allShares : Room := { frames := 0, cells := 0, slots := 0, locals := 0 }
set_option maxHeartbeats 4000000 in
set_option maxRecDepth 100000 in
theorem c_X4_allShares (l : Launch) (E : EE) (sz : Nat) (a : Nat → Nat) (g : GG) (hm : g 8 0 ≤ 8) : MI l yX4_allShares cX4_allShares 3 .int rm_X4_allShares [.ref (a 0)] E sz [stC E a g] (fun (r : Int32) (_ : Unit) => r = nI (allSh g)) (fun _ => [stC E a g]) 0 0 := by
  refine mi_go (by decide) (Nat.le_of_ble_eq_true rfl) ?_
  intro p e s m below meth c A Q ls hx hb hml hown hts hK hZ hA hsz hP hD hl hret
  have hS : va_S A s.heap s.heap [] := va_S.rf
  have hl : lv_has ls 3 [(0, .ref (a 0))] := hl
  skip
  refine lv_iconst (v := nI 0) hx hb dX4_allShares_0 (by decide) ?_
  refine lv_istore_n (lv' := [(1, .int (nI 0)), (0, .ref (a 0))]) hx hb dX4_allShares_1 rfl hl (by decide) rfl (fun ls hl => ?_)
  refine lv_iconst (v := nI 0) hx hb dX4_allShares_2 (by decide) ?_
  refine lv_istore_n (lv' := [(2, .int (nI 0)), (1, .int (nI 0)), (0, .ref (a 0))]) hx hb dX4_allShares_3 rfl hl (by decide) rfl (fun ls hl => ?_)
  have loop4 : ∀ (n : Nat) (i : Nat), i ≤ g 8 0 → g 8 0 - i < n → ∀ (H : Heap) (locs : List Loc) (ls : Array Slot), va_P E.1 vwCl ([stC E a g] : List va_W).flatten H → va_D A ([stC E a g] : List va_W).flatten → va_S A s.heap H locs → lv_has ls 3 [(0, .ref (a 0)), (1, .int (nI (sm (g 0) i))), (2, .int (nI i))] → W p l e rm_X4_allShares s m ([.ref (a 0)] : List Value).toArray below meth c H locs 0 0 Q (F0 m 4 ls []) := by
    intro n
    induction n with
    | zero => intro i hi hn; exact absurd hn (Nat.not_lt_zero _)
    | succ n ih =>
      intro i hi hn H locs ls hP hD hS hl
      refine lv_iload_n hx hb dX4_allShares_4 rfl (lv_at hl 2 rfl) ?_
      refine lv_aload_n hx hb dX4_allShares_5 rfl (lv_at hl 0 rfl) ?_
      refine va_get (D := E.1) (ci := 8) (v := .int (nI (g 8 0))) (C := RX4) (T := TX4) (N := 16) hx hb hts inX4 hown hK hP 0 rfl rfl 8 (by decide) (hts _ q121) (fun _ h9 => h9) rfl dX4_allShares_6 ?_
      refine nv_icmp_ge (X := ((i : Nat) : Int)) (Y := ((g 8 0 : Nat) : Int)) hx hb (nI_toInt (by omega)) (nI_toInt (by omega)) (tgt := 27) dX4_allShares_9 (by decide) (fun c_1 => ?_) (fun c_1 => ?_)
      · skip
        refine lv_iload_n hx hb dX4_allShares_27 rfl (lv_at hl 1 rfl) ?_
        exact hret _ _ (nI (sm (g 0) i)) () _ _ hP hD hS rfl (by rw [show i = g 8 0 by omega]; rfl) dX4_allShares_28
      · skip
        refine lv_iload_n hx hb dX4_allShares_12 rfl (lv_at hl 1 rfl) ?_
        refine lv_aload_n hx hb dX4_allShares_13 rfl (lv_at hl 0 rfl) ?_
        refine va_get (D := E.1) (ci := 8) (v := .ref (a 1)) (C := RX4) (T := TX4) (N := 16) hx hb hts inX4 hown hK hP 0 rfl rfl 0 (by decide) (hts _ q102) (fun _ h9 => h9) rfl dX4_allShares_14 ?_
        refine lv_iload_n hx hb dX4_allShares_17 rfl (lv_at hl 2 rfl) ?_
        refine nv_iald (f := (g 0)) (i := i) (n := 8) hx hb hK hP 1 0 rfl rfl (by omega) (by decide) dX4_allShares_18 ?_
        refine nv_iadd hx hb dX4_allShares_19 ?_
        refine lv_istore_n (lv' := [(1, .int (nI (sm (g 0) i + (g 0 i)))), (0, .ref (a 0)), (2, .int (nI i))]) hx hb dX4_allShares_20 rfl hl (by decide) rfl (fun ls hl => ?_)
        refine lv_iinc (v := nI (i + 1)) (lv' := [(2, .int (nI (i + 1))), (1, .int (nI (sm (g 0) i + (g 0 i)))), (0, .ref (a 0))]) hx hb dX4_allShares_21 hl (k := 2) rfl (nI_add i 1) (by decide) rfl (fun ls hl => ?_)
        refine lv_goto (tgt := 4) hx hb dX4_allShares_24 (by decide) ?_
        exact ih (i + 1) (by omega) (by omega) _ _ _ hP hD hS (lv_sub hl [2, 1, 0] rfl)
  exact loop4 _ 0 (by omega) (Nat.lt_succ_self _) _ _ _ hP hD hS (lv_sub hl [2, 1, 0] rfl)
