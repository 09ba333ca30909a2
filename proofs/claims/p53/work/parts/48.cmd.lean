/-! a command of a program: its forms one after another -/
def qF (k : Nat) : String × Nat × String := (sRef[11 + k]?).getD ("", 0, "")
theorem qF_ok {k : Nat} (h : k < 7) : sRef[11 + k]? = some (qF k) := by
  rcases (show k = 0 ∨ k = 1 ∨ k = 2 ∨ k = 3 ∨ k = 4 ∨ k = 5 ∨ k = 6 by omega) with rfl | rfl | rfl | rfl | rfl | rfl | rfl <;> rfl
theorem frmR_le {tx : Nat → Nat} {e : Nat} : ∀ (l : List Nat) (sp pl : Nat) (A : Nat → Nat), sp ≤ e → (frmR tx e l sp pl A).1 ≤ e ∧ (frmR tx e l sp pl A).2.1 ≤ 1
  | [], sp, pl, A, h => ⟨h, Nat.le_refl _⟩
  | c :: l, sp, pl, A, h => by
    by_cases h1 : c ≠ 35 ∧ c ≠ 63
    · by_cases h2 : sp < e ∧ tx sp = c
      · rw [frmR_s h1 h2]; exact frmR_le l _ _ _ (by omega)
      · rw [frmR_sf h1 h2]; exact ⟨h, Nat.zero_le _⟩
    · by_cases h2 : sp < e ∧ 48 ≤ tx sp ∧ tx sp ≤ 57
      · rw [frmR_d h1 h2]
        have hdl := digR_le (tx := tx) (f := if c = 35 then 2 else 1) (n := 0) (d := 0) (show sp ≤ e from h)
        exact frmR_le l _ _ _ (by omega)
      · rw [frmR_df h1 h2]; exact ⟨h, Nat.zero_le _⟩
def fmR (tx : Nat → Nat) (e st n k : Nat) (A : Nat → Nat) : Nat × Nat × (Nat → Nat) := frmR tx e (tl (qF k).2.2) st (n * 4) A
def mxN (a b : Nat) : Nat := if a < b then b else a
theorem mxN_le {a b c : Nat} (h : a ≤ c) (h2 : b ≤ c) : mxN a b ≤ c := by unfold mxN; split <;> assumption
/-- the place, whether a command was read, its kind, the arguments -/
def cmdR (tx : Nat → Nat) (e st n : Nat) : Nat → Nat → Nat → (Nat → Nat) → Nat × Nat × Nat × (Nat → Nat)
  | 0, k, fur, A => (fur, 0, k, A)
  | f + 1, k, fur, A => if (fmR tx e st n k A).2.1 = 0 then cmdR tx e st n f (k + 1) (mxN fur (fmR tx e st n k A).1) (fmR tx e st n k A).2.2 else ((fmR tx e st n k A).1, 1, k, (fmR tx e st n k A).2.2)
theorem cmdR_f {tx : Nat → Nat} {e st n f k fur x : Nat} {A A2 : Nat → Nat} (h : fmR tx e st n k A = (x, 0, A2)) : cmdR tx e st n (f + 1) k fur A = cmdR tx e st n f (k + 1) (mxN fur x) A2 := by
  show (if (fmR tx e st n k A).2.1 = 0 then _ else _) = _
  rw [h, if_pos rfl]
theorem cmdR_t {tx : Nat → Nat} {e st n f k fur x y : Nat} {A A2 : Nat → Nat} (h : fmR tx e st n k A = (x, y, A2)) (hy : y ≠ 0) : cmdR tx e st n (f + 1) k fur A = (x, 1, k, A2) := by
  show (if (fmR tx e st n k A).2.1 = 0 then _ else _) = _
  rw [h, if_neg hy]
theorem cmdR_le {tx : Nat → Nat} {e st n : Nat} (hs : st ≤ e) : ∀ (f k fur : Nat) (A : Nat → Nat), fur ≤ e → (cmdR tx e st n f k fur A).1 ≤ e ∧ (cmdR tx e st n f k fur A).2.1 ≤ 1 ∧ (cmdR tx e st n f k fur A).2.2.1 ≤ k + f
  | 0, k, fur, A, h => ⟨h, Nat.zero_le _, Nat.le_refl _⟩
  | f + 1, k, fur, A, h => by
    have h1 := frmR_le (tx := tx) (e := e) (tl (qF k).2.2) st (n * 4) A hs
    show (if (fmR tx e st n k A).2.1 = 0 then _ else _ : Nat × Nat × Nat × (Nat → Nat)).1 ≤ e ∧ (if (fmR tx e st n k A).2.1 = 0 then _ else _ : Nat × Nat × Nat × (Nat → Nat)).2.1 ≤ 1 ∧ (if (fmR tx e st n k A).2.1 = 0 then _ else _ : Nat × Nat × Nat × (Nat → Nat)).2.2.1 ≤ k + (f + 1)
    split
    · have h2 := cmdR_le (tx := tx) (n := n) hs f (k + 1) (mxN fur (fmR tx e st n k A).1) (fmR tx e st n k A).2.2 (mxN_le h h1.1)
      exact ⟨h2.1, h2.2.1, by have := h2.2.2; omega⟩
    · exact ⟨h1.1, Nat.le_refl _, by show k ≤ _; omega⟩
theorem upr_id1 {g : GG} {k : Nat} {f : Nat → Nat} (h : f = g k) : upr g k f = g := by subst h; exact upr_id
abbrev rm_X3_readCommand : Room := { frames := 5, cells := 0, slots := 0, locals := 110 }
set_option maxHeartbeats 4000000 in
set_option maxRecDepth 100000 in
theorem c_X3_readCommand (l : Launch) (E : EE) (sz : Nat) (a : Nat → Nat) (q : Nat → Nat) (F : GG) (n0 : Nat) (hn0 : n0 ≤ 7) (h0 : q 0 ≤ 60) (h2 : q 2 ≤ q 0) (ho : ∀ j, F 0 j < 65536)  : MI l yX3_readCommand cX3_readCommand 5 .boolean rm_X3_readCommand [.ref (a 0), .int (nI n0)] E sz [prC E a q F] (fun (r : Int32) (_ : Unit) => r = nI (cmdR (F 0) (q 0) (q 2) n0 7 0 (q 2) (F 2)).2.1) (fun _ => [prC E a (upn q 2 (cmdR (F 0) (q 0) (q 2) n0 7 0 (q 2) (F 2)).1) (upr (upr F 2 (cmdR (F 0) (q 0) (q 2) n0 7 0 (q 2) (F 2)).2.2.2) 1 (if (cmdR (F 0) (q 0) (q 2) n0 7 0 (q 2) (F 2)).2.1 = 0 then F 1 else upn (F 1) n0 (cmdR (F 0) (q 0) (q 2) n0 7 0 (q 2) (F 2)).2.2.1))]) 0 0 := by
  refine mi_go (by decide) (Nat.le_of_ble_eq_true rfl) ?_
  intro p e s m below meth c A Q ls hx hb hml hown hts hK hZ hA hsz hP hD hl hret
  have hS : va_S A s.heap s.heap [] := va_S.rf
  have hl : lv_has ls 5 [(0, .ref (a 0)), (1, .int (nI n0))] := hl
  skip
  refine lv_aload_n hx hb dX3_readCommand_0 rfl (lv_at hl 0 rfl) ?_
  refine va_get (D := E.1) (ci := 7) (v := .int (nI (q 2))) (C := RX3) (T := TX3) (N := 6) hx hb hts inX3 hown hK hP 0 rfl rfl 5 (by decide) (hts _ q197) (fun _ h9 => h9) rfl dX3_readCommand_1 ?_
  refine lv_istore_n (lv' := [(2, .int (nI (q 2))), (0, .ref (a 0)), (1, .int (nI n0))]) hx hb dX3_readCommand_4 rfl hl (by decide) rfl (fun ls hl => ?_)
  refine lv_iload_n hx hb dX3_readCommand_5 rfl (lv_at hl 0 rfl) ?_
  refine lv_istore_n (lv' := [(3, .int (nI (q 2))), (2, .int (nI (q 2))), (0, .ref (a 0)), (1, .int (nI n0))]) hx hb dX3_readCommand_6 rfl hl (by decide) rfl (fun ls hl => ?_)
  refine lv_iconst (v := nI 0) hx hb dX3_readCommand_7 (by decide) ?_
  refine lv_istore (lv' := [(4, .int (nI 0)), (3, .int (nI (q 2))), (2, .int (nI (q 2))), (0, .ref (a 0)), (1, .int (nI n0))]) hx hb dX3_readCommand_8 hl (by decide) rfl (fun ls hl => ?_)
  have loop10 : ∀ (n : Nat) (k : Nat) (fu : Nat) (sp : Nat) (A9 : Nat → Nat), (k ≤ 7) → (fu ≤ q 0) → ((cmdR (F 0) (q 0) (q 2) n0 7 0 (q 2) (F 2)) = cmdR (F 0) (q 0) (q 2) n0 (7 - k) k fu A9) → 7 - k < n → ∀ (H : Heap) (locs : List Loc) (ls : Array Slot), va_P E.1 vwCl ([prC E a (upn q 2 sp) (upr F 2 A9)] : List va_W).flatten H → va_D A ([prC E a (upn q 2 sp) (upr F 2 A9)] : List va_W).flatten → va_S A s.heap H locs → lv_has ls 5 [(0, .ref (a 0)), (1, .int (nI n0)), (2, .int (nI (q 2))), (3, .int (nI fu)), (4, .int (nI k))] → W p l e rm_X3_readCommand s m ([.ref (a 0), .int (nI n0)] : List Value).toArray below meth c H locs 0 0 Q (F0 m 10 ls []) := by
    intro n10
    induction n10 with
    | zero => intro k fu sp A9 hk hfu heq hn10; exact absurd hn10 (Nat.not_lt_zero _)
    | succ n10 ih10 =>
      intro k fu sp A9 hk hfu heq hn10 H locs ls hP hD hS hl
      refine lv_iload hx hb dX3_readCommand_10 (lv_at hl 4 rfl) ?_
      refine lv_bipush (v := nI 7) hx hb dX3_readCommand_12 (by decide) ?_
      refine nv_icmp_ge (X := ((k : Nat) : Int)) (Y := ((7 : Nat) : Int)) hx hb (nI_toInt (by omega)) (nI_toInt (by omega)) (tgt := 60) dX3_readCommand_14 (by decide) (fun c_1 => ?_) (fun c_1 => ?_)
      · skip
        have hfn : (cmdR (F 0) (q 0) (q 2) n0 7 0 (q 2) (F 2)) = (fu, 0, k, A9) := by rw [heq, show 7 - k = 0 by omega]; rfl
        refine lv_aload_n hx hb dX3_readCommand_60 rfl (lv_at hl 0 rfl) ?_
        refine lv_iload_n hx hb dX3_readCommand_61 rfl (lv_at hl 3 rfl) ?_
        refine va_put (D := E.1) (ci := 7) (v := .int (nI fu)) (ty := .int) (C := RX3) (T := TX3) (N := 6) hx hb hts inX3 tyX3 tyX3_ok nmX3 hown hK hP hD hS 0 rfl rfl 5 (by decide) (hts _ q197) (fun _ h9 => h9) rfl (by decide +kernel) rfl rfl (Nat.le_of_ble_eq_true rfl) dX3_readCommand_62 (fun H locs hP hD hS => ?_)
        have hP : va_P E.1 vwCl ([prC E a (upn (upn q 2 sp) 2 fu) (upr F 2 A9)] : List va_W).flatten H := hP
        have hD : va_D A ([prC E a (upn (upn q 2 sp) 2 fu) (upr F 2 A9)] : List va_W).flatten := hD
        have hmE : prC E a (upn (upn q 2 sp) 2 fu) (upr F 2 A9) = prC E a (upn q 2 fu) (upr F 2 A9) := by rw [upn_upn]
        rw [hmE] at hP hD; clear hmE
        refine lv_iconst (v := nI 0) hx hb dX3_readCommand_65 (by decide) ?_
        have hmE : prC E a (upn q 2 fu) (upr F 2 A9) = prC E a (upn q 2 (cmdR (F 0) (q 0) (q 2) n0 7 0 (q 2) (F 2)).1) (upr (upr F 2 (cmdR (F 0) (q 0) (q 2) n0 7 0 (q 2) (F 2)).2.2.2) 1 (if (cmdR (F 0) (q 0) (q 2) n0 7 0 (q 2) (F 2)).2.1 = 0 then F 1 else upn (F 1) n0 (cmdR (F 0) (q 0) (q 2) n0 7 0 (q 2) (F 2)).2.2.1)) := by rw [hfn]; exact congrArg (prC E a _) (upr_id1 rfl).symm
        rw [hmE] at hP hD; clear hmE
        exact hret _ _ (nI 0) () _ _ hP hD hS (by decide) (by rw [hfn]) dX3_readCommand_66
      · skip
        refine lv_aload_n hx hb dX3_readCommand_17 rfl (lv_at hl 0 rfl) ?_
        refine lv_iload_n hx hb dX3_readCommand_18 rfl (lv_at hl 2 rfl) ?_
        refine va_put (D := E.1) (ci := 7) (v := .int (nI (q 2))) (ty := .int) (C := RX3) (T := TX3) (N := 6) hx hb hts inX3 tyX3 tyX3_ok nmX3 hown hK hP hD hS 0 rfl rfl 5 (by decide) (hts _ q197) (fun _ h9 => h9) rfl (by decide +kernel) rfl rfl (Nat.le_of_ble_eq_true rfl) dX3_readCommand_19 (fun H locs hP hD hS => ?_)
        have hP : va_P E.1 vwCl ([prC E a (upn (upn q 2 sp) 2 (q 2)) (upr F 2 A9)] : List va_W).flatten H := hP
        have hD : va_D A ([prC E a (upn (upn q 2 sp) 2 (q 2)) (upr F 2 A9)] : List va_W).flatten := hD
        have hmE : prC E a (upn (upn q 2 sp) 2 (q 2)) (upr F 2 A9) = prC E a (upn q 2 (q 2)) (upr F 2 A9) := by rw [upn_upn]
        rw [hmE] at hP hD; clear hmE
        refine lv_aload_n hx hb dX3_readCommand_22 rfl (lv_at hl 0 rfl) ?_
        refine lv_iload hx hb dX3_readCommand_23 (lv_at hl 4 rfl) ?_
        refine run_r (run_S (As := [.int (nI k)]) (rest := [.ref (a 0)]) (bs := [prC E a (upn q 2 (q 2)) (upr F 2 A9)]) (cb := []) hx hb hml hown hts hK hZ hA (c_X3_formOf l E _ k (by omega)) l_X3_38 rfl ⟨⟨rfl, rfl⟩, Nat.le_of_ble_eq_true rfl, Nat.le_of_ble_eq_true rfl⟩ [] rfl (by decide) hP hD hS hl.1 rfl (Nat.le_of_ble_eq_true rfl) dX3_readCommand_25 ⟨Nat.zero_le _, Nat.zero_le _⟩) hA hP hD hS (isC := []) rfl [0] [0] (br := [prC E a (upn q 2 (q 2)) (upr F 2 A9)]) (bs2 := [prC E a (upn q 2 (q 2)) (upr F 2 A9)]) rfl (by decide) rfl (by decide) (fun H locs hP hD hS => ?_)
        refine lv_iload_n hx hb dX3_readCommand_28 rfl (lv_at hl 1 rfl) ?_
        refine run_i (S := Unit) (run_V (As := [.ref (E.2.2 (11 + k)), .int (nI n0)]) (rest := []) (bs := [prC E a (upn q 2 (q 2)) (upr F 2 A9)]) (cb := [prC E a (upn q 2 (q 2)) (upr F 2 A9)]) hx hb hml hown hts hK hZ hA (c_X3_readForm l E _ a (upn q 2 (q 2)) (upr F 2 A9) (11 + k) (qF k) (qF_ok (by omega)) n0 (by omega) (by omega) (by omega) (show q 0 ≤ 60 by omega) (show q 2 ≤ q 0 by omega) ho) l_X3_42 rfl ⟨⟨rfl, rfl⟩, Nat.le_of_ble_eq_true rfl, Nat.le_of_ble_eq_true rfl⟩ 7 rfl [0] rfl (by decide) rfl hP hD hS hl.1 rfl (Nat.le_of_ble_eq_true rfl) dX3_readCommand_29 ⟨Nat.zero_le _, Nat.zero_le _⟩) hA hP hD hS (isC := [0]) rfl [] [0] (br := []) (bs2 := fun _ => [prC E a (upn (upn q 2 (q 2)) 2 ((fmR (F 0) (q 0) (q 2) n0 k A9).1)) (upr (upr F 2 A9) 2 ((fmR (F 0) (q 0) (q 2) n0 k A9).2.2))]) rfl (by decide) (fun _ => rfl) (by decide) (fun r u H locs hw hP hD hS => ?_)
        have hw : r = nI (fmR (F 0) (q 0) (q 2) n0 k A9).2.1 := hw
        subst hw
        have hfl := frmR_le (tx := (F 0)) (e := q 0) (tl (qF k).2.2) (q 2) (n0 * 4) A9 (by omega)
        have hfl : (fmR (F 0) (q 0) (q 2) n0 k A9).1 ≤ _ ∧ (fmR (F 0) (q 0) (q 2) n0 k A9).2.1 ≤ 1 := hfl
        rcases hFM : fmR (F 0) (q 0) (q 2) n0 k A9 with ⟨xq, yq, Aq⟩
        rw [hFM] at hP hD hfl
        have hfl : xq ≤ q 0 ∧ yq ≤ 1 := hfl
        rw [upn_upn, upr_upr] at hP hD
        have hP : va_P E.1 vwCl ([prC E a (upn q 2 xq) (upr F 2 Aq)] : List va_W).flatten H := hP
        have hD : va_D A ([prC E a (upn q 2 xq) (upr F 2 Aq)] : List va_W).flatten := hD
        refine nv_if_eq (X := ((yq : Nat) : Int)) hx hb (nI_toInt (by omega)) (tgt := 45) dX3_readCommand_32 (by decide) (fun c_2 => ?_) (fun c_2 => ?_)
        · skip
          obtain rfl : yq = 0 := by omega
          refine lv_iload_n hx hb dX3_readCommand_45 rfl (lv_at hl 3 rfl) ?_
          refine lv_aload_n hx hb dX3_readCommand_46 rfl (lv_at hl 0 rfl) ?_
          refine va_get (D := E.1) (ci := 7) (v := .int (nI xq)) (C := RX3) (T := TX3) (N := 6) hx hb hts inX3 hown hK hP 0 rfl rfl 5 (by decide) (hts _ q197) (fun _ h9 => h9) rfl dX3_readCommand_47 ?_
          refine va_mmax hx hb (hml.trans hl.1.symm) hown (hts _ q1008) (hts _ q734) (hts _ q39) (hts _ q735) (Nat.le_of_ble_eq_true rfl) (Nat.le_of_ble_eq_true rfl) (Nat.le_of_ble_eq_true rfl) (Nat.le_of_ble_eq_true rfl) dX3_readCommand_50 ?_
          refine tp_i (nI_mx (a := fu) (b := xq) (by omega) (by omega)) ?_
          refine tp_i (show _ = nI (mxN fu xq) from rfl) ?_
          refine lv_istore_n (lv' := [(3, .int (nI (mxN fu xq))), (0, .ref (a 0)), (1, .int (nI n0)), (2, .int (nI (q 2))), (4, .int (nI k))]) hx hb dX3_readCommand_53 rfl hl (by decide) rfl (fun ls hl => ?_)
          refine lv_iinc (v := nI (k + 1)) (lv' := [(4, .int (nI (k + 1))), (3, .int (nI (mxN fu xq))), (0, .ref (a 0)), (1, .int (nI n0)), (2, .int (nI (q 2)))]) hx hb dX3_readCommand_54 hl (k := 4) rfl (nI_add k 1) (by decide) rfl (fun ls hl => ?_)
          refine lv_goto (tgt := 10) hx hb dX3_readCommand_57 (by decide) ?_
          exact ih10 (k + 1) (mxN fu xq) xq Aq (by omega) (mxN_le (by omega) (by omega)) (by rw [heq, show 7 - k = (7 - (k + 1)) + 1 by omega]; exact cmdR_f hFM) (by omega) _ _ _ hP hD hS (lv_sub hl [2, 3, 4, 1, 0] rfl)
        · skip
          have hfn : (cmdR (F 0) (q 0) (q 2) n0 7 0 (q 2) (F 2)) = (xq, 1, k, Aq) := by rw [heq, show 7 - k = (6 - k) + 1 by omega]; exact cmdR_t hFM (by omega)
          refine lv_aload_n hx hb dX3_readCommand_35 rfl (lv_at hl 0 rfl) ?_
          refine va_get (D := E.1) (ci := 7) (v := .ref (a 2)) (C := RX3) (T := TX3) (N := 6) hx hb hts inX3 hown hK hP 0 rfl rfl 1 (by decide) (hts _ q192) (fun _ h9 => h9) rfl dX3_readCommand_36 ?_
          refine lv_iload_n hx hb dX3_readCommand_39 rfl (lv_at hl 1 rfl) ?_
          refine lv_iload hx hb dX3_readCommand_40 (lv_at hl 4 rfl) ?_
          refine nv_iast (f := (F 1)) (i := n0) (v := k) (n := 8) hx hb hK hP hD hS 2 0 rfl rfl (by omega) (by decide) dX3_readCommand_42 (fun H locs hP hD hS => ?_)
          have hP : va_P E.1 vwCl ([prC E a (upn q 2 xq) (upr (upr F 2 Aq) 1 (upn (F 1) n0 k))] : List va_W).flatten H := hP
          have hD : va_D A ([prC E a (upn q 2 xq) (upr (upr F 2 Aq) 1 (upn (F 1) n0 k))] : List va_W).flatten := hD
          refine lv_iconst (v := nI 1) hx hb dX3_readCommand_43 (by decide) ?_
          have hmE : prC E a (upn q 2 xq) (upr (upr F 2 Aq) 1 (upn (F 1) n0 k)) = prC E a (upn q 2 (cmdR (F 0) (q 0) (q 2) n0 7 0 (q 2) (F 2)).1) (upr (upr F 2 (cmdR (F 0) (q 0) (q 2) n0 7 0 (q 2) (F 2)).2.2.2) 1 (if (cmdR (F 0) (q 0) (q 2) n0 7 0 (q 2) (F 2)).2.1 = 0 then F 1 else upn (F 1) n0 (cmdR (F 0) (q 0) (q 2) n0 7 0 (q 2) (F 2)).2.2.1)) := by rw [hfn]; rfl
          rw [hmE] at hP hD; clear hmE
          exact hret _ _ (nI 1) () _ _ hP hD hS (by decide) (by rw [hfn]) dX3_readCommand_44
  rw [show prC E a q F = prC E a (upn q 2 (q 2)) (upr F 2 (F 2)) from by rw [upn_id, upr_id]] at hP hD
  exact loop10 _ 0 (q 2) (q 2) (F 2) (by omega) (by omega) rfl (Nat.lt_succ_self _) _ _ _ hP hD hS (lv_sub hl [3, 4, 2, 1, 0] rfl)
