abbrev rm_X5_append : Room := { frames := 6, cells := 1, slots := 6, locals := 100 }
set_option maxHeartbeats 4000000 in
set_option maxRecDepth 100000 in
theorem c_X5_append (l : Launch) (hst : l.stackTraces = false) (E : EE) (sz : Nat) (x a a2 a3 b d k pa y w : Nat → Nat) (q : Nat → Nat) (F : GG) (n0 : Nat) (hn : n0 < 65536) (h0 : q 0 ≤ 60) : XI l yX5_append cX5_append 2 .int rm_X5_append [.ref (x 0), .int (nI n0)] E sz [coC E x a a2 a3 b d k pa y w, prC E pa q F] (fun (r : Int32) (_ : Unit) => q 0 < 60 ∧ r = nI (q 0 + 1)) (fun _ => [coC E x a a2 a3 b d k pa y w, prC E pa (upn q 0 (q 0 + 1)) (upr F 0 (upn (F 0) (q 0) n0))]) (fun (Ex : String) (_ : Unit) => Ex = ISX ∧ ¬ q 0 < 60) (fun _ => [coC E x a a2 a3 b d k pa y w, prC E pa q F]) 1 6 := by
  refine xi_go hst (by decide) rfl (Nat.le_of_ble_eq_true rfl) ?_
  intro p e s m below meth c A Q ls hx hb hml hown hts hK hZ hDD hA hsz hP hD hl hret hprop hthr
  have hS : va_S A s.heap s.heap [] := va_S.rf
  have hl : lv_has ls 2 [(0, .ref (x 0)), (1, .int (nI n0))] := hl
  skip
  refine lv_aload_n hx hb dX5_append_0 rfl (lv_at hl 0 rfl) ?_
  refine va_get (D := E.1) (ci := 9) (v := .ref (pa 0)) (C := RX5) (T := TX5) (N := 11) hx hb hts inX5 hown hK hP 0 rfl rfl 6 (by decide) (hts _ q252) (fun _ h9 => h9) rfl dX5_append_1 ?_
  refine run_i (S := Unit) (run_V (As := []) (rest := []) (bs := [coC E x a a2 a3 b d k pa y w, prC E pa q F]) (cb := [prC E pa q F]) hx hb hml hown hts hK hZ hA (c_X3_isFull l E _ pa q F  (by omega)) l_X5_259 rfl ⟨⟨rfl, rfl⟩, Nat.le_of_ble_eq_true rfl, Nat.le_of_ble_eq_true rfl⟩ 7 rfl [1] rfl (by decide) rfl hP hD hS hl.1 rfl (Nat.le_of_ble_eq_true rfl) dX5_append_4 ⟨Nat.zero_le _, Nat.zero_le _⟩) hA hP hD hS (isC := [1]) rfl [0] [0, 1] (br := [coC E x a a2 a3 b d k pa y w]) (bs2 := fun _ => [coC E x a a2 a3 b d k pa y w, prC E pa q F]) rfl (by decide) (fun _ => rfl) (by decide) (fun r u H locs hw hP hD hS => ?_)
  subst hw
  refine bv_if_eq hx hb (tgt := 21) dX5_append_7 (by decide) (fun c_1 => ?_) (fun c_1 => ?_)
  · skip
    have hf9 := of_decide_eq_false c_1
    refine lv_aload_n hx hb dX5_append_21 rfl (lv_at hl 0 rfl) ?_
    refine va_get (D := E.1) (ci := 9) (v := .ref (pa 0)) (C := RX5) (T := TX5) (N := 11) hx hb hts inX5 hown hK hP 0 rfl rfl 6 (by decide) (hts _ q252) (fun _ h9 => h9) rfl dX5_append_22 ?_
    refine lv_iload_n hx hb dX5_append_25 rfl (lv_at hl 1 rfl) ?_
    refine run_i (S := Unit) (run_V (As := [.int (nI n0)]) (rest := []) (bs := [coC E x a a2 a3 b d k pa y w, prC E pa q F]) (cb := [prC E pa q F]) hx hb hml hown hts hK hZ hA (c_X3_add l E _ pa q F n0 (by omega) (by omega)) l_X5_268 rfl ⟨⟨rfl, rfl⟩, Nat.le_of_ble_eq_true rfl, Nat.le_of_ble_eq_true rfl⟩ 7 rfl [1] rfl (by decide) rfl hP hD hS hl.1 rfl (Nat.le_of_ble_eq_true rfl) dX5_append_26 ⟨Nat.zero_le _, Nat.zero_le _⟩) hA hP hD hS (isC := [1]) rfl [0] [0, 1] (br := [coC E x a a2 a3 b d k pa y w]) (bs2 := fun _ => [coC E x a a2 a3 b d k pa y w, prC E pa (upn q 0 (q 0 + 1)) (upr F 0 (upn (F 0) (q 0) n0))]) rfl (by decide) (fun _ => rfl) (by decide) (fun r u H locs hw hP hD hS => ?_)
    subst hw
    exact hret _ _ (nI (q 0 + 1)) () _ _ _ _ hP hD hS rfl ⟨by omega, rfl⟩ dX5_append_29 (by omega) (by omega)
  · skip
    have ht9 := of_decide_eq_true c_1
    exact hthr (ISX, 263, 267) 10 ("CricketCooperative", 265, "the text buffer is full") () _ _ 10 _ [] _ _ mx_ISX rfl rfl ⟨rfl, by omega⟩ hP hD hS hl.1 dX5_append_10 dX5_append_13 (Or.inr ⟨dX5_append_14, dX5_append_17, dX5_append_20⟩) (Nat.le_of_ble_eq_true rfl) (Nat.le_of_ble_eq_true rfl) (Nat.le_of_ble_eq_true rfl) (Nat.le_of_ble_eq_true rfl) (Nat.le_of_ble_eq_true rfl) (Nat.le_of_ble_eq_true rfl)
abbrev rm_X5_errorPosition : Room := { frames := 6, cells := 1, slots := 6, locals := 100 }
abbrev rm_X5_failedCommand : Room := { frames := 6, cells := 1, slots := 6, locals := 100 }
abbrev rm_X5_undo : Room := { frames := 6, cells := 1, slots := 6, locals := 162 }
set_option maxHeartbeats 4000000 in
set_option maxRecDepth 100000 in
theorem c_X5_undo (l : Launch) (hst : l.stackTraces = false) (E : EE) (sz : Nat) (x a a2 a3 b d k pa y w : Nat → Nat) (g : GG) (B : Nat) (hI : IB B g) (hs : Nat → Nat → Nat) (hg : Nat → GG) (nx ct : Nat) (hnx : nx < 8) (hct : ct ≤ 8)  : XI l yX5_undo cX5_undo 1 .int rm_X5_undo [.ref (x 0)] E sz [coC E x a a2 a3 b d k pa y w, hhC E b hs hg nx ct, stC E a g] (fun (r : Int32) (_ : Unit) => ct ≠ 0 ∧ r = nI (ct - 1)) (fun _ => [coC E x a a2 a3 b d k pa y w, hhC E b hs hg ((nx + 8 - 1) % 8) (ct - 1), stC E a (hg ((nx + 8 - 1) % 8))]) (fun (Ex : String) (_ : Unit) => Ex = ISX ∧ ct = 0) (fun _ => [coC E x a a2 a3 b d k pa y w, hhC E b hs hg nx ct, stC E a g]) 1 6 := by
  refine xi_go hst (by decide) rfl (Nat.le_of_ble_eq_true rfl) ?_
  intro p e s m below meth c A Q ls hx hb hml hown hts hK hZ hDD hA hsz hP hD hl hret hprop hthr
  have hS : va_S A s.heap s.heap [] := va_S.rf
  have hl : lv_has ls 1 [(0, .ref (x 0))] := hl
  skip
  have hmc := hI.mc
  have hbu := hI.bud
  refine lv_aload_n hx hb dX5_undo_0 rfl (lv_at hl 0 rfl) ?_
  refine va_get (D := E.1) (ci := 9) (v := .ref (b 0)) (C := RX5) (T := TX5) (N := 11) hx hb hts inX5 hown hK hP 0 rfl rfl 3 (by decide) (hts _ q249) (fun _ h9 => h9) rfl dX5_undo_1 ?_
  refine va_get (D := E.1) (ci := 6) (v := .int (nI ct)) (C := RX2) (T := TX2) (N := 3) hx hb hts inX2 hown hK hP 1 rfl rfl 2 (by decide) (hts _ q151) (fun _ h9 => h9) rfl dX5_undo_4 ?_
  refine nv_if_ne (X := ((ct : Nat) : Int)) hx hb (nI_toInt (by omega)) (tgt := 21) dX5_undo_7 (by decide) (fun c_1 => ?_) (fun c_1 => ?_)
  · skip
    refine lv_aload_n hx hb dX5_undo_21 rfl (lv_at hl 0 rfl) ?_
    refine va_get (D := E.1) (ci := 9) (v := .ref (b 0)) (C := RX5) (T := TX5) (N := 11) hx hb hts inX5 hown hK hP 0 rfl rfl 3 (by decide) (hts _ q249) (fun _ h9 => h9) rfl dX5_undo_22 ?_
    refine lv_aload_n hx hb dX5_undo_25 rfl (lv_at hl 0 rfl) ?_
    refine va_get (D := E.1) (ci := 9) (v := .ref (a 0)) (C := RX5) (T := TX5) (N := 11) hx hb hts inX5 hown hK hP 0 rfl rfl 0 (by decide) (hts _ q246) (fun _ h9 => h9) rfl dX5_undo_26 ?_
    refine run_i (S := Unit) (run_V (As := [.ref (a 0)]) (rest := []) (bs := [coC E x a a2 a3 b d k pa y w, hhC E b hs hg nx ct, stC E a g]) (cb := [hhC E b hs hg nx ct, stC E a g]) hx hb hml hown hts hK hZ hA (c_X2_takeBack l E _ b hs hg nx ct a g (by omega) (by omega) (by omega)) l_X5_328 rfl ⟨⟨rfl, rfl⟩, Nat.le_of_ble_eq_true rfl, Nat.le_of_ble_eq_true rfl⟩ 6 rfl [1, 2] rfl (by decide) rfl hP hD hS hl.1 rfl (Nat.le_of_ble_eq_true rfl) dX5_undo_29 ⟨Nat.zero_le _, Nat.zero_le _⟩) hA hP hD hS (isC := [1, 2]) rfl [0] [0, 1, 2] (br := [coC E x a a2 a3 b d k pa y w]) (bs2 := fun _ => [coC E x a a2 a3 b d k pa y w, hhC E b hs hg ((nx + 8 - 1) % 8) (ct - 1), stC E a (hg ((nx + 8 - 1) % 8))]) rfl (by decide) (fun _ => rfl) (by decide) (fun r u H locs hw hP hD hS => ?_)
    subst hw
    exact hret _ _ (nI (ct - 1)) () _ _ _ _ hP hD hS rfl ⟨by omega, rfl⟩ dX5_undo_32 (by omega) (by omega)
  · skip
    exact hthr (ISX, 263, 267) 29 ("CricketCooperative", 326, "no call can be undone") () _ _ 10 _ [] _ _ mx_ISX rfl rfl ⟨rfl, by omega⟩ hP hD hS hl.1 dX5_undo_10 dX5_undo_13 (Or.inr ⟨dX5_undo_14, dX5_undo_17, dX5_undo_20⟩) (Nat.le_of_ble_eq_true rfl) (Nat.le_of_ble_eq_true rfl) (Nat.le_of_ble_eq_true rfl) (Nat.le_of_ble_eq_true rfl) (Nat.le_of_ble_eq_true rfl) (Nat.le_of_ble_eq_true rfl)
abbrev rm_X5_save : Room := { frames := 2, cells := 0, slots := 0, locals := 141 }
set_option maxHeartbeats 4000000 in
set_option maxRecDepth 100000 in
theorem c_X5_save (l : Launch) (E : EE) (sz : Nat) (x a a2 a3 b d k pa y w : Nat → Nat) (g g2 : GG)  : MV l yX5_save cX5_save 1 rm_X5_save [.ref (x 0)] E sz [coC E x a a2 a3 b d k pa y w, stC E a g, stC E a2 g2] (fun (_ : Unit) => True) (fun _ => [coC E x a a2 a3 b d k pa y (upn w 0 1), stC E a g, stC E a2 g]) 0 0 := by
  refine mv_go (by decide) (Nat.le_of_ble_eq_true rfl) ?_
  intro p e s m below meth c A Q ls hx hb hml hown hts hK hZ hA hsz hP hD hl hret hnm
  have hS : va_S A s.heap s.heap [] := va_S.rf
  have hl : lv_has ls 1 [(0, .ref (x 0))] := hl
  skip
  refine lv_aload_n hx hb dX5_save_0 rfl (lv_at hl 0 rfl) ?_
  refine va_get (D := E.1) (ci := 9) (v := .ref (a2 0)) (C := RX5) (T := TX5) (N := 11) hx hb hts inX5 hown hK hP 0 rfl rfl 1 (by decide) (hts _ q247) (fun _ h9 => h9) rfl dX5_save_1 ?_
  refine lv_aload_n hx hb dX5_save_4 rfl (lv_at hl 0 rfl) ?_
  refine va_get (D := E.1) (ci := 9) (v := .ref (a 0)) (C := RX5) (T := TX5) (N := 11) hx hb hts inX5 hown hK hP 0 rfl rfl 0 (by decide) (hts _ q246) (fun _ h9 => h9) rfl dX5_save_5 ?_
  refine run_v (S := Unit) (run_V (As := [.ref (a 0)]) (rest := []) (bs := [coC E x a a2 a3 b d k pa y w, stC E a g, stC E a2 g2]) (cb := [stC E a2 g2, stC E a g]) hx hb hml hown hts hK hZ hA (c_X4_copyFrom l E _ a2 g2 a g) l_X5_186 rfl ⟨⟨rfl, rfl⟩, Nat.le_of_ble_eq_true rfl, Nat.le_of_ble_eq_true rfl⟩ 8 rfl [2, 1] rfl (by decide) rfl hP hD hS hl.1 rfl (Nat.le_of_ble_eq_true rfl) dX5_save_8 ⟨Nat.zero_le _, Nat.zero_le _⟩) hA hP hD hS (isC := [2, 1]) rfl [0] [0, 2, 1] (br := [coC E x a a2 a3 b d k pa y w]) (bs2 := fun _ => [coC E x a a2 a3 b d k pa y w, stC E a g, stC E a2 g]) rfl (by decide) (fun _ => rfl) (by decide) (fun u H locs hw hP hD hS => ?_)
  refine lv_aload_n hx hb dX5_save_11 rfl (lv_at hl 0 rfl) ?_
  refine lv_iconst (v := nI 1) hx hb dX5_save_12 (by decide) ?_
  refine va_put (D := E.1) (ci := 9) (v := .int (nI 1)) (ty := .boolean) (C := RX5) (T := TX5) (N := 11) hx hb hts inX5 tyX5 tyX5_ok nmX5 hown hK hP hD hS 0 rfl rfl 8 (by decide) (hts _ q254) (fun _ h9 => h9) rfl (by decide +kernel) (by decide) rfl (Nat.le_of_ble_eq_true rfl) dX5_save_13 (fun H locs hP hD hS => ?_)
  have hP : va_P E.1 vwCl ([coC E x a a2 a3 b d k pa y (upn w 0 1), stC E a g, stC E a2 g] : List va_W).flatten H := hP
  have hD : va_D A ([coC E x a a2 a3 b d k pa y (upn w 0 1), stC E a g, stC E a2 g] : List va_W).flatten := hD
  exact hret _ _ () _ _ hP hD hS trivial dX5_save_16
abbrev rm_X5_restore : Room := { frames := 6, cells := 1, slots := 6, locals := 141 }
set_option maxHeartbeats 4000000 in
set_option maxRecDepth 100000 in
theorem c_X5_restore (l : Launch) (hst : l.stackTraces = false) (E : EE) (sz : Nat) (x a a2 a3 b d k pa y w : Nat → Nat) (hs : Nat → Nat → Nat) (hg : Nat → GG) (nx ct : Nat) (hnx : nx < 8) (hct : ct ≤ 8) (g g2 : GG) (hw : w 0 ≤ 1) : XV l yX5_restore cX5_restore 1 rm_X5_restore [.ref (x 0)] E sz [coC E x a a2 a3 b d k pa y w, hhC E b hs hg nx ct, stC E a g, stC E a2 g2] (fun (_ : Unit) => w 0 ≠ 0) (fun _ => [coC E x a a2 a3 b d k pa y w, hhC E b hs hg nx 0, stC E a g2, stC E a2 g2]) (fun (Ex : String) (_ : Unit) => Ex = ISX ∧ w 0 = 0) (fun _ => [coC E x a a2 a3 b d k pa y w, hhC E b hs hg nx ct, stC E a g, stC E a2 g2]) 1 6 := by
  refine xv_go hst (by decide) rfl (Nat.le_of_ble_eq_true rfl) ?_
  intro p e s m below meth c A Q ls hx hb hml hown hts hK hZ hDD hA hsz hP hD hl hret hprop hthr
  have hS : va_S A s.heap s.heap [] := va_S.rf
  have hl : lv_has ls 1 [(0, .ref (x 0))] := hl
  skip
  refine lv_aload_n hx hb dX5_restore_0 rfl (lv_at hl 0 rfl) ?_
  refine va_get (D := E.1) (ci := 9) (v := .int (nI (w 0))) (C := RX5) (T := TX5) (N := 11) hx hb hts inX5 hown hK hP 0 rfl rfl 8 (by decide) (hts _ q254) (fun _ h9 => h9) rfl dX5_restore_1 ?_
  refine nv_if_ne (X := ((w 0 : Nat) : Int)) hx hb (nI_toInt (by omega)) (tgt := 18) dX5_restore_4 (by decide) (fun c_1 => ?_) (fun c_1 => ?_)
  · skip
    refine lv_aload_n hx hb dX5_restore_18 rfl (lv_at hl 0 rfl) ?_
    refine va_get (D := E.1) (ci := 9) (v := .ref (a 0)) (C := RX5) (T := TX5) (N := 11) hx hb hts inX5 hown hK hP 0 rfl rfl 0 (by decide) (hts _ q246) (fun _ h9 => h9) rfl dX5_restore_19 ?_
    refine lv_aload_n hx hb dX5_restore_22 rfl (lv_at hl 0 rfl) ?_
    refine va_get (D := E.1) (ci := 9) (v := .ref (a2 0)) (C := RX5) (T := TX5) (N := 11) hx hb hts inX5 hown hK hP 0 rfl rfl 1 (by decide) (hts _ q247) (fun _ h9 => h9) rfl dX5_restore_23 ?_
    refine run_v (S := Unit) (run_V (As := [.ref (a2 0)]) (rest := []) (bs := [coC E x a a2 a3 b d k pa y w, hhC E b hs hg nx ct, stC E a g, stC E a2 g2]) (cb := [stC E a g, stC E a2 g2]) hx hb hml hown hts hK hZ hA (c_X4_copyFrom l E _ a g a2 g2) l_X5_186 rfl ⟨⟨rfl, rfl⟩, Nat.le_of_ble_eq_true rfl, Nat.le_of_ble_eq_true rfl⟩ 8 rfl [2, 3] rfl (by decide) rfl hP hD hS hl.1 rfl (Nat.le_of_ble_eq_true rfl) dX5_restore_26 ⟨Nat.zero_le _, Nat.zero_le _⟩) hA hP hD hS (isC := [2, 3]) rfl [0, 1] [0, 1, 2, 3] (br := [coC E x a a2 a3 b d k pa y w, hhC E b hs hg nx ct]) (bs2 := fun _ => [coC E x a a2 a3 b d k pa y w, hhC E b hs hg nx ct, stC E a g2, stC E a2 g2]) rfl (by decide) (fun _ => rfl) (by decide) (fun u H locs hw hP hD hS => ?_)
    refine lv_aload_n hx hb dX5_restore_29 rfl (lv_at hl 0 rfl) ?_
    refine va_get (D := E.1) (ci := 9) (v := .ref (b 0)) (C := RX5) (T := TX5) (N := 11) hx hb hts inX5 hown hK hP 0 rfl rfl 3 (by decide) (hts _ q249) (fun _ h9 => h9) rfl dX5_restore_30 ?_
    refine run_v (S := Unit) (run_V (As := []) (rest := []) (bs := [coC E x a a2 a3 b d k pa y w, hhC E b hs hg nx ct, stC E a g2, stC E a2 g2]) (cb := [hhC E b hs hg nx ct]) hx hb hml hown hts hK hZ hA (c_X2_forget l E _ b hs hg nx ct) l_X5_333 rfl ⟨⟨rfl, rfl⟩, Nat.le_of_ble_eq_true rfl, Nat.le_of_ble_eq_true rfl⟩ 6 rfl [1] rfl (by decide) rfl hP hD hS hl.1 rfl (Nat.le_of_ble_eq_true rfl) dX5_restore_33 ⟨Nat.zero_le _, Nat.zero_le _⟩) hA hP hD hS (isC := [1]) rfl [0, 2, 3] [0, 3, 1, 2] (br := [coC E x a a2 a3 b d k pa y w, stC E a g2, stC E a2 g2]) (bs2 := fun _ => [coC E x a a2 a3 b d k pa y w, hhC E b hs hg nx 0, stC E a g2, stC E a2 g2]) rfl (by decide) (fun _ => rfl) (by decide) (fun u H locs hw hP hD hS => ?_)
    exact hret _ _ () _ _ _ _ hP hD hS (by omega) dX5_restore_36 (by omega) (by omega)
  · skip
    exact hthr (ISX, 263, 267) 30 ("CricketCooperative", 331, "no state was saved") () _ _ 7 _ [] _ _ mx_ISX rfl rfl ⟨rfl, by omega⟩ hP hD hS hl.1 dX5_restore_7 dX5_restore_10 (Or.inr ⟨dX5_restore_11, dX5_restore_14, dX5_restore_17⟩) (Nat.le_of_ble_eq_true rfl) (Nat.le_of_ble_eq_true rfl) (Nat.le_of_ble_eq_true rfl) (Nat.le_of_ble_eq_true rfl) (Nat.le_of_ble_eq_true rfl) (Nat.le_of_ble_eq_true rfl)
abbrev rm_X5_bothWaysAgree : Room := { frames := 4, cells := 0, slots := 0, locals := 192 }
set_option maxHeartbeats 4000000 in
set_option maxRecDepth 100000 in
theorem c_X5_bothWaysAgree (l : Launch) (E : EE) (sz : Nat) (x a a2 a3 b d k pa y w : Nat → Nat) (g : GG) (B : Nat) (hI : IB B g) (co re so gw : Nat → Nat) (m0 : Nat) (hm : m0 < g 8 0) : MI l yX5_bothWaysAgree cX5_bothWaysAgree 2 .boolean rm_X5_bothWaysAgree [.ref (x 0), .int (nI m0)] E sz [coC E x a a2 a3 b d k pa y w, stC E a g, diC E d co re, grC E k so gw] (fun (r : Int32) (u : ((Nat → Nat) × (Nat → Nat)) × ((Nat → Nat) × (Nat → Nat))) => r = bI true) (fun u => [coC E x a a2 a3 b d k pa y w, stC E a g, diC E d u.1.1 u.1.2, grC E k u.2.1 u.2.2]) 0 0 := by
  refine mi_go (by decide) (Nat.le_of_ble_eq_true rfl) ?_
  intro p e s m below meth c A Q ls hx hb hml hown hts hK hZ hA hsz hP hD hl hret
  have hS : va_S A s.heap s.heap [] := va_S.rf
  have hl : lv_has ls 2 [(0, .ref (x 0)), (1, .int (nI m0))] := hl
  skip
  have hmc := hI.mc
  have hbu := hI.bud
  have hz : 0 < g 8 0 := by omega
  have hb0 := hI.mem hm
  have hdv := dv_sum hI hz
  have hdp2 : dv g m0 ≤ sm (dv g) (g 8 0) := sm_part hm
  have hpw := powN_le hI m0
  refine lv_aload_n hx hb dX5_bothWaysAgree_0 rfl (lv_at hl 0 rfl) ?_
  refine va_get (D := E.1) (ci := 9) (v := .ref (a 0)) (C := RX5) (T := TX5) (N := 11) hx hb hts inX5 hown hK hP 0 rfl rfl 0 (by decide) (hts _ q246) (fun _ h9 => h9) rfl dX5_bothWaysAgree_1 ?_
  refine lv_iload_n hx hb dX5_bothWaysAgree_4 rfl (lv_at hl 1 rfl) ?_
  refine run_l (S := Unit) (run_V (As := [.int (nI m0)]) (rest := []) (bs := [coC E x a a2 a3 b d k pa y w, stC E a g, diC E d co re, grC E k so gw]) (cb := [stC E a g]) hx hb hml hown hts hK hZ hA (c_X4_dueByLooking l E _ a g _ hI m0 (by omega)) l_X5_159 rfl ⟨⟨rfl, rfl⟩, Nat.le_of_ble_eq_true rfl, Nat.le_of_ble_eq_true rfl⟩ 8 rfl [1] rfl (by decide) rfl hP hD hS hl.1 rfl (Nat.le_of_ble_eq_true rfl) dX5_bothWaysAgree_5 ⟨Nat.zero_le _, Nat.zero_le _⟩) hA hP hD hS (isC := [1]) rfl [0, 2, 3] [0, 3, 1, 2] (br := [coC E x a a2 a3 b d k pa y w, diC E d co re, grC E k so gw]) (bs2 := fun _ => [coC E x a a2 a3 b d k pa y w, stC E a g, diC E d co re, grC E k so gw]) rfl (by decide) (fun _ => rfl) (by decide) (fun r u H locs hw hP hD hS => ?_)
  subst hw
  refine lv_aload_n hx hb dX5_bothWaysAgree_8 rfl (lv_at hl 0 rfl) ?_
  refine va_get (D := E.1) (ci := 9) (v := .ref (a 0)) (C := RX5) (T := TX5) (N := 11) hx hb hts inX5 hown hK hP 0 rfl rfl 0 (by decide) (hts _ q246) (fun _ h9 => h9) rfl dX5_bothWaysAgree_9 ?_
  refine lv_iload_n hx hb dX5_bothWaysAgree_12 rfl (lv_at hl 1 rfl) ?_
  refine run_l (S := Unit) (run_V (As := [.int (nI m0)]) (rest := [.long (lN (dlk g m0 60))]) (bs := [coC E x a a2 a3 b d k pa y w, stC E a g, diC E d co re, grC E k so gw]) (cb := [stC E a g]) hx hb hml hown hts hK hZ hA (c_X4_dueByPattern l E _ a g _ hI m0 (by omega)) l_X5_163 rfl ⟨⟨rfl, rfl⟩, Nat.le_of_ble_eq_true rfl, Nat.le_of_ble_eq_true rfl⟩ 8 rfl [1] rfl (by decide) rfl hP hD hS hl.1 rfl (Nat.le_of_ble_eq_true rfl) dX5_bothWaysAgree_13 ⟨Nat.zero_le _, Nat.zero_le _⟩) hA hP hD hS (isC := [1]) rfl [0, 2, 3] [0, 3, 1, 2] (br := [coC E x a a2 a3 b d k pa y w, diC E d co re, grC E k so gw]) (bs2 := fun _ => [coC E x a a2 a3 b d k pa y w, stC E a g, diC E d co re, grC E k so gw]) rfl (by decide) (fun _ => rfl) (by decide) (fun r u H locs hw hP hD hS => ?_)
  subst hw
  refine W.lcmp hx hb dX5_bothWaysAgree_16 ?_
  refine tp_i (lg_eq _) ?_
  refine nv_if_ne (X := ((0 : Nat) : Int)) hx hb (nI_toInt (by omega)) (tgt := 78) dX5_bothWaysAgree_17 (by decide) (fun c_1 => ?_) (fun c_1 => ?_)
  · exact absurd c_1 (by omega)
  · skip
    refine lv_aload_n hx hb dX5_bothWaysAgree_20 rfl (lv_at hl 0 rfl) ?_
    refine va_get (D := E.1) (ci := 9) (v := .ref (d 0)) (C := RX5) (T := TX5) (N := 11) hx hb hts inX5 hown hK hP 0 rfl rfl 4 (by decide) (hts _ q250) (fun _ h9 => h9) rfl dX5_bothWaysAgree_21 ?_
    refine lv_aload_n hx hb dX5_bothWaysAgree_24 rfl (lv_at hl 0 rfl) ?_
    refine va_get (D := E.1) (ci := 9) (v := .ref (a 0)) (C := RX5) (T := TX5) (N := 11) hx hb hts inX5 hown hK hP 0 rfl rfl 0 (by decide) (hts _ q246) (fun _ h9 => h9) rfl dX5_bothWaysAgree_25 ?_
    refine lv_iload_n hx hb dX5_bothWaysAgree_28 rfl (lv_at hl 1 rfl) ?_
    refine run_i (S := (Nat → Nat) × (Nat → Nat)) (run_V (As := [.ref (a 0), .int (nI m0)]) (rest := []) (bs := [coC E x a a2 a3 b d k pa y w, stC E a g, diC E d co re, grC E k so gw]) (cb := [diC E d co re, stC E a g]) hx hb hml hown hts hK hZ hA (c_X0_byGiving l E _ d co re a g _ hI hz m0 (by omega)) l_X5_189 rfl ⟨⟨rfl, rfl⟩, Nat.le_of_ble_eq_true rfl, Nat.le_of_ble_eq_true rfl⟩ 4 rfl [2, 1] rfl (by decide) rfl hP hD hS hl.1 rfl (Nat.le_of_ble_eq_true rfl) dX5_bothWaysAgree_29 ⟨Nat.zero_le _, Nat.zero_le _⟩) hA hP hD hS (isC := [2, 1]) rfl [0, 3] [0, 3, 2, 1] (br := [coC E x a a2 a3 b d k pa y w, grC E k so gw]) (bs2 := fun u => [coC E x a a2 a3 b d k pa y w, stC E a g, diC E d u.1 u.2, grC E k so gw]) rfl (by decide) (fun _ => rfl) (by decide) (fun r u H locs hw hP hD hS => ?_)
    obtain ⟨co_2, re_3⟩ := u
    subst hw
    have hP : va_P E.1 vwCl ([coC E x a a2 a3 b d k pa y w, stC E a g, diC E d co_2 re_3, grC E k so gw] : List va_W).flatten H := hP
    have hD : va_D A ([coC E x a a2 a3 b d k pa y w, stC E a g, diC E d co_2 re_3, grC E k so gw] : List va_W).flatten := hD
    refine lv_aload_n hx hb dX5_bothWaysAgree_32 rfl (lv_at hl 0 rfl) ?_
    refine va_get (D := E.1) (ci := 9) (v := .ref (d 0)) (C := RX5) (T := TX5) (N := 11) hx hb hts inX5 hown hK hP 0 rfl rfl 4 (by decide) (hts _ q250) (fun _ h9 => h9) rfl dX5_bothWaysAgree_33 ?_
    refine lv_aload_n hx hb dX5_bothWaysAgree_36 rfl (lv_at hl 0 rfl) ?_
    refine va_get (D := E.1) (ci := 9) (v := .ref (a 0)) (C := RX5) (T := TX5) (N := 11) hx hb hts inX5 hown hK hP 0 rfl rfl 0 (by decide) (hts _ q246) (fun _ h9 => h9) rfl dX5_bothWaysAgree_37 ?_
    refine lv_iload_n hx hb dX5_bothWaysAgree_40 rfl (lv_at hl 1 rfl) ?_
    refine run_i (S := (Nat → Nat) × (Nat → Nat)) (run_V (As := [.ref (a 0), .int (nI m0)]) (rest := [.int (nI (dv g m0))]) (bs := [coC E x a a2 a3 b d k pa y w, stC E a g, diC E d co_2 re_3, grC E k so gw]) (cb := [diC E d co_2 re_3, stC E a g]) hx hb hml hown hts hK hZ hA (c_X0_byCounting l E _ d co_2 re_3 a g _ hI hz m0 (by omega)) l_X5_193 rfl ⟨⟨rfl, rfl⟩, Nat.le_of_ble_eq_true rfl, Nat.le_of_ble_eq_true rfl⟩ 4 rfl [2, 1] rfl (by decide) rfl hP hD hS hl.1 rfl (Nat.le_of_ble_eq_true rfl) dX5_bothWaysAgree_41 ⟨Nat.zero_le _, Nat.zero_le _⟩) hA hP hD hS (isC := [2, 1]) rfl [0, 3] [0, 3, 2, 1] (br := [coC E x a a2 a3 b d k pa y w, grC E k so gw]) (bs2 := fun u => [coC E x a a2 a3 b d k pa y w, stC E a g, diC E d u.1 u.2, grC E k so gw]) rfl (by decide) (fun _ => rfl) (by decide) (fun r u H locs hw hP hD hS => ?_)
    obtain ⟨co_4, re_5⟩ := u
    subst hw
    have hP : va_P E.1 vwCl ([coC E x a a2 a3 b d k pa y w, stC E a g, diC E d co_4 re_5, grC E k so gw] : List va_W).flatten H := hP
    have hD : va_D A ([coC E x a a2 a3 b d k pa y w, stC E a g, diC E d co_4 re_5, grC E k so gw] : List va_W).flatten := hD
    refine nv_icmp_ne (X := ((dv g m0 : Nat) : Int)) (Y := ((dv g m0 : Nat) : Int)) hx hb (nI_toInt (by omega)) (nI_toInt (by omega)) (tgt := 78) dX5_bothWaysAgree_44 (by decide) (fun c_6 => ?_) (fun c_6 => ?_)
    · exact absurd rfl c_6
    · skip
      refine lv_aload_n hx hb dX5_bothWaysAgree_47 rfl (lv_at hl 0 rfl) ?_
      refine va_get (D := E.1) (ci := 9) (v := .ref (k 0)) (C := RX5) (T := TX5) (N := 11) hx hb hts inX5 hown hK hP 0 rfl rfl 5 (by decide) (hts _ q251) (fun _ h9 => h9) rfl dX5_bothWaysAgree_48 ?_
      refine lv_aload_n hx hb dX5_bothWaysAgree_51 rfl (lv_at hl 0 rfl) ?_
      refine va_get (D := E.1) (ci := 9) (v := .ref (a 0)) (C := RX5) (T := TX5) (N := 11) hx hb hts inX5 hown hK hP 0 rfl rfl 0 (by decide) (hts _ q246) (fun _ h9 => h9) rfl dX5_bothWaysAgree_52 ?_
      refine lv_iload_n hx hb dX5_bothWaysAgree_55 rfl (lv_at hl 1 rfl) ?_
      refine run_i (S := (Nat → Nat) × (Nat → Nat)) (run_V (As := [.ref (a 0), .int (nI m0)]) (rest := []) (bs := [coC E x a a2 a3 b d k pa y w, stC E a g, diC E d co_4 re_5, grC E k so gw]) (cb := [grC E k so gw, stC E a g]) hx hb hml hown hts hK hZ hA (c_X1_decisiveByTrying l E _ k so gw a g _ hI m0 (by omega)) l_X5_210 rfl ⟨⟨rfl, rfl⟩, Nat.le_of_ble_eq_true rfl, Nat.le_of_ble_eq_true rfl⟩ 5 rfl [3, 1] rfl (by decide) rfl hP hD hS hl.1 rfl (Nat.le_of_ble_eq_true rfl) dX5_bothWaysAgree_56 ⟨Nat.zero_le _, Nat.zero_le _⟩) hA hP hD hS (isC := [3, 1]) rfl [0, 2] [0, 3, 1, 2] (br := [coC E x a a2 a3 b d k pa y w, diC E d co_4 re_5]) (bs2 := fun u => [coC E x a a2 a3 b d k pa y w, stC E a g, diC E d co_4 re_5, grC E k u.1 u.2]) rfl (by decide) (fun _ => rfl) (by decide) (fun r u H locs hw hP hD hS => ?_)
      obtain ⟨so_7, gw_8⟩ := u
      subst hw
      have hP : va_P E.1 vwCl ([coC E x a a2 a3 b d k pa y w, stC E a g, diC E d co_4 re_5, grC E k so_7 gw_8] : List va_W).flatten H := hP
      have hD : va_D A ([coC E x a a2 a3 b d k pa y w, stC E a g, diC E d co_4 re_5, grC E k so_7 gw_8] : List va_W).flatten := hD
      refine lv_aload_n hx hb dX5_bothWaysAgree_59 rfl (lv_at hl 0 rfl) ?_
      refine va_get (D := E.1) (ci := 9) (v := .ref (k 0)) (C := RX5) (T := TX5) (N := 11) hx hb hts inX5 hown hK hP 0 rfl rfl 5 (by decide) (hts _ q251) (fun _ h9 => h9) rfl dX5_bothWaysAgree_60 ?_
      refine lv_aload_n hx hb dX5_bothWaysAgree_63 rfl (lv_at hl 0 rfl) ?_
      refine va_get (D := E.1) (ci := 9) (v := .ref (a 0)) (C := RX5) (T := TX5) (N := 11) hx hb hts inX5 hown hK hP 0 rfl rfl 0 (by decide) (hts _ q246) (fun _ h9 => h9) rfl dX5_bothWaysAgree_64 ?_
      refine lv_iload_n hx hb dX5_bothWaysAgree_67 rfl (lv_at hl 1 rfl) ?_
      refine run_i (S := (Nat → Nat) × (Nat → Nat)) (run_V (As := [.ref (a 0), .int (nI m0)]) (rest := [.int (nI (powN g m0))]) (bs := [coC E x a a2 a3 b d k pa y w, stC E a g, diC E d co_4 re_5, grC E k so_7 gw_8]) (cb := [grC E k so_7 gw_8, stC E a g]) hx hb hml hown hts hK hZ hA (c_X1_decisiveByTable l E _ k so_7 gw_8 a g _ hI m0 (by omega)) l_X5_213 rfl ⟨⟨rfl, rfl⟩, Nat.le_of_ble_eq_true rfl, Nat.le_of_ble_eq_true rfl⟩ 5 rfl [3, 1] rfl (by decide) rfl hP hD hS hl.1 rfl (Nat.le_of_ble_eq_true rfl) dX5_bothWaysAgree_68 ⟨Nat.zero_le _, Nat.zero_le _⟩) hA hP hD hS (isC := [3, 1]) rfl [0, 2] [0, 3, 1, 2] (br := [coC E x a a2 a3 b d k pa y w, diC E d co_4 re_5]) (bs2 := fun u => [coC E x a a2 a3 b d k pa y w, stC E a g, diC E d co_4 re_5, grC E k u.1 u.2]) rfl (by decide) (fun _ => rfl) (by decide) (fun r u H locs hw hP hD hS => ?_)
      obtain ⟨so_9, gw_10⟩ := u
      subst hw
      have hP : va_P E.1 vwCl ([coC E x a a2 a3 b d k pa y w, stC E a g, diC E d co_4 re_5, grC E k so_9 gw_10] : List va_W).flatten H := hP
      have hD : va_D A ([coC E x a a2 a3 b d k pa y w, stC E a g, diC E d co_4 re_5, grC E k so_9 gw_10] : List va_W).flatten := hD
      refine nv_icmp_ne (X := ((powN g m0 : Nat) : Int)) (Y := ((powN g m0 : Nat) : Int)) hx hb (nI_toInt (by omega)) (nI_toInt (by omega)) (tgt := 78) dX5_bothWaysAgree_71 (by decide) (fun c_11 => ?_) (fun c_11 => ?_)
      · exact absurd rfl c_11
      · skip
        refine lv_iconst (v := nI 1) hx hb dX5_bothWaysAgree_74 (by decide) ?_
        refine lv_goto (tgt := 79) hx hb dX5_bothWaysAgree_75 (by decide) ?_
        exact hret _ _ (nI 1) ((co_4, re_5), (so_9, gw_10)) _ _ hP hD hS (by decide) rfl dX5_bothWaysAgree_79
abbrev rm_X5_isConsistent : Room := { frames := 5, cells := 0, slots := 0, locals := 213 }
set_option maxHeartbeats 4000000 in
set_option maxRecDepth 100000 in
theorem c_X5_isConsistent (l : Launch) (E : EE) (sz : Nat) (x a a2 a3 b d k pa y w : Nat → Nat) (g : GG) (B : Nat) (hI : IB B g) (co re so gw : Nat → Nat)  : MI l yX5_isConsistent cX5_isConsistent 3 .boolean rm_X5_isConsistent [.ref (x 0)] E sz [coC E x a a2 a3 b d k pa y w, stC E a g, diC E d co re, grC E k so gw] (fun (r : Int32) (u : ((Nat → Nat) × (Nat → Nat)) × ((Nat → Nat) × (Nat → Nat))) => r = bI true) (fun u => [coC E x a a2 a3 b d k pa y w, stC E a g, diC E d u.1.1 u.1.2, grC E k u.2.1 u.2.2]) 0 0 := by
  refine mi_go (by decide) (Nat.le_of_ble_eq_true rfl) ?_
  intro p e s m below meth c A Q ls hx hb hml hown hts hK hZ hA hsz hP hD hl hret
  have hS : va_S A s.heap s.heap [] := va_S.rf
  have hl : lv_has ls 3 [(0, .ref (x 0))] := hl
  skip
  have hmc := hI.mc
  have hbu := hI.bud
  have hpa := purs_acc hI
  have h256 := win_le hI
  refine lv_aload_n hx hb dX5_isConsistent_0 rfl (lv_at hl 0 rfl) ?_
  refine va_get (D := E.1) (ci := 9) (v := .ref (a 0)) (C := RX5) (T := TX5) (N := 11) hx hb hts inX5 hown hK hP 0 rfl rfl 0 (by decide) (hts _ q246) (fun _ h9 => h9) rfl dX5_isConsistent_1 ?_
  refine run_i (S := Unit) (run_V (As := []) (rest := []) (bs := [coC E x a a2 a3 b d k pa y w, stC E a g, diC E d co re, grC E k so gw]) (cb := [stC E a g]) hx hb hml hown hts hK hZ hA (c_X4_coinsInPurses l E _ a g  hmc) l_X5_230 rfl ⟨⟨rfl, rfl⟩, Nat.le_of_ble_eq_true rfl, Nat.le_of_ble_eq_true rfl⟩ 8 rfl [1] rfl (by decide) rfl hP hD hS hl.1 rfl (Nat.le_of_ble_eq_true rfl) dX5_isConsistent_4 ⟨Nat.zero_le _, Nat.zero_le _⟩) hA hP hD hS (isC := [1]) rfl [0, 2, 3] [0, 3, 1, 2] (br := [coC E x a a2 a3 b d k pa y w, diC E d co re, grC E k so gw]) (bs2 := fun _ => [coC E x a a2 a3 b d k pa y w, stC E a g, diC E d co re, grC E k so gw]) rfl (by decide) (fun _ => rfl) (by decide) (fun r u H locs hw hP hD hS => ?_)
  subst hw
  refine lv_aload_n hx hb dX5_isConsistent_7 rfl (lv_at hl 0 rfl) ?_
  refine va_get (D := E.1) (ci := 9) (v := .ref (a 0)) (C := RX5) (T := TX5) (N := 11) hx hb hts inX5 hown hK hP 0 rfl rfl 0 (by decide) (hts _ q246) (fun _ h9 => h9) rfl dX5_isConsistent_8 ?_
  refine va_get (D := E.1) (ci := 8) (v := .int (nI (g 8 2))) (C := RX4) (T := TX4) (N := 16) hx hb hts inX4 hown hK hP 1 rfl rfl 11 (by decide) (hts _ q95) (fun _ h9 => h9) rfl dX5_isConsistent_11 ?_
  refine nv_iadd hx hb dX5_isConsistent_14 ?_
  refine lv_aload_n hx hb dX5_isConsistent_15 rfl (lv_at hl 0 rfl) ?_
  refine va_get (D := E.1) (ci := 9) (v := .ref (a 0)) (C := RX5) (T := TX5) (N := 11) hx hb hts inX5 hown hK hP 0 rfl rfl 0 (by decide) (hts _ q246) (fun _ h9 => h9) rfl dX5_isConsistent_16 ?_
  refine va_get (D := E.1) (ci := 8) (v := .int (nI (g 8 5))) (C := RX4) (T := TX4) (N := 16) hx hb hts inX4 hown hK hP 1 rfl rfl 14 (by decide) (hts _ q102) (fun _ h9 => h9) rfl dX5_isConsistent_19 ?_
  refine nv_icmp_ne (X := ((pursN g + (g 8 2) : Nat) : Int)) (Y := ((g 8 5 : Nat) : Int)) hx hb (nI_toInt (by omega)) (nI_toInt (by omega)) (tgt := 50) dX5_isConsistent_22 (by decide) (fun c_1 => ?_) (fun c_1 => ?_)
  · exact absurd c_1 (by omega)
  · skip
    refine lv_aload_n hx hb dX5_isConsistent_25 rfl (lv_at hl 0 rfl) ?_
    refine va_get (D := E.1) (ci := 9) (v := .ref (k 0)) (C := RX5) (T := TX5) (N := 11) hx hb hts inX5 hown hK hP 0 rfl rfl 5 (by decide) (hts _ q251) (fun _ h9 => h9) rfl dX5_isConsistent_26 ?_
    refine lv_aload_n hx hb dX5_isConsistent_29 rfl (lv_at hl 0 rfl) ?_
    refine va_get (D := E.1) (ci := 9) (v := .ref (a 0)) (C := RX5) (T := TX5) (N := 11) hx hb hts inX5 hown hK hP 0 rfl rfl 0 (by decide) (hts _ q246) (fun _ h9 => h9) rfl dX5_isConsistent_30 ?_
    refine run_i (S := (Nat → Nat) × (Nat → Nat)) (run_V (As := [.ref (a 0)]) (rest := []) (bs := [coC E x a a2 a3 b d k pa y w, stC E a g, diC E d co re, grC E k so gw]) (cb := [grC E k so gw, stC E a g]) hx hb hml hown hts hK hZ hA (c_X1_winningByTrying l E _ k so gw a g _ hI  ) l_X5_204 rfl ⟨⟨rfl, rfl⟩, Nat.le_of_ble_eq_true rfl, Nat.le_of_ble_eq_true rfl⟩ 5 rfl [3, 1] rfl (by decide) rfl hP hD hS hl.1 rfl (Nat.le_of_ble_eq_true rfl) dX5_isConsistent_33 ⟨Nat.zero_le _, Nat.zero_le _⟩) hA hP hD hS (isC := [3, 1]) rfl [0, 2] [0, 3, 1, 2] (br := [coC E x a a2 a3 b d k pa y w, diC E d co re]) (bs2 := fun u => [coC E x a a2 a3 b d k pa y w, stC E a g, diC E d co re, grC E k u.1 u.2]) rfl (by decide) (fun _ => rfl) (by decide) (fun r u H locs hw hP hD hS => ?_)
    obtain ⟨so_2, gw_3⟩ := u
    subst hw
    have hP : va_P E.1 vwCl ([coC E x a a2 a3 b d k pa y w, stC E a g, diC E d co re, grC E k so_2 gw_3] : List va_W).flatten H := hP
    have hD : va_D A ([coC E x a a2 a3 b d k pa y w, stC E a g, diC E d co re, grC E k so_2 gw_3] : List va_W).flatten := hD
    refine lv_aload_n hx hb dX5_isConsistent_36 rfl (lv_at hl 0 rfl) ?_
    refine va_get (D := E.1) (ci := 9) (v := .ref (k 0)) (C := RX5) (T := TX5) (N := 11) hx hb hts inX5 hown hK hP 0 rfl rfl 5 (by decide) (hts _ q251) (fun _ h9 => h9) rfl dX5_isConsistent_37 ?_
    refine lv_aload_n hx hb dX5_isConsistent_40 rfl (lv_at hl 0 rfl) ?_
    refine va_get (D := E.1) (ci := 9) (v := .ref (a 0)) (C := RX5) (T := TX5) (N := 11) hx hb hts inX5 hown hK hP 0 rfl rfl 0 (by decide) (hts _ q246) (fun _ h9 => h9) rfl dX5_isConsistent_41 ?_
    refine run_i (S := (Nat → Nat) × (Nat → Nat)) (run_V (As := [.ref (a 0)]) (rest := [.int (nI (winN g))]) (bs := [coC E x a a2 a3 b d k pa y w, stC E a g, diC E d co re, grC E k so_2 gw_3]) (cb := [grC E k so_2 gw_3, stC E a g]) hx hb hml hown hts hK hZ hA (c_X1_winningByTable l E _ k so_2 gw_3 a g _ hI  ) l_X5_207 rfl ⟨⟨rfl, rfl⟩, Nat.le_of_ble_eq_true rfl, Nat.le_of_ble_eq_true rfl⟩ 5 rfl [3, 1] rfl (by decide) rfl hP hD hS hl.1 rfl (Nat.le_of_ble_eq_true rfl) dX5_isConsistent_44 ⟨Nat.zero_le _, Nat.zero_le _⟩) hA hP hD hS (isC := [3, 1]) rfl [0, 2] [0, 3, 1, 2] (br := [coC E x a a2 a3 b d k pa y w, diC E d co re]) (bs2 := fun u => [coC E x a a2 a3 b d k pa y w, stC E a g, diC E d co re, grC E k u.1 u.2]) rfl (by decide) (fun _ => rfl) (by decide) (fun r u H locs hw hP hD hS => ?_)
    obtain ⟨so_4, gw_5⟩ := u
    subst hw
    have hP : va_P E.1 vwCl ([coC E x a a2 a3 b d k pa y w, stC E a g, diC E d co re, grC E k so_4 gw_5] : List va_W).flatten H := hP
    have hD : va_D A ([coC E x a a2 a3 b d k pa y w, stC E a g, diC E d co re, grC E k so_4 gw_5] : List va_W).flatten := hD
    refine nv_icmp_eq (X := ((winN g : Nat) : Int)) (Y := ((winN g : Nat) : Int)) hx hb (nI_toInt (by omega)) (nI_toInt (by omega)) (tgt := 52) dX5_isConsistent_47 (by decide) (fun c_6 => ?_) (fun c_6 => ?_)
    · skip
      refine lv_iconst (v := nI 0) hx hb dX5_isConsistent_52 (by decide) ?_
      refine lv_istore_n (lv' := [(1, .int (nI 0)), (0, .ref (x 0))]) hx hb dX5_isConsistent_53 rfl hl (by decide) rfl (fun ls hl => ?_)
      refine lv_iconst (v := nI 0) hx hb dX5_isConsistent_54 (by decide) ?_
      refine lv_istore_n (lv' := [(2, .int (nI 0)), (1, .int (nI 0)), (0, .ref (x 0))]) hx hb dX5_isConsistent_55 rfl hl (by decide) rfl (fun ls hl => ?_)
      have loop56 : ∀ (n : Nat) (i : Nat) (co1 : Nat → Nat) (re1 : Nat → Nat) (so1 : Nat → Nat) (gw1 : Nat → Nat), (i ≤ g 8 0) → g 8 0 - i < n → ∀ (H : Heap) (locs : List Loc) (ls : Array Slot), va_P E.1 vwCl ([coC E x a a2 a3 b d k pa y w, stC E a g, diC E d co1 re1, grC E k so1 gw1] : List va_W).flatten H → va_D A ([coC E x a a2 a3 b d k pa y w, stC E a g, diC E d co1 re1, grC E k so1 gw1] : List va_W).flatten → va_S A s.heap H locs → lv_has ls 3 [(0, .ref (x 0)), (1, .int (nI (sm (dv g) i))), (2, .int (nI i))] → W p l e rm_X5_isConsistent s m ([.ref (x 0)] : List Value).toArray below meth c H locs 0 0 Q (F0 m 56 ls []) := by
        intro n56
        induction n56 with
        | zero => intro i co1 re1 so1 gw1 hi hn56; exact absurd hn56 (Nat.not_lt_zero _)
        | succ n56 ih56 =>
          intro i co1 re1 so1 gw1 hi hn56 H locs ls hP hD hS hl
          refine lv_iload_n hx hb dX5_isConsistent_56 rfl (lv_at hl 2 rfl) ?_
          refine lv_aload_n hx hb dX5_isConsistent_57 rfl (lv_at hl 0 rfl) ?_
          refine va_get (D := E.1) (ci := 9) (v := .ref (a 0)) (C := RX5) (T := TX5) (N := 11) hx hb hts inX5 hown hK hP 0 rfl rfl 0 (by decide) (hts _ q246) (fun _ h9 => h9) rfl dX5_isConsistent_58 ?_
          refine va_get (D := E.1) (ci := 8) (v := .int (nI (g 8 0))) (C := RX4) (T := TX4) (N := 16) hx hb hts inX4 hown hK hP 1 rfl rfl 8 (by decide) (hts _ q88) (fun _ h9 => h9) rfl dX5_isConsistent_61 ?_
          refine nv_icmp_ge (X := ((i : Nat) : Int)) (Y := ((g 8 0 : Nat) : Int)) hx hb (nI_toInt (by omega)) (nI_toInt (by omega)) (tgt := 98) dX5_isConsistent_64 (by decide) (fun c_7 => ?_) (fun c_7 => ?_)
          · skip
            have hie : i = g 8 0 := by omega
            refine lv_aload_n hx hb dX5_isConsistent_98 rfl (lv_at hl 0 rfl) ?_
            refine va_get (D := E.1) (ci := 9) (v := .ref (a 0)) (C := RX5) (T := TX5) (N := 11) hx hb hts inX5 hown hK hP 0 rfl rfl 0 (by decide) (hts _ q246) (fun _ h9 => h9) rfl dX5_isConsistent_99 ?_
            refine va_get (D := E.1) (ci := 8) (v := .int (nI (g 8 0))) (C := RX4) (T := TX4) (N := 16) hx hb hts inX4 hown hK hP 1 rfl rfl 8 (by decide) (hts _ q88) (fun _ h9 => h9) rfl dX5_isConsistent_102 ?_
            refine nv_if_eq (X := ((g 8 0 : Nat) : Int)) hx hb (nI_toInt (by omega)) (tgt := 119) dX5_isConsistent_105 (by decide) (fun c_8 => ?_) (fun c_8 => ?_)
            · skip
              refine lv_iconst (v := nI 1) hx hb dX5_isConsistent_119 (by decide) ?_
              refine lv_goto (tgt := 124) hx hb dX5_isConsistent_120 (by decide) ?_
              exact hret _ _ (nI 1) ((co1, re1), (so1, gw1)) _ _ hP hD hS (by decide) rfl dX5_isConsistent_124
            · skip
              have hdv := dv_sum hI (show 0 < g 8 0 by omega)
              have hde : sm (dv g) i = sm (dv g) (g 8 0) := by rw [hie]
              refine lv_iload_n hx hb dX5_isConsistent_108 rfl (lv_at hl 1 rfl) ?_
              refine lv_aload_n hx hb dX5_isConsistent_109 rfl (lv_at hl 0 rfl) ?_
              refine va_get (D := E.1) (ci := 9) (v := .ref (a 0)) (C := RX5) (T := TX5) (N := 11) hx hb hts inX5 hown hK hP 0 rfl rfl 0 (by decide) (hts _ q246) (fun _ h9 => h9) rfl dX5_isConsistent_110 ?_
              refine va_get (D := E.1) (ci := 8) (v := .int (nI (g 8 2))) (C := RX4) (T := TX4) (N := 16) hx hb hts inX4 hown hK hP 1 rfl rfl 11 (by decide) (hts _ q95) (fun _ h9 => h9) rfl dX5_isConsistent_113 ?_
              refine nv_icmp_ne (X := ((sm (dv g) i : Nat) : Int)) (Y := ((g 8 2 : Nat) : Int)) hx hb (nI_toInt (by omega)) (nI_toInt (by omega)) (tgt := 123) dX5_isConsistent_116 (by decide) (fun c_9 => ?_) (fun c_9 => ?_)
              · exact absurd c_9 (by rw [hie]; omega)
              · skip
                refine lv_iconst (v := nI 1) hx hb dX5_isConsistent_119 (by decide) ?_
                refine lv_goto (tgt := 124) hx hb dX5_isConsistent_120 (by decide) ?_
                exact hret _ _ (nI 1) ((co1, re1), (so1, gw1)) _ _ hP hD hS (by decide) rfl dX5_isConsistent_124
          · skip
            have hz : 0 < g 8 0 := by omega
            have hdv := dv_sum hI hz
            have hdp := sm_mono (f := dv g) (show i ≤ g 8 0 by omega)
            have hdp2 : dv g i ≤ sm (dv g) (g 8 0) := sm_part (by omega)
            refine lv_aload_n hx hb dX5_isConsistent_67 rfl (lv_at hl 0 rfl) ?_
            refine lv_iload_n hx hb dX5_isConsistent_68 rfl (lv_at hl 2 rfl) ?_
            refine run_i (S := ((Nat → Nat) × (Nat → Nat)) × ((Nat → Nat) × (Nat → Nat))) (run_V (As := [.int (nI i)]) (rest := []) (bs := [coC E x a a2 a3 b d k pa y w, stC E a g, diC E d co1 re1, grC E k so1 gw1]) (cb := [coC E x a a2 a3 b d k pa y w, stC E a g, diC E d co1 re1, grC E k so1 gw1]) hx hb hml hown hts hK hZ hA (c_X5_bothWaysAgree l E _ x a a2 a3 b d k pa y w g _ hI co1 re1 so1 gw1 i (by omega)) l_X5_256 rfl ⟨⟨rfl, rfl⟩, Nat.le_of_ble_eq_true rfl, Nat.le_of_ble_eq_true rfl⟩ 9 rfl [0, 1, 2, 3] rfl (by decide) rfl hP hD hS hl.1 rfl (Nat.le_of_ble_eq_true rfl) dX5_isConsistent_69 ⟨Nat.zero_le _, Nat.zero_le _⟩) hA hP hD hS (isC := [0, 1, 2, 3]) rfl [] [0, 1, 2, 3] (br := []) (bs2 := fun u => [coC E x a a2 a3 b d k pa y w, stC E a g, diC E d u.1.1 u.1.2, grC E k u.2.1 u.2.2]) rfl (by decide) (fun _ => rfl) (by decide) (fun r u H locs hw hP hD hS => ?_)
            obtain ⟨⟨co_10, re_11⟩, so_12, gw_13⟩ := u
            subst hw
            have hP : va_P E.1 vwCl ([coC E x a a2 a3 b d k pa y w, stC E a g, diC E d co_10 re_11, grC E k so_12 gw_13] : List va_W).flatten H := hP
            have hD : va_D A ([coC E x a a2 a3 b d k pa y w, stC E a g, diC E d co_10 re_11, grC E k so_12 gw_13] : List va_W).flatten := hD
            refine bv_if_ne hx hb (tgt := 77) dX5_isConsistent_72 (by decide) (fun c_14 => ?_) (fun c_14 => ?_)
            · skip
              refine lv_iload_n hx hb dX5_isConsistent_77 rfl (lv_at hl 1 rfl) ?_
              refine lv_aload_n hx hb dX5_isConsistent_78 rfl (lv_at hl 0 rfl) ?_
              refine va_get (D := E.1) (ci := 9) (v := .ref (d 0)) (C := RX5) (T := TX5) (N := 11) hx hb hts inX5 hown hK hP 0 rfl rfl 4 (by decide) (hts _ q250) (fun _ h9 => h9) rfl dX5_isConsistent_79 ?_
              refine lv_aload_n hx hb dX5_isConsistent_82 rfl (lv_at hl 0 rfl) ?_
              refine va_get (D := E.1) (ci := 9) (v := .ref (a 0)) (C := RX5) (T := TX5) (N := 11) hx hb hts inX5 hown hK hP 0 rfl rfl 0 (by decide) (hts _ q246) (fun _ h9 => h9) rfl dX5_isConsistent_83 ?_
              refine lv_iload_n hx hb dX5_isConsistent_86 rfl (lv_at hl 2 rfl) ?_
              refine run_i (S := (Nat → Nat) × (Nat → Nat)) (run_V (As := [.ref (a 0), .int (nI i)]) (rest := [.int (nI (sm (dv g) i))]) (bs := [coC E x a a2 a3 b d k pa y w, stC E a g, diC E d co_10 re_11, grC E k so_12 gw_13]) (cb := [diC E d co_10 re_11, stC E a g]) hx hb hml hown hts hK hZ hA (c_X0_byGiving l E _ d co_10 re_11 a g _ hI hz i (by omega)) l_X5_189 rfl ⟨⟨rfl, rfl⟩, Nat.le_of_ble_eq_true rfl, Nat.le_of_ble_eq_true rfl⟩ 4 rfl [2, 1] rfl (by decide) rfl hP hD hS hl.1 rfl (Nat.le_of_ble_eq_true rfl) dX5_isConsistent_87 ⟨Nat.zero_le _, Nat.zero_le _⟩) hA hP hD hS (isC := [2, 1]) rfl [0, 3] [0, 3, 2, 1] (br := [coC E x a a2 a3 b d k pa y w, grC E k so_12 gw_13]) (bs2 := fun u => [coC E x a a2 a3 b d k pa y w, stC E a g, diC E d u.1 u.2, grC E k so_12 gw_13]) rfl (by decide) (fun _ => rfl) (by decide) (fun r u H locs hw hP hD hS => ?_)
              obtain ⟨co_15, re_16⟩ := u
              subst hw
              have hP : va_P E.1 vwCl ([coC E x a a2 a3 b d k pa y w, stC E a g, diC E d co_15 re_16, grC E k so_12 gw_13] : List va_W).flatten H := hP
              have hD : va_D A ([coC E x a a2 a3 b d k pa y w, stC E a g, diC E d co_15 re_16, grC E k so_12 gw_13] : List va_W).flatten := hD
              refine nv_iadd hx hb dX5_isConsistent_90 ?_
              refine lv_istore_n (lv' := [(1, .int (nI (sm (dv g) i + (dv g i)))), (0, .ref (x 0)), (2, .int (nI i))]) hx hb dX5_isConsistent_91 rfl hl (by decide) rfl (fun ls hl => ?_)
              refine lv_iinc (v := nI (i + 1)) (lv' := [(2, .int (nI (i + 1))), (1, .int (nI (sm (dv g) i + (dv g i)))), (0, .ref (x 0))]) hx hb dX5_isConsistent_92 hl (k := 2) rfl (nI_add i 1) (by decide) rfl (fun ls hl => ?_)
              refine lv_goto (tgt := 56) hx hb dX5_isConsistent_95 (by decide) ?_
              exact ih56 (i + 1) co_15 re_16 so_12 gw_13 (by omega) (by omega) _ _ _ hP hD hS (lv_sub hl [2, 1, 0] rfl)
            · exact absurd c_14 (by decide)
      exact loop56 _ 0 co re so_4 gw_5 (by omega) (Nat.lt_succ_self _) _ _ _ hP hD hS (lv_sub hl [2, 1, 0] rfl)
    · exact absurd rfl c_6
