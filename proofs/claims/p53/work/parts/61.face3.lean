abbrev rm_X5_interval : Room := { frames := 7, cells := 2, slots := 12, locals := 121 }
set_option maxHeartbeats 4000000 in
set_option maxRecDepth 100000 in
theorem c_X5_interval (l : Launch) (hst : l.stackTraces = false) (E : EE) (sz : Nat) (x a a2 a3 b d k pa y w : Nat → Nat) (g : GG) (B : Nat) (hI : IB B g) (p0 p1 : Int32) : XI l yX5_interval cX5_interval 3 .int rm_X5_interval [.ref (x 0), .int p0, .int p1] E sz [coC E x a a2 a3 b d k pa y w, stC E a g] (fun (r : Int32) (_ : Unit) => (hasM g p0 && hasM g p1) = true ∧ r = nI (ap (g 3 (tn p0)) (g 3 (tn p1)))) (fun _ => [coC E x a a2 a3 b d k pa y w, stC E a g]) (fun (Ex : String) (_ : Unit) => Ex = IOX ∧ (hasM g p0 && hasM g p1) = false) (fun _ => [coC E x a a2 a3 b d k pa y w, stC E a g]) 2 12 := by
  refine xi_go hst (by decide) rfl (Nat.le_of_ble_eq_true rfl) ?_
  intro p e s m below meth c A Q ls hx hb hml hown hts hK hZ hDD hA hsz hP hD hl hret hprop hthr
  have hS : va_S A s.heap s.heap [] := va_S.rf
  have hl : lv_has ls 3 [(0, .ref (x 0)), (1, .int p0), (2, .int p1)] := hl
  skip
  have hmc := hI.mc
  have hbu := hI.bud
  refine lv_aload_n hx hb dX5_interval_0 rfl (lv_at hl 0 rfl) ?_
  refine lv_iload_n hx hb dX5_interval_1 rfl (lv_at hl 1 rfl) ?_
  refine run_xv (S := Unit) (SX := Unit) (run_XV (As := [.int p0]) (rest := []) (bs := [coC E x a a2 a3 b d k pa y w, stC E a g]) (cb := [coC E x a a2 a3 b d k pa y w, stC E a g]) hx hb hml hown hts hK hZ hDD hA (c_X5_needMember l hst E _ x a a2 a3 b d k pa y w g _ hI p0) l_X5_127 rfl ⟨⟨rfl, rfl⟩, Nat.le_of_ble_eq_true rfl, Nat.le_of_ble_eq_true rfl⟩ 9 rfl [0, 1] rfl (by decide) rfl hP hD hS hl.1 rfl (Nat.le_of_ble_eq_true rfl) dX5_interval_2 ⟨Nat.le_of_ble_eq_true rfl, Nat.le_of_ble_eq_true rfl⟩) hA hP hD hS (isC := [0, 1]) rfl [] [0, 1] (br := []) (bs2 := fun _ => [coC E x a a2 a3 b d k pa y w, stC E a g]) (bx2 := fun _ => [coC E x a a2 a3 b d k pa y w, stC E a g]) rfl (by decide) (fun _ => rfl) (fun _ => rfl) (by decide) (fun Ex ce q3 ux H locs hw hP hD hS hc1 hc2 hc3 => ?_) (fun u H locs hw hP hD hS => ?_)
  · exact hprop _ _ _ () _ _ _ _ _ _ _ ⟨hw.1, by first | (rw [hhp0, hw.2]; rfl) | (rw [hw.2]; rfl)⟩ hP hD hS hc1 hc2 hc3 (by omega) (by omega)
  have hw : hasM g p0 = true := hw
  have hhp0 := hw
  have hmp0 := hasM_t hw
  have htp0 : ((tn p0 : Nat) : Int) = p0.toInt := tn_t (by omega)
  have hbp0 := hI.mem (m := tn p0) (by omega)
  refine lv_aload_n hx hb dX5_interval_5 rfl (lv_at hl 0 rfl) ?_
  refine lv_iload_n hx hb dX5_interval_6 rfl (lv_at hl 2 rfl) ?_
  refine run_xv (S := Unit) (SX := Unit) (run_XV (As := [.int p1]) (rest := []) (bs := [coC E x a a2 a3 b d k pa y w, stC E a g]) (cb := [coC E x a a2 a3 b d k pa y w, stC E a g]) hx hb hml hown hts hK hZ hDD hA (c_X5_needMember l hst E _ x a a2 a3 b d k pa y w g _ hI p1) l_X5_127 rfl ⟨⟨rfl, rfl⟩, Nat.le_of_ble_eq_true rfl, Nat.le_of_ble_eq_true rfl⟩ 9 rfl [0, 1] rfl (by decide) rfl hP hD hS hl.1 rfl (Nat.le_of_ble_eq_true rfl) dX5_interval_7 ⟨Nat.le_of_ble_eq_true rfl, Nat.le_of_ble_eq_true rfl⟩) hA hP hD hS (isC := [0, 1]) rfl [] [0, 1] (br := []) (bs2 := fun _ => [coC E x a a2 a3 b d k pa y w, stC E a g]) (bx2 := fun _ => [coC E x a a2 a3 b d k pa y w, stC E a g]) rfl (by decide) (fun _ => rfl) (fun _ => rfl) (by decide) (fun Ex ce q3 ux H locs hw hP hD hS hc1 hc2 hc3 => ?_) (fun u H locs hw hP hD hS => ?_)
  · exact hprop _ _ _ () _ _ _ _ _ _ _ ⟨hw.1, by first | (rw [hhp0, hw.2]; rfl) | (rw [hw.2]; rfl)⟩ hP hD hS hc1 hc2 hc3 (by omega) (by omega)
  have hw : hasM g p1 = true := hw
  have hhp1 := hw
  have hmp1 := hasM_t hw
  have htp1 : ((tn p1 : Nat) : Int) = p1.toInt := tn_t (by omega)
  have hbp1 := hI.mem (m := tn p1) (by omega)
  have hl : lv_has ls 3 [(0, .ref (x 0)), (1, .int (nI (tn p0))), (2, .int p1)] := by rw [tn_n (x := p0) (by omega)]; exact hl
  have hl : lv_has ls 3 [(0, .ref (x 0)), (1, .int (nI (tn p0))), (2, .int (nI (tn p1)))] := by rw [tn_n (x := p1) (by omega)]; exact hl
  refine lv_aload_n hx hb dX5_interval_10 rfl (lv_at hl 0 rfl) ?_
  refine va_get (D := E.1) (ci := 9) (v := .ref (a 0)) (C := RX5) (T := TX5) (N := 11) hx hb hts inX5 hown hK hP 0 rfl rfl 0 (by decide) (hts _ q246) (fun _ h9 => h9) rfl dX5_interval_11 ?_
  refine va_get (D := E.1) (ci := 8) (v := .ref (a 4)) (C := RX4) (T := TX4) (N := 16) hx hb hts inX4 hown hK hP 1 rfl rfl 3 (by decide) (hts _ q75) (fun _ h9 => h9) rfl dX5_interval_14 ?_
  refine lv_iload_n hx hb dX5_interval_17 rfl (lv_at hl 1 rfl) ?_
  refine nv_iald (f := (g 3)) (i := tn p0) (n := 8) hx hb hK hP 5 0 rfl rfl (by omega) (by decide) dX5_interval_18 ?_
  refine lv_aload_n hx hb dX5_interval_19 rfl (lv_at hl 0 rfl) ?_
  refine va_get (D := E.1) (ci := 9) (v := .ref (a 0)) (C := RX5) (T := TX5) (N := 11) hx hb hts inX5 hown hK hP 0 rfl rfl 0 (by decide) (hts _ q246) (fun _ h9 => h9) rfl dX5_interval_20 ?_
  refine va_get (D := E.1) (ci := 8) (v := .ref (a 4)) (C := RX4) (T := TX4) (N := 16) hx hb hts inX4 hown hK hP 1 rfl rfl 3 (by decide) (hts _ q75) (fun _ h9 => h9) rfl dX5_interval_23 ?_
  refine lv_iload_n hx hb dX5_interval_26 rfl (lv_at hl 2 rfl) ?_
  refine nv_iald (f := (g 3)) (i := tn p1) (n := 8) hx hb hK hP 5 0 rfl rfl (by omega) (by decide) dX5_interval_27 ?_
  refine run_i (S := Unit) (run_S (As := [.int (nI (g 3 (tn p0))), .int (nI (g 3 (tn p1)))]) (rest := []) (bs := [coC E x a a2 a3 b d k pa y w, stC E a g]) (cb := []) hx hb hml hown hts hK hZ hA (c_X5_stepsBetween l E _ (g 3 (tn p0)) (g 3 (tn p1)) (by omega) (by omega)) l_X5_146 rfl ⟨⟨rfl, rfl⟩, Nat.le_of_ble_eq_true rfl, Nat.le_of_ble_eq_true rfl⟩ [] rfl (by decide) hP hD hS hl.1 rfl (Nat.le_of_ble_eq_true rfl) dX5_interval_28 ⟨Nat.le_of_ble_eq_true rfl, Nat.le_of_ble_eq_true rfl⟩) hA hP hD hS (isC := []) rfl [0, 1] [0, 1] (br := [coC E x a a2 a3 b d k pa y w, stC E a g]) (bs2 := fun _ => [coC E x a a2 a3 b d k pa y w, stC E a g]) rfl (by decide) (fun _ => rfl) (by decide) (fun r u H locs hw hP hD hS => ?_)
  subst hw
  exact hret _ _ (nI (ap (g 3 (tn p0)) (g 3 (tn p1)))) () _ _ _ _ hP hD hS rfl ⟨by rw [hhp0, hhp1]; rfl, rfl⟩ dX5_interval_31 (by omega) (by omega)
abbrev rm_X5_commonBeats : Room := { frames := 7, cells := 2, slots := 12, locals := 121 }
set_option maxHeartbeats 4000000 in
set_option maxRecDepth 100000 in
theorem c_X5_commonBeats (l : Launch) (hst : l.stackTraces = false) (E : EE) (sz : Nat) (x a a2 a3 b d k pa y w : Nat → Nat) (g : GG) (B : Nat) (hI : IB B g) (p0 p1 : Int32) : XI l yX5_commonBeats cX5_commonBeats 3 .int rm_X5_commonBeats [.ref (x 0), .int p0, .int p1] E sz [coC E x a a2 a3 b d k pa y w, stC E a g] (fun (r : Int32) (_ : Unit) => (hasM g p0 && hasM g p1) = true ∧ r = nI (cmC g (tn p0) (tn p1))) (fun _ => [coC E x a a2 a3 b d k pa y w, stC E a g]) (fun (Ex : String) (_ : Unit) => Ex = IOX ∧ (hasM g p0 && hasM g p1) = false) (fun _ => [coC E x a a2 a3 b d k pa y w, stC E a g]) 2 12 := by
  refine xi_go hst (by decide) rfl (Nat.le_of_ble_eq_true rfl) ?_
  intro p e s m below meth c A Q ls hx hb hml hown hts hK hZ hDD hA hsz hP hD hl hret hprop hthr
  have hS : va_S A s.heap s.heap [] := va_S.rf
  have hl : lv_has ls 3 [(0, .ref (x 0)), (1, .int p0), (2, .int p1)] := hl
  skip
  have hmc := hI.mc
  have hbu := hI.bud
  refine lv_aload_n hx hb dX5_commonBeats_0 rfl (lv_at hl 0 rfl) ?_
  refine lv_iload_n hx hb dX5_commonBeats_1 rfl (lv_at hl 1 rfl) ?_
  refine run_xv (S := Unit) (SX := Unit) (run_XV (As := [.int p0]) (rest := []) (bs := [coC E x a a2 a3 b d k pa y w, stC E a g]) (cb := [coC E x a a2 a3 b d k pa y w, stC E a g]) hx hb hml hown hts hK hZ hDD hA (c_X5_needMember l hst E _ x a a2 a3 b d k pa y w g _ hI p0) l_X5_127 rfl ⟨⟨rfl, rfl⟩, Nat.le_of_ble_eq_true rfl, Nat.le_of_ble_eq_true rfl⟩ 9 rfl [0, 1] rfl (by decide) rfl hP hD hS hl.1 rfl (Nat.le_of_ble_eq_true rfl) dX5_commonBeats_2 ⟨Nat.le_of_ble_eq_true rfl, Nat.le_of_ble_eq_true rfl⟩) hA hP hD hS (isC := [0, 1]) rfl [] [0, 1] (br := []) (bs2 := fun _ => [coC E x a a2 a3 b d k pa y w, stC E a g]) (bx2 := fun _ => [coC E x a a2 a3 b d k pa y w, stC E a g]) rfl (by decide) (fun _ => rfl) (fun _ => rfl) (by decide) (fun Ex ce q3 ux H locs hw hP hD hS hc1 hc2 hc3 => ?_) (fun u H locs hw hP hD hS => ?_)
  · exact hprop _ _ _ () _ _ _ _ _ _ _ ⟨hw.1, by first | (rw [hhp0, hw.2]; rfl) | (rw [hw.2]; rfl)⟩ hP hD hS hc1 hc2 hc3 (by omega) (by omega)
  have hw : hasM g p0 = true := hw
  have hhp0 := hw
  have hmp0 := hasM_t hw
  have htp0 : ((tn p0 : Nat) : Int) = p0.toInt := tn_t (by omega)
  have hbp0 := hI.mem (m := tn p0) (by omega)
  refine lv_aload_n hx hb dX5_commonBeats_5 rfl (lv_at hl 0 rfl) ?_
  refine lv_iload_n hx hb dX5_commonBeats_6 rfl (lv_at hl 2 rfl) ?_
  refine run_xv (S := Unit) (SX := Unit) (run_XV (As := [.int p1]) (rest := []) (bs := [coC E x a a2 a3 b d k pa y w, stC E a g]) (cb := [coC E x a a2 a3 b d k pa y w, stC E a g]) hx hb hml hown hts hK hZ hDD hA (c_X5_needMember l hst E _ x a a2 a3 b d k pa y w g _ hI p1) l_X5_127 rfl ⟨⟨rfl, rfl⟩, Nat.le_of_ble_eq_true rfl, Nat.le_of_ble_eq_true rfl⟩ 9 rfl [0, 1] rfl (by decide) rfl hP hD hS hl.1 rfl (Nat.le_of_ble_eq_true rfl) dX5_commonBeats_7 ⟨Nat.le_of_ble_eq_true rfl, Nat.le_of_ble_eq_true rfl⟩) hA hP hD hS (isC := [0, 1]) rfl [] [0, 1] (br := []) (bs2 := fun _ => [coC E x a a2 a3 b d k pa y w, stC E a g]) (bx2 := fun _ => [coC E x a a2 a3 b d k pa y w, stC E a g]) rfl (by decide) (fun _ => rfl) (fun _ => rfl) (by decide) (fun Ex ce q3 ux H locs hw hP hD hS hc1 hc2 hc3 => ?_) (fun u H locs hw hP hD hS => ?_)
  · exact hprop _ _ _ () _ _ _ _ _ _ _ ⟨hw.1, by first | (rw [hhp0, hw.2]; rfl) | (rw [hw.2]; rfl)⟩ hP hD hS hc1 hc2 hc3 (by omega) (by omega)
  have hw : hasM g p1 = true := hw
  have hhp1 := hw
  have hmp1 := hasM_t hw
  have htp1 : ((tn p1 : Nat) : Int) = p1.toInt := tn_t (by omega)
  have hbp1 := hI.mem (m := tn p1) (by omega)
  have hl : lv_has ls 3 [(0, .ref (x 0)), (1, .int (nI (tn p0))), (2, .int p1)] := by rw [tn_n (x := p0) (by omega)]; exact hl
  have hl : lv_has ls 3 [(0, .ref (x 0)), (1, .int (nI (tn p0))), (2, .int (nI (tn p1)))] := by rw [tn_n (x := p1) (by omega)]; exact hl
  refine lv_aload_n hx hb dX5_commonBeats_10 rfl (lv_at hl 0 rfl) ?_
  refine va_get (D := E.1) (ci := 9) (v := .ref (a 0)) (C := RX5) (T := TX5) (N := 11) hx hb hts inX5 hown hK hP 0 rfl rfl 0 (by decide) (hts _ q246) (fun _ h9 => h9) rfl dX5_commonBeats_11 ?_
  refine lv_iload_n hx hb dX5_commonBeats_14 rfl (lv_at hl 1 rfl) ?_
  refine run_l (S := Unit) (run_V (As := [.int (nI (tn p0))]) (rest := []) (bs := [coC E x a a2 a3 b d k pa y w, stC E a g]) (cb := [stC E a g]) hx hb hml hown hts hK hZ hA (c_X4_dueByLooking l E _ a g _ hI (tn p0) (by omega)) l_X5_159 rfl ⟨⟨rfl, rfl⟩, Nat.le_of_ble_eq_true rfl, Nat.le_of_ble_eq_true rfl⟩ 8 rfl [1] rfl (by decide) rfl hP hD hS hl.1 rfl (Nat.le_of_ble_eq_true rfl) dX5_commonBeats_15 ⟨Nat.le_of_ble_eq_true rfl, Nat.le_of_ble_eq_true rfl⟩) hA hP hD hS (isC := [1]) rfl [0] [0, 1] (br := [coC E x a a2 a3 b d k pa y w]) (bs2 := fun _ => [coC E x a a2 a3 b d k pa y w, stC E a g]) rfl (by decide) (fun _ => rfl) (by decide) (fun r u H locs hw hP hD hS => ?_)
  subst hw
  refine lv_aload_n hx hb dX5_commonBeats_18 rfl (lv_at hl 0 rfl) ?_
  refine va_get (D := E.1) (ci := 9) (v := .ref (a 0)) (C := RX5) (T := TX5) (N := 11) hx hb hts inX5 hown hK hP 0 rfl rfl 0 (by decide) (hts _ q246) (fun _ h9 => h9) rfl dX5_commonBeats_19 ?_
  refine lv_iload_n hx hb dX5_commonBeats_22 rfl (lv_at hl 2 rfl) ?_
  refine run_l (S := Unit) (run_V (As := [.int (nI (tn p1))]) (rest := [.long (lN (dlk g (tn p0) 60))]) (bs := [coC E x a a2 a3 b d k pa y w, stC E a g]) (cb := [stC E a g]) hx hb hml hown hts hK hZ hA (c_X4_dueByLooking l E _ a g _ hI (tn p1) (by omega)) l_X5_159 rfl ⟨⟨rfl, rfl⟩, Nat.le_of_ble_eq_true rfl, Nat.le_of_ble_eq_true rfl⟩ 8 rfl [1] rfl (by decide) rfl hP hD hS hl.1 rfl (Nat.le_of_ble_eq_true rfl) dX5_commonBeats_23 ⟨Nat.le_of_ble_eq_true rfl, Nat.le_of_ble_eq_true rfl⟩) hA hP hD hS (isC := [1]) rfl [0] [0, 1] (br := [coC E x a a2 a3 b d k pa y w]) (bs2 := fun _ => [coC E x a a2 a3 b d k pa y w, stC E a g]) rfl (by decide) (fun _ => rfl) (by decide) (fun r u H locs hw hP hD hS => ?_)
  subst hw
  refine nv_land hx hb (dlk_64 (Nat.le_refl _)) (dlk_64 (Nat.le_refl _)) dX5_commonBeats_26 ?_
  refine run_i (S := Unit) (run_S (As := [.long (lN (dlk g (tn p0) 60 &&& dlk g (tn p1) 60))]) (rest := []) (bs := [coC E x a a2 a3 b d k pa y w, stC E a g]) (cb := []) hx hb hml hown hts hK hZ hA (c_J13_bitCount_95d88 l E _ (lN (dlk g (tn p0) 60 &&& dlk g (tn p1) 60))) l_X5_166 rfl ⟨⟨rfl, rfl⟩, Nat.le_of_ble_eq_true rfl, Nat.le_of_ble_eq_true rfl⟩ [] rfl (by decide) hP hD hS hl.1 rfl (Nat.le_of_ble_eq_true rfl) dX5_commonBeats_27 ⟨Nat.le_of_ble_eq_true rfl, Nat.le_of_ble_eq_true rfl⟩) hA hP hD hS (isC := []) rfl [0, 1] [0, 1] (br := [coC E x a a2 a3 b d k pa y w, stC E a g]) (bs2 := fun _ => [coC E x a a2 a3 b d k pa y w, stC E a g]) rfl (by decide) (fun _ => rfl) (by decide) (fun r u H locs hw hP hD hS => ?_)
  subst hw
  exact hret _ _ (bcL (lN (dlk g (tn p0) 60 &&& dlk g (tn p1) 60))) () _ _ _ _ hP hD hS rfl ⟨by rw [hhp0, hhp1]; rfl, common_eqC hI (by omega) (by omega)⟩ dX5_commonBeats_30 (by omega) (by omega)
abbrev rm_X5_dueBeats : Room := { frames := 7, cells := 1, slots := 6, locals := 121 }
set_option maxHeartbeats 4000000 in
set_option maxRecDepth 100000 in
theorem c_X5_dueBeats (l : Launch) (hst : l.stackTraces = false) (E : EE) (sz : Nat) (x a a2 a3 b d k pa y w : Nat → Nat) (g : GG) (B : Nat) (hI : IB B g) (p0 : Int32) : XL l yX5_dueBeats cX5_dueBeats 2 rm_X5_dueBeats [.ref (x 0), .int p0] E sz [coC E x a a2 a3 b d k pa y w, stC E a g] (fun (r : Int64) (_ : Unit) => hasM g p0 = true ∧ r = lN (dlk g (tn p0) 60)) (fun _ => [coC E x a a2 a3 b d k pa y w, stC E a g]) (fun (Ex : String) (_ : Unit) => Ex = IOX ∧ hasM g p0 = false) (fun _ => [coC E x a a2 a3 b d k pa y w, stC E a g]) 1 6 := by
  refine xl_go hst (by decide) rfl (Nat.le_of_ble_eq_true rfl) ?_
  intro p e s m below meth c A Q ls hx hb hml hown hts hK hZ hDD hA hsz hP hD hl hret hprop hthr
  have hS : va_S A s.heap s.heap [] := va_S.rf
  have hl : lv_has ls 2 [(0, .ref (x 0)), (1, .int p0)] := hl
  skip
  have hmc := hI.mc
  have hbu := hI.bud
  refine lv_aload_n hx hb dX5_dueBeats_0 rfl (lv_at hl 0 rfl) ?_
  refine lv_iload_n hx hb dX5_dueBeats_1 rfl (lv_at hl 1 rfl) ?_
  refine run_xv (S := Unit) (SX := Unit) (run_XV (As := [.int p0]) (rest := []) (bs := [coC E x a a2 a3 b d k pa y w, stC E a g]) (cb := [coC E x a a2 a3 b d k pa y w, stC E a g]) hx hb hml hown hts hK hZ hDD hA (c_X5_needMember l hst E _ x a a2 a3 b d k pa y w g _ hI p0) l_X5_127 rfl ⟨⟨rfl, rfl⟩, Nat.le_of_ble_eq_true rfl, Nat.le_of_ble_eq_true rfl⟩ 9 rfl [0, 1] rfl (by decide) rfl hP hD hS hl.1 rfl (Nat.le_of_ble_eq_true rfl) dX5_dueBeats_2 ⟨Nat.le_of_ble_eq_true rfl, Nat.le_of_ble_eq_true rfl⟩) hA hP hD hS (isC := [0, 1]) rfl [] [0, 1] (br := []) (bs2 := fun _ => [coC E x a a2 a3 b d k pa y w, stC E a g]) (bx2 := fun _ => [coC E x a a2 a3 b d k pa y w, stC E a g]) rfl (by decide) (fun _ => rfl) (fun _ => rfl) (by decide) (fun Ex ce q3 ux H locs hw hP hD hS hc1 hc2 hc3 => ?_) (fun u H locs hw hP hD hS => ?_)
  · exact hprop _ _ _ () _ _ _ _ _ _ _ hw hP hD hS hc1 hc2 hc3 (by omega) (by omega)
  have hw : hasM g p0 = true := hw
  have hhp0 := hw
  have hmp0 := hasM_t hw
  have htp0 : ((tn p0 : Nat) : Int) = p0.toInt := tn_t (by omega)
  have hbp0 := hI.mem (m := tn p0) (by omega)
  have hl : lv_has ls 2 [(0, .ref (x 0)), (1, .int (nI (tn p0)))] := by rw [tn_n (x := p0) (by omega)]; exact hl
  refine lv_aload_n hx hb dX5_dueBeats_5 rfl (lv_at hl 0 rfl) ?_
  refine va_get (D := E.1) (ci := 9) (v := .ref (a 0)) (C := RX5) (T := TX5) (N := 11) hx hb hts inX5 hown hK hP 0 rfl rfl 0 (by decide) (hts _ q246) (fun _ h9 => h9) rfl dX5_dueBeats_6 ?_
  refine lv_iload_n hx hb dX5_dueBeats_9 rfl (lv_at hl 1 rfl) ?_
  refine run_l (S := Unit) (run_V (As := [.int (nI (tn p0))]) (rest := []) (bs := [coC E x a a2 a3 b d k pa y w, stC E a g]) (cb := [stC E a g]) hx hb hml hown hts hK hZ hA (c_X4_dueByLooking l E _ a g _ hI (tn p0) (by omega)) l_X5_159 rfl ⟨⟨rfl, rfl⟩, Nat.le_of_ble_eq_true rfl, Nat.le_of_ble_eq_true rfl⟩ 8 rfl [1] rfl (by decide) rfl hP hD hS hl.1 rfl (Nat.le_of_ble_eq_true rfl) dX5_dueBeats_10 ⟨Nat.le_of_ble_eq_true rfl, Nat.le_of_ble_eq_true rfl⟩) hA hP hD hS (isC := [1]) rfl [0] [0, 1] (br := [coC E x a a2 a3 b d k pa y w]) (bs2 := fun _ => [coC E x a a2 a3 b d k pa y w, stC E a g]) rfl (by decide) (fun _ => rfl) (by decide) (fun r u H locs hw hP hD hS => ?_)
  subst hw
  exact hret _ _ (lN (dlk g (tn p0) 60)) () _ _ _ _ hP hD hS ⟨hhp0, rfl⟩ dX5_dueBeats_13 (by omega) (by omega)
abbrev rm_X5_dueBeatsByDoubling : Room := { frames := 7, cells := 1, slots := 6, locals := 121 }
set_option maxHeartbeats 4000000 in
set_option maxRecDepth 100000 in
theorem c_X5_dueBeatsByDoubling (l : Launch) (hst : l.stackTraces = false) (E : EE) (sz : Nat) (x a a2 a3 b d k pa y w : Nat → Nat) (g : GG) (B : Nat) (hI : IB B g) (p0 : Int32) : XL l yX5_dueBeatsByDoubling cX5_dueBeatsByDoubling 2 rm_X5_dueBeatsByDoubling [.ref (x 0), .int p0] E sz [coC E x a a2 a3 b d k pa y w, stC E a g] (fun (r : Int64) (_ : Unit) => hasM g p0 = true ∧ r = lN (dlk g (tn p0) 60)) (fun _ => [coC E x a a2 a3 b d k pa y w, stC E a g]) (fun (Ex : String) (_ : Unit) => Ex = IOX ∧ hasM g p0 = false) (fun _ => [coC E x a a2 a3 b d k pa y w, stC E a g]) 1 6 := by
  refine xl_go hst (by decide) rfl (Nat.le_of_ble_eq_true rfl) ?_
  intro p e s m below meth c A Q ls hx hb hml hown hts hK hZ hDD hA hsz hP hD hl hret hprop hthr
  have hS : va_S A s.heap s.heap [] := va_S.rf
  have hl : lv_has ls 2 [(0, .ref (x 0)), (1, .int p0)] := hl
  skip
  have hmc := hI.mc
  have hbu := hI.bud
  refine lv_aload_n hx hb dX5_dueBeatsByDoubling_0 rfl (lv_at hl 0 rfl) ?_
  refine lv_iload_n hx hb dX5_dueBeatsByDoubling_1 rfl (lv_at hl 1 rfl) ?_
  refine run_xv (S := Unit) (SX := Unit) (run_XV (As := [.int p0]) (rest := []) (bs := [coC E x a a2 a3 b d k pa y w, stC E a g]) (cb := [coC E x a a2 a3 b d k pa y w, stC E a g]) hx hb hml hown hts hK hZ hDD hA (c_X5_needMember l hst E _ x a a2 a3 b d k pa y w g _ hI p0) l_X5_127 rfl ⟨⟨rfl, rfl⟩, Nat.le_of_ble_eq_true rfl, Nat.le_of_ble_eq_true rfl⟩ 9 rfl [0, 1] rfl (by decide) rfl hP hD hS hl.1 rfl (Nat.le_of_ble_eq_true rfl) dX5_dueBeatsByDoubling_2 ⟨Nat.le_of_ble_eq_true rfl, Nat.le_of_ble_eq_true rfl⟩) hA hP hD hS (isC := [0, 1]) rfl [] [0, 1] (br := []) (bs2 := fun _ => [coC E x a a2 a3 b d k pa y w, stC E a g]) (bx2 := fun _ => [coC E x a a2 a3 b d k pa y w, stC E a g]) rfl (by decide) (fun _ => rfl) (fun _ => rfl) (by decide) (fun Ex ce q3 ux H locs hw hP hD hS hc1 hc2 hc3 => ?_) (fun u H locs hw hP hD hS => ?_)
  · exact hprop _ _ _ () _ _ _ _ _ _ _ hw hP hD hS hc1 hc2 hc3 (by omega) (by omega)
  have hw : hasM g p0 = true := hw
  have hhp0 := hw
  have hmp0 := hasM_t hw
  have htp0 : ((tn p0 : Nat) : Int) = p0.toInt := tn_t (by omega)
  have hbp0 := hI.mem (m := tn p0) (by omega)
  have hl : lv_has ls 2 [(0, .ref (x 0)), (1, .int (nI (tn p0)))] := by rw [tn_n (x := p0) (by omega)]; exact hl
  refine lv_aload_n hx hb dX5_dueBeatsByDoubling_5 rfl (lv_at hl 0 rfl) ?_
  refine va_get (D := E.1) (ci := 9) (v := .ref (a 0)) (C := RX5) (T := TX5) (N := 11) hx hb hts inX5 hown hK hP 0 rfl rfl 0 (by decide) (hts _ q246) (fun _ h9 => h9) rfl dX5_dueBeatsByDoubling_6 ?_
  refine lv_iload_n hx hb dX5_dueBeatsByDoubling_9 rfl (lv_at hl 1 rfl) ?_
  refine run_l (S := Unit) (run_V (As := [.int (nI (tn p0))]) (rest := []) (bs := [coC E x a a2 a3 b d k pa y w, stC E a g]) (cb := [stC E a g]) hx hb hml hown hts hK hZ hA (c_X4_dueByPattern l E _ a g _ hI (tn p0) (by omega)) l_X5_163 rfl ⟨⟨rfl, rfl⟩, Nat.le_of_ble_eq_true rfl, Nat.le_of_ble_eq_true rfl⟩ 8 rfl [1] rfl (by decide) rfl hP hD hS hl.1 rfl (Nat.le_of_ble_eq_true rfl) dX5_dueBeatsByDoubling_10 ⟨Nat.le_of_ble_eq_true rfl, Nat.le_of_ble_eq_true rfl⟩) hA hP hD hS (isC := [1]) rfl [0] [0, 1] (br := [coC E x a a2 a3 b d k pa y w]) (bs2 := fun _ => [coC E x a a2 a3 b d k pa y w, stC E a g]) rfl (by decide) (fun _ => rfl) (by decide) (fun r u H locs hw hP hD hS => ?_)
  subst hw
  exact hret _ _ (lN (dlk g (tn p0) 60)) () _ _ _ _ hP hD hS ⟨hhp0, rfl⟩ dX5_dueBeatsByDoubling_13 (by omega) (by omega)
abbrev rm_X5_dividend : Room := { frames := 7, cells := 1, slots := 6, locals := 192 }
set_option maxHeartbeats 4000000 in
set_option maxRecDepth 100000 in
theorem c_X5_dividend (l : Launch) (hst : l.stackTraces = false) (E : EE) (sz : Nat) (x a a2 a3 b d k pa y w : Nat → Nat) (g : GG) (B : Nat) (hI : IB B g) (co re : Nat → Nat) (p0 : Int32) : XI l yX5_dividend cX5_dividend 2 .int rm_X5_dividend [.ref (x 0), .int p0] E sz [coC E x a a2 a3 b d k pa y w, stC E a g, diC E d co re] (fun (r : Int32) (u : (Nat → Nat) × (Nat → Nat)) => hasM g p0 = true ∧ r = nI (dv g (tn p0))) (fun u => [coC E x a a2 a3 b d k pa y w, stC E a g, diC E d u.1 u.2]) (fun (Ex : String) (_ : Unit) => Ex = IOX ∧ hasM g p0 = false) (fun _ => [coC E x a a2 a3 b d k pa y w, stC E a g, diC E d co re]) 1 6 := by
  refine xi_go hst (by decide) rfl (Nat.le_of_ble_eq_true rfl) ?_
  intro p e s m below meth c A Q ls hx hb hml hown hts hK hZ hDD hA hsz hP hD hl hret hprop hthr
  have hS : va_S A s.heap s.heap [] := va_S.rf
  have hl : lv_has ls 2 [(0, .ref (x 0)), (1, .int p0)] := hl
  skip
  have hmc := hI.mc
  have hbu := hI.bud
  refine lv_aload_n hx hb dX5_dividend_0 rfl (lv_at hl 0 rfl) ?_
  refine lv_iload_n hx hb dX5_dividend_1 rfl (lv_at hl 1 rfl) ?_
  refine run_xv (S := Unit) (SX := Unit) (run_XV (As := [.int p0]) (rest := []) (bs := [coC E x a a2 a3 b d k pa y w, stC E a g, diC E d co re]) (cb := [coC E x a a2 a3 b d k pa y w, stC E a g]) hx hb hml hown hts hK hZ hDD hA (c_X5_needMember l hst E _ x a a2 a3 b d k pa y w g _ hI p0) l_X5_127 rfl ⟨⟨rfl, rfl⟩, Nat.le_of_ble_eq_true rfl, Nat.le_of_ble_eq_true rfl⟩ 9 rfl [0, 1] rfl (by decide) rfl hP hD hS hl.1 rfl (Nat.le_of_ble_eq_true rfl) dX5_dividend_2 ⟨Nat.le_of_ble_eq_true rfl, Nat.le_of_ble_eq_true rfl⟩) hA hP hD hS (isC := [0, 1]) rfl [2] [1, 2, 0] (br := [diC E d co re]) (bs2 := fun _ => [coC E x a a2 a3 b d k pa y w, stC E a g, diC E d co re]) (bx2 := fun _ => [coC E x a a2 a3 b d k pa y w, stC E a g, diC E d co re]) rfl (by decide) (fun _ => rfl) (fun _ => rfl) (by decide) (fun Ex ce q3 ux H locs hw hP hD hS hc1 hc2 hc3 => ?_) (fun u H locs hw hP hD hS => ?_)
  · exact hprop _ _ _ () _ _ _ _ _ _ _ hw hP hD hS hc1 hc2 hc3 (by omega) (by omega)
  have hw : hasM g p0 = true := hw
  have hhp0 := hw
  have hmp0 := hasM_t hw
  have htp0 : ((tn p0 : Nat) : Int) = p0.toInt := tn_t (by omega)
  have hbp0 := hI.mem (m := tn p0) (by omega)
  have hz : 0 < g 8 0 := by omega
  have hl : lv_has ls 2 [(0, .ref (x 0)), (1, .int (nI (tn p0)))] := by rw [tn_n (x := p0) (by omega)]; exact hl
  refine lv_aload_n hx hb dX5_dividend_5 rfl (lv_at hl 0 rfl) ?_
  refine va_get (D := E.1) (ci := 9) (v := .ref (d 0)) (C := RX5) (T := TX5) (N := 11) hx hb hts inX5 hown hK hP 0 rfl rfl 4 (by decide) (hts _ q250) (fun _ h9 => h9) rfl dX5_dividend_6 ?_
  refine lv_aload_n hx hb dX5_dividend_9 rfl (lv_at hl 0 rfl) ?_
  refine va_get (D := E.1) (ci := 9) (v := .ref (a 0)) (C := RX5) (T := TX5) (N := 11) hx hb hts inX5 hown hK hP 0 rfl rfl 0 (by decide) (hts _ q246) (fun _ h9 => h9) rfl dX5_dividend_10 ?_
  refine lv_iload_n hx hb dX5_dividend_13 rfl (lv_at hl 1 rfl) ?_
  refine run_i (S := (Nat → Nat) × (Nat → Nat)) (run_V (As := [.ref (a 0), .int (nI (tn p0))]) (rest := []) (bs := [coC E x a a2 a3 b d k pa y w, stC E a g, diC E d co re]) (cb := [diC E d co re, stC E a g]) hx hb hml hown hts hK hZ hA (c_X0_byGiving l E _ d co re a g _ hI hz (tn p0) (by omega)) l_X5_189 rfl ⟨⟨rfl, rfl⟩, Nat.le_of_ble_eq_true rfl, Nat.le_of_ble_eq_true rfl⟩ 4 rfl [2, 1] rfl (by decide) rfl hP hD hS hl.1 rfl (Nat.le_of_ble_eq_true rfl) dX5_dividend_14 ⟨Nat.le_of_ble_eq_true rfl, Nat.le_of_ble_eq_true rfl⟩) hA hP hD hS (isC := [2, 1]) rfl [0] [0, 2, 1] (br := [coC E x a a2 a3 b d k pa y w]) (bs2 := fun u => [coC E x a a2 a3 b d k pa y w, stC E a g, diC E d u.1 u.2]) rfl (by decide) (fun _ => rfl) (by decide) (fun r u H locs hw hP hD hS => ?_)
  obtain ⟨co_1, re_2⟩ := u
  subst hw
  have hP : va_P E.1 vwCl ([coC E x a a2 a3 b d k pa y w, stC E a g, diC E d co_1 re_2] : List va_W).flatten H := hP
  have hD : va_D A ([coC E x a a2 a3 b d k pa y w, stC E a g, diC E d co_1 re_2] : List va_W).flatten := hD
  exact hret _ _ (nI (dv g (tn p0))) (co_1, re_2) _ _ _ _ hP hD hS rfl ⟨hhp0, rfl⟩ dX5_dividend_17 (by omega) (by omega)
abbrev rm_X5_dividendByCounting : Room := { frames := 7, cells := 1, slots := 6, locals := 135 }
set_option maxHeartbeats 4000000 in
set_option maxRecDepth 100000 in
theorem c_X5_dividendByCounting (l : Launch) (hst : l.stackTraces = false) (E : EE) (sz : Nat) (x a a2 a3 b d k pa y w : Nat → Nat) (g : GG) (B : Nat) (hI : IB B g) (co re : Nat → Nat) (p0 : Int32) : XI l yX5_dividendByCounting cX5_dividendByCounting 2 .int rm_X5_dividendByCounting [.ref (x 0), .int p0] E sz [coC E x a a2 a3 b d k pa y w, stC E a g, diC E d co re] (fun (r : Int32) (u : (Nat → Nat) × (Nat → Nat)) => hasM g p0 = true ∧ r = nI (dv g (tn p0))) (fun u => [coC E x a a2 a3 b d k pa y w, stC E a g, diC E d u.1 u.2]) (fun (Ex : String) (_ : Unit) => Ex = IOX ∧ hasM g p0 = false) (fun _ => [coC E x a a2 a3 b d k pa y w, stC E a g, diC E d co re]) 1 6 := by
  refine xi_go hst (by decide) rfl (Nat.le_of_ble_eq_true rfl) ?_
  intro p e s m below meth c A Q ls hx hb hml hown hts hK hZ hDD hA hsz hP hD hl hret hprop hthr
  have hS : va_S A s.heap s.heap [] := va_S.rf
  have hl : lv_has ls 2 [(0, .ref (x 0)), (1, .int p0)] := hl
  skip
  have hmc := hI.mc
  have hbu := hI.bud
  refine lv_aload_n hx hb dX5_dividendByCounting_0 rfl (lv_at hl 0 rfl) ?_
  refine lv_iload_n hx hb dX5_dividendByCounting_1 rfl (lv_at hl 1 rfl) ?_
  refine run_xv (S := Unit) (SX := Unit) (run_XV (As := [.int p0]) (rest := []) (bs := [coC E x a a2 a3 b d k pa y w, stC E a g, diC E d co re]) (cb := [coC E x a a2 a3 b d k pa y w, stC E a g]) hx hb hml hown hts hK hZ hDD hA (c_X5_needMember l hst E _ x a a2 a3 b d k pa y w g _ hI p0) l_X5_127 rfl ⟨⟨rfl, rfl⟩, Nat.le_of_ble_eq_true rfl, Nat.le_of_ble_eq_true rfl⟩ 9 rfl [0, 1] rfl (by decide) rfl hP hD hS hl.1 rfl (Nat.le_of_ble_eq_true rfl) dX5_dividendByCounting_2 ⟨Nat.le_of_ble_eq_true rfl, Nat.le_of_ble_eq_true rfl⟩) hA hP hD hS (isC := [0, 1]) rfl [2] [1, 2, 0] (br := [diC E d co re]) (bs2 := fun _ => [coC E x a a2 a3 b d k pa y w, stC E a g, diC E d co re]) (bx2 := fun _ => [coC E x a a2 a3 b d k pa y w, stC E a g, diC E d co re]) rfl (by decide) (fun _ => rfl) (fun _ => rfl) (by decide) (fun Ex ce q3 ux H locs hw hP hD hS hc1 hc2 hc3 => ?_) (fun u H locs hw hP hD hS => ?_)
  · exact hprop _ _ _ () _ _ _ _ _ _ _ hw hP hD hS hc1 hc2 hc3 (by omega) (by omega)
  have hw : hasM g p0 = true := hw
  have hhp0 := hw
  have hmp0 := hasM_t hw
  have htp0 : ((tn p0 : Nat) : Int) = p0.toInt := tn_t (by omega)
  have hbp0 := hI.mem (m := tn p0) (by omega)
  have hz : 0 < g 8 0 := by omega
  have hl : lv_has ls 2 [(0, .ref (x 0)), (1, .int (nI (tn p0)))] := by rw [tn_n (x := p0) (by omega)]; exact hl
  refine lv_aload_n hx hb dX5_dividendByCounting_5 rfl (lv_at hl 0 rfl) ?_
  refine va_get (D := E.1) (ci := 9) (v := .ref (d 0)) (C := RX5) (T := TX5) (N := 11) hx hb hts inX5 hown hK hP 0 rfl rfl 4 (by decide) (hts _ q250) (fun _ h9 => h9) rfl dX5_dividendByCounting_6 ?_
  refine lv_aload_n hx hb dX5_dividendByCounting_9 rfl (lv_at hl 0 rfl) ?_
  refine va_get (D := E.1) (ci := 9) (v := .ref (a 0)) (C := RX5) (T := TX5) (N := 11) hx hb hts inX5 hown hK hP 0 rfl rfl 0 (by decide) (hts _ q246) (fun _ h9 => h9) rfl dX5_dividendByCounting_10 ?_
  refine lv_iload_n hx hb dX5_dividendByCounting_13 rfl (lv_at hl 1 rfl) ?_
  refine run_i (S := (Nat → Nat) × (Nat → Nat)) (run_V (As := [.ref (a 0), .int (nI (tn p0))]) (rest := []) (bs := [coC E x a a2 a3 b d k pa y w, stC E a g, diC E d co re]) (cb := [diC E d co re, stC E a g]) hx hb hml hown hts hK hZ hA (c_X0_byCounting l E _ d co re a g _ hI hz (tn p0) (by omega)) l_X5_193 rfl ⟨⟨rfl, rfl⟩, Nat.le_of_ble_eq_true rfl, Nat.le_of_ble_eq_true rfl⟩ 4 rfl [2, 1] rfl (by decide) rfl hP hD hS hl.1 rfl (Nat.le_of_ble_eq_true rfl) dX5_dividendByCounting_14 ⟨Nat.le_of_ble_eq_true rfl, Nat.le_of_ble_eq_true rfl⟩) hA hP hD hS (isC := [2, 1]) rfl [0] [0, 2, 1] (br := [coC E x a a2 a3 b d k pa y w]) (bs2 := fun u => [coC E x a a2 a3 b d k pa y w, stC E a g, diC E d u.1 u.2]) rfl (by decide) (fun _ => rfl) (by decide) (fun r u H locs hw hP hD hS => ?_)
  obtain ⟨co_1, re_2⟩ := u
  subst hw
  have hP : va_P E.1 vwCl ([coC E x a a2 a3 b d k pa y w, stC E a g, diC E d co_1 re_2] : List va_W).flatten H := hP
  have hD : va_D A ([coC E x a a2 a3 b d k pa y w, stC E a g, diC E d co_1 re_2] : List va_W).flatten := hD
  exact hret _ _ (nI (dv g (tn p0))) (co_1, re_2) _ _ _ _ hP hD hS rfl ⟨hhp0, rfl⟩ dX5_dividendByCounting_17 (by omega) (by omega)
abbrev rm_X5_power : Room := { frames := 7, cells := 1, slots := 6, locals := 127 }
set_option maxHeartbeats 4000000 in
set_option maxRecDepth 100000 in
theorem c_X5_power (l : Launch) (hst : l.stackTraces = false) (E : EE) (sz : Nat) (x a a2 a3 b d k pa y w : Nat → Nat) (g : GG) (B : Nat) (hI : IB B g) (so gw : Nat → Nat) (p0 : Int32) : XI l yX5_power cX5_power 2 .int rm_X5_power [.ref (x 0), .int p0] E sz [coC E x a a2 a3 b d k pa y w, stC E a g, grC E k so gw] (fun (r : Int32) (u : (Nat → Nat) × (Nat → Nat)) => hasM g p0 = true ∧ r = nI (powN g (tn p0))) (fun u => [coC E x a a2 a3 b d k pa y w, stC E a g, grC E k u.1 u.2]) (fun (Ex : String) (_ : Unit) => Ex = IOX ∧ hasM g p0 = false) (fun _ => [coC E x a a2 a3 b d k pa y w, stC E a g, grC E k so gw]) 1 6 := by
  refine xi_go hst (by decide) rfl (Nat.le_of_ble_eq_true rfl) ?_
  intro p e s m below meth c A Q ls hx hb hml hown hts hK hZ hDD hA hsz hP hD hl hret hprop hthr
  have hS : va_S A s.heap s.heap [] := va_S.rf
  have hl : lv_has ls 2 [(0, .ref (x 0)), (1, .int p0)] := hl
  skip
  have hmc := hI.mc
  have hbu := hI.bud
  refine lv_aload_n hx hb dX5_power_0 rfl (lv_at hl 0 rfl) ?_
  refine lv_iload_n hx hb dX5_power_1 rfl (lv_at hl 1 rfl) ?_
  refine run_xv (S := Unit) (SX := Unit) (run_XV (As := [.int p0]) (rest := []) (bs := [coC E x a a2 a3 b d k pa y w, stC E a g, grC E k so gw]) (cb := [coC E x a a2 a3 b d k pa y w, stC E a g]) hx hb hml hown hts hK hZ hDD hA (c_X5_needMember l hst E _ x a a2 a3 b d k pa y w g _ hI p0) l_X5_127 rfl ⟨⟨rfl, rfl⟩, Nat.le_of_ble_eq_true rfl, Nat.le_of_ble_eq_true rfl⟩ 9 rfl [0, 1] rfl (by decide) rfl hP hD hS hl.1 rfl (Nat.le_of_ble_eq_true rfl) dX5_power_2 ⟨Nat.le_of_ble_eq_true rfl, Nat.le_of_ble_eq_true rfl⟩) hA hP hD hS (isC := [0, 1]) rfl [2] [1, 2, 0] (br := [grC E k so gw]) (bs2 := fun _ => [coC E x a a2 a3 b d k pa y w, stC E a g, grC E k so gw]) (bx2 := fun _ => [coC E x a a2 a3 b d k pa y w, stC E a g, grC E k so gw]) rfl (by decide) (fun _ => rfl) (fun _ => rfl) (by decide) (fun Ex ce q3 ux H locs hw hP hD hS hc1 hc2 hc3 => ?_) (fun u H locs hw hP hD hS => ?_)
  · exact hprop _ _ _ () _ _ _ _ _ _ _ hw hP hD hS hc1 hc2 hc3 (by omega) (by omega)
  have hw : hasM g p0 = true := hw
  have hhp0 := hw
  have hmp0 := hasM_t hw
  have htp0 : ((tn p0 : Nat) : Int) = p0.toInt := tn_t (by omega)
  have hbp0 := hI.mem (m := tn p0) (by omega)
  have hl : lv_has ls 2 [(0, .ref (x 0)), (1, .int (nI (tn p0)))] := by rw [tn_n (x := p0) (by omega)]; exact hl
  refine lv_aload_n hx hb dX5_power_5 rfl (lv_at hl 0 rfl) ?_
  refine va_get (D := E.1) (ci := 9) (v := .ref (k 0)) (C := RX5) (T := TX5) (N := 11) hx hb hts inX5 hown hK hP 0 rfl rfl 5 (by decide) (hts _ q251) (fun _ h9 => h9) rfl dX5_power_6 ?_
  refine lv_aload_n hx hb dX5_power_9 rfl (lv_at hl 0 rfl) ?_
  refine va_get (D := E.1) (ci := 9) (v := .ref (a 0)) (C := RX5) (T := TX5) (N := 11) hx hb hts inX5 hown hK hP 0 rfl rfl 0 (by decide) (hts _ q246) (fun _ h9 => h9) rfl dX5_power_10 ?_
  refine lv_iload_n hx hb dX5_power_13 rfl (lv_at hl 1 rfl) ?_
  refine run_i (S := (Nat → Nat) × (Nat → Nat)) (run_V (As := [.ref (a 0), .int (nI (tn p0))]) (rest := []) (bs := [coC E x a a2 a3 b d k pa y w, stC E a g, grC E k so gw]) (cb := [grC E k so gw, stC E a g]) hx hb hml hown hts hK hZ hA (c_X1_decisiveByTrying l E _ k so gw a g _ hI (tn p0) (by omega)) l_X5_210 rfl ⟨⟨rfl, rfl⟩, Nat.le_of_ble_eq_true rfl, Nat.le_of_ble_eq_true rfl⟩ 5 rfl [2, 1] rfl (by decide) rfl hP hD hS hl.1 rfl (Nat.le_of_ble_eq_true rfl) dX5_power_14 ⟨Nat.le_of_ble_eq_true rfl, Nat.le_of_ble_eq_true rfl⟩) hA hP hD hS (isC := [2, 1]) rfl [0] [0, 2, 1] (br := [coC E x a a2 a3 b d k pa y w]) (bs2 := fun u => [coC E x a a2 a3 b d k pa y w, stC E a g, grC E k u.1 u.2]) rfl (by decide) (fun _ => rfl) (by decide) (fun r u H locs hw hP hD hS => ?_)
  obtain ⟨so_1, gw_2⟩ := u
  subst hw
  have hP : va_P E.1 vwCl ([coC E x a a2 a3 b d k pa y w, stC E a g, grC E k so_1 gw_2] : List va_W).flatten H := hP
  have hD : va_D A ([coC E x a a2 a3 b d k pa y w, stC E a g, grC E k so_1 gw_2] : List va_W).flatten := hD
  exact hret _ _ (nI (powN g (tn p0))) (so_1, gw_2) _ _ _ _ hP hD hS rfl ⟨hhp0, rfl⟩ dX5_power_17 (by omega) (by omega)
abbrev rm_X5_powerByTable : Room := { frames := 7, cells := 1, slots := 6, locals := 133 }
set_option maxHeartbeats 4000000 in
set_option maxRecDepth 100000 in
theorem c_X5_powerByTable (l : Launch) (hst : l.stackTraces = false) (E : EE) (sz : Nat) (x a a2 a3 b d k pa y w : Nat → Nat) (g : GG) (B : Nat) (hI : IB B g) (so gw : Nat → Nat) (p0 : Int32) : XI l yX5_powerByTable cX5_powerByTable 2 .int rm_X5_powerByTable [.ref (x 0), .int p0] E sz [coC E x a a2 a3 b d k pa y w, stC E a g, grC E k so gw] (fun (r : Int32) (u : (Nat → Nat) × (Nat → Nat)) => hasM g p0 = true ∧ r = nI (powN g (tn p0))) (fun u => [coC E x a a2 a3 b d k pa y w, stC E a g, grC E k u.1 u.2]) (fun (Ex : String) (_ : Unit) => Ex = IOX ∧ hasM g p0 = false) (fun _ => [coC E x a a2 a3 b d k pa y w, stC E a g, grC E k so gw]) 1 6 := by
  refine xi_go hst (by decide) rfl (Nat.le_of_ble_eq_true rfl) ?_
  intro p e s m below meth c A Q ls hx hb hml hown hts hK hZ hDD hA hsz hP hD hl hret hprop hthr
  have hS : va_S A s.heap s.heap [] := va_S.rf
  have hl : lv_has ls 2 [(0, .ref (x 0)), (1, .int p0)] := hl
  skip
  have hmc := hI.mc
  have hbu := hI.bud
  refine lv_aload_n hx hb dX5_powerByTable_0 rfl (lv_at hl 0 rfl) ?_
  refine lv_iload_n hx hb dX5_powerByTable_1 rfl (lv_at hl 1 rfl) ?_
  refine run_xv (S := Unit) (SX := Unit) (run_XV (As := [.int p0]) (rest := []) (bs := [coC E x a a2 a3 b d k pa y w, stC E a g, grC E k so gw]) (cb := [coC E x a a2 a3 b d k pa y w, stC E a g]) hx hb hml hown hts hK hZ hDD hA (c_X5_needMember l hst E _ x a a2 a3 b d k pa y w g _ hI p0) l_X5_127 rfl ⟨⟨rfl, rfl⟩, Nat.le_of_ble_eq_true rfl, Nat.le_of_ble_eq_true rfl⟩ 9 rfl [0, 1] rfl (by decide) rfl hP hD hS hl.1 rfl (Nat.le_of_ble_eq_true rfl) dX5_powerByTable_2 ⟨Nat.le_of_ble_eq_true rfl, Nat.le_of_ble_eq_true rfl⟩) hA hP hD hS (isC := [0, 1]) rfl [2] [1, 2, 0] (br := [grC E k so gw]) (bs2 := fun _ => [coC E x a a2 a3 b d k pa y w, stC E a g, grC E k so gw]) (bx2 := fun _ => [coC E x a a2 a3 b d k pa y w, stC E a g, grC E k so gw]) rfl (by decide) (fun _ => rfl) (fun _ => rfl) (by decide) (fun Ex ce q3 ux H locs hw hP hD hS hc1 hc2 hc3 => ?_) (fun u H locs hw hP hD hS => ?_)
  · exact hprop _ _ _ () _ _ _ _ _ _ _ hw hP hD hS hc1 hc2 hc3 (by omega) (by omega)
  have hw : hasM g p0 = true := hw
  have hhp0 := hw
  have hmp0 := hasM_t hw
  have htp0 : ((tn p0 : Nat) : Int) = p0.toInt := tn_t (by omega)
  have hbp0 := hI.mem (m := tn p0) (by omega)
  have hl : lv_has ls 2 [(0, .ref (x 0)), (1, .int (nI (tn p0)))] := by rw [tn_n (x := p0) (by omega)]; exact hl
  refine lv_aload_n hx hb dX5_powerByTable_5 rfl (lv_at hl 0 rfl) ?_
  refine va_get (D := E.1) (ci := 9) (v := .ref (k 0)) (C := RX5) (T := TX5) (N := 11) hx hb hts inX5 hown hK hP 0 rfl rfl 5 (by decide) (hts _ q251) (fun _ h9 => h9) rfl dX5_powerByTable_6 ?_
  refine lv_aload_n hx hb dX5_powerByTable_9 rfl (lv_at hl 0 rfl) ?_
  refine va_get (D := E.1) (ci := 9) (v := .ref (a 0)) (C := RX5) (T := TX5) (N := 11) hx hb hts inX5 hown hK hP 0 rfl rfl 0 (by decide) (hts _ q246) (fun _ h9 => h9) rfl dX5_powerByTable_10 ?_
  refine lv_iload_n hx hb dX5_powerByTable_13 rfl (lv_at hl 1 rfl) ?_
  refine run_i (S := (Nat → Nat) × (Nat → Nat)) (run_V (As := [.ref (a 0), .int (nI (tn p0))]) (rest := []) (bs := [coC E x a a2 a3 b d k pa y w, stC E a g, grC E k so gw]) (cb := [grC E k so gw, stC E a g]) hx hb hml hown hts hK hZ hA (c_X1_decisiveByTable l E _ k so gw a g _ hI (tn p0) (by omega)) l_X5_213 rfl ⟨⟨rfl, rfl⟩, Nat.le_of_ble_eq_true rfl, Nat.le_of_ble_eq_true rfl⟩ 5 rfl [2, 1] rfl (by decide) rfl hP hD hS hl.1 rfl (Nat.le_of_ble_eq_true rfl) dX5_powerByTable_14 ⟨Nat.le_of_ble_eq_true rfl, Nat.le_of_ble_eq_true rfl⟩) hA hP hD hS (isC := [2, 1]) rfl [0] [0, 2, 1] (br := [coC E x a a2 a3 b d k pa y w]) (bs2 := fun u => [coC E x a a2 a3 b d k pa y w, stC E a g, grC E k u.1 u.2]) rfl (by decide) (fun _ => rfl) (by decide) (fun r u H locs hw hP hD hS => ?_)
  obtain ⟨so_1, gw_2⟩ := u
  subst hw
  have hP : va_P E.1 vwCl ([coC E x a a2 a3 b d k pa y w, stC E a g, grC E k so_1 gw_2] : List va_W).flatten H := hP
  have hD : va_D A ([coC E x a a2 a3 b d k pa y w, stC E a g, grC E k so_1 gw_2] : List va_W).flatten := hD
  exact hret _ _ (nI (powN g (tn p0))) (so_1, gw_2) _ _ _ _ hP hD hS rfl ⟨hhp0, rfl⟩ dX5_powerByTable_17 (by omega) (by omega)
abbrev rm_X5_winningGroups : Room := { frames := 3, cells := 0, slots := 0, locals := 125 }
set_option maxHeartbeats 4000000 in
set_option maxRecDepth 100000 in
theorem c_X5_winningGroups (l : Launch) (E : EE) (sz : Nat) (x a a2 a3 b d k pa y w : Nat → Nat) (g : GG) (B : Nat) (hI : IB B g) (so gw : Nat → Nat) : MI l yX5_winningGroups cX5_winningGroups 1 .int rm_X5_winningGroups [.ref (x 0)] E sz [coC E x a a2 a3 b d k pa y w, stC E a g, grC E k so gw] (fun (r : Int32) (u : (Nat → Nat) × (Nat → Nat)) => r = nI (winN g)) (fun u => [coC E x a a2 a3 b d k pa y w, stC E a g, grC E k u.1 u.2]) 0 0 := by
  refine mi_go (by decide) (Nat.le_of_ble_eq_true rfl) ?_
  intro p e s m below meth c A Q ls hx hb hml hown hts hK hZ hA hsz hP hD hl hret
  have hS : va_S A s.heap s.heap [] := va_S.rf
  have hl : lv_has ls 1 [(0, .ref (x 0))] := hl
  skip
  have hmc := hI.mc
  have hbu := hI.bud
  refine lv_aload_n hx hb dX5_winningGroups_0 rfl (lv_at hl 0 rfl) ?_
  refine va_get (D := E.1) (ci := 9) (v := .ref (k 0)) (C := RX5) (T := TX5) (N := 11) hx hb hts inX5 hown hK hP 0 rfl rfl 5 (by decide) (hts _ q251) (fun _ h9 => h9) rfl dX5_winningGroups_1 ?_
  refine lv_aload_n hx hb dX5_winningGroups_4 rfl (lv_at hl 0 rfl) ?_
  refine va_get (D := E.1) (ci := 9) (v := .ref (a 0)) (C := RX5) (T := TX5) (N := 11) hx hb hts inX5 hown hK hP 0 rfl rfl 0 (by decide) (hts _ q246) (fun _ h9 => h9) rfl dX5_winningGroups_5 ?_
  refine run_i (S := (Nat → Nat) × (Nat → Nat)) (run_V (As := [.ref (a 0)]) (rest := []) (bs := [coC E x a a2 a3 b d k pa y w, stC E a g, grC E k so gw]) (cb := [grC E k so gw, stC E a g]) hx hb hml hown hts hK hZ hA (c_X1_winningByTrying l E _ k so gw a g _ hI  ) l_X5_204 rfl ⟨⟨rfl, rfl⟩, Nat.le_of_ble_eq_true rfl, Nat.le_of_ble_eq_true rfl⟩ 5 rfl [2, 1] rfl (by decide) rfl hP hD hS hl.1 rfl (Nat.le_of_ble_eq_true rfl) dX5_winningGroups_8 ⟨Nat.zero_le _, Nat.zero_le _⟩) hA hP hD hS (isC := [2, 1]) rfl [0] [0, 2, 1] (br := [coC E x a a2 a3 b d k pa y w]) (bs2 := fun u => [coC E x a a2 a3 b d k pa y w, stC E a g, grC E k u.1 u.2]) rfl (by decide) (fun _ => rfl) (by decide) (fun r u H locs hw hP hD hS => ?_)
  obtain ⟨so_1, gw_2⟩ := u
  subst hw
  have hP : va_P E.1 vwCl ([coC E x a a2 a3 b d k pa y w, stC E a g, grC E k so_1 gw_2] : List va_W).flatten H := hP
  have hD : va_D A ([coC E x a a2 a3 b d k pa y w, stC E a g, grC E k so_1 gw_2] : List va_W).flatten := hD
  exact hret _ _ (nI (winN g)) (so_1, gw_2) _ _ hP hD hS rfl rfl dX5_winningGroups_11
abbrev rm_X5_winningGroupsByTable : Room := { frames := 3, cells := 0, slots := 0, locals := 131 }
set_option maxHeartbeats 4000000 in
set_option maxRecDepth 100000 in
theorem c_X5_winningGroupsByTable (l : Launch) (E : EE) (sz : Nat) (x a a2 a3 b d k pa y w : Nat → Nat) (g : GG) (B : Nat) (hI : IB B g) (so gw : Nat → Nat) : MI l yX5_winningGroupsByTable cX5_winningGroupsByTable 1 .int rm_X5_winningGroupsByTable [.ref (x 0)] E sz [coC E x a a2 a3 b d k pa y w, stC E a g, grC E k so gw] (fun (r : Int32) (u : (Nat → Nat) × (Nat → Nat)) => r = nI (winN g)) (fun u => [coC E x a a2 a3 b d k pa y w, stC E a g, grC E k u.1 u.2]) 0 0 := by
  refine mi_go (by decide) (Nat.le_of_ble_eq_true rfl) ?_
  intro p e s m below meth c A Q ls hx hb hml hown hts hK hZ hA hsz hP hD hl hret
  have hS : va_S A s.heap s.heap [] := va_S.rf
  have hl : lv_has ls 1 [(0, .ref (x 0))] := hl
  skip
  have hmc := hI.mc
  have hbu := hI.bud
  refine lv_aload_n hx hb dX5_winningGroupsByTable_0 rfl (lv_at hl 0 rfl) ?_
  refine va_get (D := E.1) (ci := 9) (v := .ref (k 0)) (C := RX5) (T := TX5) (N := 11) hx hb hts inX5 hown hK hP 0 rfl rfl 5 (by decide) (hts _ q251) (fun _ h9 => h9) rfl dX5_winningGroupsByTable_1 ?_
  refine lv_aload_n hx hb dX5_winningGroupsByTable_4 rfl (lv_at hl 0 rfl) ?_
  refine va_get (D := E.1) (ci := 9) (v := .ref (a 0)) (C := RX5) (T := TX5) (N := 11) hx hb hts inX5 hown hK hP 0 rfl rfl 0 (by decide) (hts _ q246) (fun _ h9 => h9) rfl dX5_winningGroupsByTable_5 ?_
  refine run_i (S := (Nat → Nat) × (Nat → Nat)) (run_V (As := [.ref (a 0)]) (rest := []) (bs := [coC E x a a2 a3 b d k pa y w, stC E a g, grC E k so gw]) (cb := [grC E k so gw, stC E a g]) hx hb hml hown hts hK hZ hA (c_X1_winningByTable l E _ k so gw a g _ hI  ) l_X5_207 rfl ⟨⟨rfl, rfl⟩, Nat.le_of_ble_eq_true rfl, Nat.le_of_ble_eq_true rfl⟩ 5 rfl [2, 1] rfl (by decide) rfl hP hD hS hl.1 rfl (Nat.le_of_ble_eq_true rfl) dX5_winningGroupsByTable_8 ⟨Nat.zero_le _, Nat.zero_le _⟩) hA hP hD hS (isC := [2, 1]) rfl [0] [0, 2, 1] (br := [coC E x a a2 a3 b d k pa y w]) (bs2 := fun u => [coC E x a a2 a3 b d k pa y w, stC E a g, grC E k u.1 u.2]) rfl (by decide) (fun _ => rfl) (by decide) (fun r u H locs hw hP hD hS => ?_)
  obtain ⟨so_1, gw_2⟩ := u
  subst hw
  have hP : va_P E.1 vwCl ([coC E x a a2 a3 b d k pa y w, stC E a g, grC E k so_1 gw_2] : List va_W).flatten H := hP
  have hD : va_D A ([coC E x a a2 a3 b d k pa y w, stC E a g, grC E k so_1 gw_2] : List va_W).flatten := hD
  exact hret _ _ (nI (winN g)) (so_1, gw_2) _ _ hP hD hS rfl rfl dX5_winningGroupsByTable_11
abbrev rm_X5_smallestMajority : Room := { frames := 6, cells := 1, slots := 6, locals := 125 }
set_option maxHeartbeats 4000000 in
set_option maxRecDepth 100000 in
theorem c_X5_smallestMajority (l : Launch) (hst : l.stackTraces = false) (E : EE) (sz : Nat) (x a a2 a3 b d k pa y w : Nat → Nat) (g : GG) (B : Nat) (hI : IB B g) (so gw : Nat → Nat) : XI l yX5_smallestMajority cX5_smallestMajority 1 .int rm_X5_smallestMajority [.ref (x 0)] E sz [coC E x a a2 a3 b d k pa y w, stC E a g, grC E k so gw] (fun (r : Int32) (u : (Nat → Nat) × (Nat → Nat)) => g 8 0 ≠ 0 ∧ r = nI (few8 g (2 ^ g 8 0))) (fun u => [coC E x a a2 a3 b d k pa y w, stC E a g, grC E k u.1 u.2]) (fun (Ex : String) (_ : Unit) => Ex = NSE ∧ g 8 0 = 0) (fun _ => [coC E x a a2 a3 b d k pa y w, stC E a g, grC E k so gw]) 1 6 := by
  refine xi_go hst (by decide) rfl (Nat.le_of_ble_eq_true rfl) ?_
  intro p e s m below meth c A Q ls hx hb hml hown hts hK hZ hDD hA hsz hP hD hl hret hprop hthr
  have hS : va_S A s.heap s.heap [] := va_S.rf
  have hl : lv_has ls 1 [(0, .ref (x 0))] := hl
  skip
  have hmc := hI.mc
  have hbu := hI.bud
  refine lv_aload_n hx hb dX5_smallestMajority_0 rfl (lv_at hl 0 rfl) ?_
  refine va_get (D := E.1) (ci := 9) (v := .ref (a 0)) (C := RX5) (T := TX5) (N := 11) hx hb hts inX5 hown hK hP 0 rfl rfl 0 (by decide) (hts _ q246) (fun _ h9 => h9) rfl dX5_smallestMajority_1 ?_
  refine va_get (D := E.1) (ci := 8) (v := .int (nI (g 8 0))) (C := RX4) (T := TX4) (N := 16) hx hb hts inX4 hown hK hP 1 rfl rfl 8 (by decide) (hts _ q88) (fun _ h9 => h9) rfl dX5_smallestMajority_4 ?_
  refine nv_if_ne (X := ((g 8 0 : Nat) : Int)) hx hb (nI_toInt (by omega)) (tgt := 20) dX5_smallestMajority_7 (by decide) (fun c_1 => ?_) (fun c_1 => ?_)
  · skip
    refine lv_aload_n hx hb dX5_smallestMajority_20 rfl (lv_at hl 0 rfl) ?_
    refine va_get (D := E.1) (ci := 9) (v := .ref (k 0)) (C := RX5) (T := TX5) (N := 11) hx hb hts inX5 hown hK hP 0 rfl rfl 5 (by decide) (hts _ q251) (fun _ h9 => h9) rfl dX5_smallestMajority_21 ?_
    refine lv_aload_n hx hb dX5_smallestMajority_24 rfl (lv_at hl 0 rfl) ?_
    refine va_get (D := E.1) (ci := 9) (v := .ref (a 0)) (C := RX5) (T := TX5) (N := 11) hx hb hts inX5 hown hK hP 0 rfl rfl 0 (by decide) (hts _ q246) (fun _ h9 => h9) rfl dX5_smallestMajority_25 ?_
    refine run_i (S := (Nat → Nat) × (Nat → Nat)) (run_V (As := [.ref (a 0)]) (rest := []) (bs := [coC E x a a2 a3 b d k pa y w, stC E a g, grC E k so gw]) (cb := [grC E k so gw, stC E a g]) hx hb hml hown hts hK hZ hA (c_X1_fewestThatWin l E _ k so gw a g _ hI  ) l_X5_218 rfl ⟨⟨rfl, rfl⟩, Nat.le_of_ble_eq_true rfl, Nat.le_of_ble_eq_true rfl⟩ 5 rfl [2, 1] rfl (by decide) rfl hP hD hS hl.1 rfl (Nat.le_of_ble_eq_true rfl) dX5_smallestMajority_28 ⟨Nat.zero_le _, Nat.zero_le _⟩) hA hP hD hS (isC := [2, 1]) rfl [0] [0, 2, 1] (br := [coC E x a a2 a3 b d k pa y w]) (bs2 := fun u => [coC E x a a2 a3 b d k pa y w, stC E a g, grC E k u.1 u.2]) rfl (by decide) (fun _ => rfl) (by decide) (fun r u H locs hw hP hD hS => ?_)
    obtain ⟨so_2, gw_3⟩ := u
    subst hw
    have hP : va_P E.1 vwCl ([coC E x a a2 a3 b d k pa y w, stC E a g, grC E k so_2 gw_3] : List va_W).flatten H := hP
    have hD : va_D A ([coC E x a a2 a3 b d k pa y w, stC E a g, grC E k so_2 gw_3] : List va_W).flatten := hD
    exact hret _ _ (nI (few g (2 ^ g 8 0))) (so_2, gw_3) _ _ _ _ hP hD hS rfl ⟨by omega, by rw [few_eq hI (by omega)]⟩ dX5_smallestMajority_31 (by omega) (by omega)
  · skip
    exact hthr (NSE, 152, 156) 8 ("CricketCooperative", 216, "no members") () _ _ 10 _ [] _ _ mx_NSE rfl rfl ⟨rfl, by omega⟩ hP hD hS hl.1 dX5_smallestMajority_10 dX5_smallestMajority_13 (Or.inl ⟨dX5_smallestMajority_14, dX5_smallestMajority_16, dX5_smallestMajority_19⟩) (Nat.le_of_ble_eq_true rfl) (Nat.le_of_ble_eq_true rfl) (Nat.le_of_ble_eq_true rfl) (Nat.le_of_ble_eq_true rfl) (Nat.le_of_ble_eq_true rfl) (Nat.le_of_ble_eq_true rfl)
abbrev rm_X5_memberAtRank : Room := { frames := 6, cells := 1, slots := 6, locals := 100 }
set_option maxHeartbeats 4000000 in
set_option maxRecDepth 100000 in
theorem c_X5_memberAtRank (l : Launch) (hst : l.stackTraces = false) (E : EE) (sz : Nat) (x a a2 a3 b d k pa y w : Nat → Nat) (g : GG) (B : Nat) (hI : IB B g) (p0 : Int32) : XI l yX5_memberAtRank cX5_memberAtRank 3 .int rm_X5_memberAtRank [.ref (x 0), .int p0] E sz [coC E x a a2 a3 b d k pa y w, stC E a g] (fun (r : Int32) (_ : Unit) => fst1 (fun a => decide ((mAh g a : Int) = p0.toInt)) (g 8 0) < g 8 0 ∧ r = nI (fst1 (fun a => decide ((mAh g a : Int) = p0.toInt)) (g 8 0))) (fun _ => [coC E x a a2 a3 b d k pa y w, stC E a g]) (fun (Ex : String) (_ : Unit) => Ex = NSE ∧ ¬ fst1 (fun a => decide ((mAh g a : Int) = p0.toInt)) (g 8 0) < g 8 0) (fun _ => [coC E x a a2 a3 b d k pa y w, stC E a g]) 1 6 := by
  refine xi_go hst (by decide) rfl (Nat.le_of_ble_eq_true rfl) ?_
  intro p e s m below meth c A Q ls hx hb hml hown hts hK hZ hDD hA hsz hP hD hl hret hprop hthr
  have hS : va_S A s.heap s.heap [] := va_S.rf
  have hl : lv_has ls 3 [(0, .ref (x 0)), (1, .int p0)] := hl
  skip
  have hmc := hI.mc
  have hbu := hI.bud
  refine lv_iconst (v := nI 0) hx hb dX5_memberAtRank_0 (by decide) ?_
  refine lv_istore_n (lv' := [(2, .int (nI 0)), (0, .ref (x 0)), (1, .int p0)]) hx hb dX5_memberAtRank_1 rfl hl (by decide) rfl (fun ls hl => ?_)
  have loop2 : ∀ (n : Nat) (i : Nat), (i ≤ g 8 0) → (∀ j, j < i → decide ((mAh g j : Int) = p0.toInt) = false) → g 8 0 - i < n → ∀ (H : Heap) (locs : List Loc) (ls : Array Slot), va_P E.1 vwCl ([coC E x a a2 a3 b d k pa y w, stC E a g] : List va_W).flatten H → va_D A ([coC E x a a2 a3 b d k pa y w, stC E a g] : List va_W).flatten → va_S A s.heap H locs → lv_has ls 3 [(0, .ref (x 0)), (1, .int p0), (2, .int (nI i))] → W p l e rm_X5_memberAtRank s m ([.ref (x 0), .int p0] : List Value).toArray below meth c H locs 0 0 Q (F0 m 2 ls []) := by
    intro n2
    induction n2 with
    | zero => intro i hi hno hn2; exact absurd hn2 (Nat.not_lt_zero _)
    | succ n2 ih2 =>
      intro i hi hno hn2 H locs ls hP hD hS hl
      refine lv_iload_n hx hb dX5_memberAtRank_2 rfl (lv_at hl 2 rfl) ?_
      refine lv_aload_n hx hb dX5_memberAtRank_3 rfl (lv_at hl 0 rfl) ?_
      refine va_get (D := E.1) (ci := 9) (v := .ref (a 0)) (C := RX5) (T := TX5) (N := 11) hx hb hts inX5 hown hK hP 0 rfl rfl 0 (by decide) (hts _ q246) (fun _ h9 => h9) rfl dX5_memberAtRank_4 ?_
      refine va_get (D := E.1) (ci := 8) (v := .int (nI (g 8 0))) (C := RX4) (T := TX4) (N := 16) hx hb hts inX4 hown hK hP 1 rfl rfl 8 (by decide) (hts _ q88) (fun _ h9 => h9) rfl dX5_memberAtRank_7 ?_
      refine nv_icmp_ge (X := ((i : Nat) : Int)) (Y := ((g 8 0 : Nat) : Int)) hx hb (nI_toInt (by omega)) (nI_toInt (by omega)) (tgt := 33) dX5_memberAtRank_10 (by decide) (fun c_1 => ?_) (fun c_1 => ?_)
      · skip
        have hfs : fst1 (fun a => decide ((mAh g a : Int) = p0.toInt)) (g 8 0) = g 8 0 := fst1_none (p := fun a => decide ((mAh g a : Int) = p0.toInt)) (fun j hj => hno j (by omega))
        exact hthr (NSE, 152, 156) 4 ("CricketCooperative", 154, "no such rank") () _ _ 33 _ [] _ _ mx_NSE rfl rfl ⟨rfl, by rw [hfs]; omega⟩ hP hD hS hl.1 dX5_memberAtRank_33 dX5_memberAtRank_36 (Or.inl ⟨dX5_memberAtRank_37, dX5_memberAtRank_39, dX5_memberAtRank_42⟩) (Nat.le_of_ble_eq_true rfl) (Nat.le_of_ble_eq_true rfl) (Nat.le_of_ble_eq_true rfl) (Nat.le_of_ble_eq_true rfl) (Nat.le_of_ble_eq_true rfl) (Nat.le_of_ble_eq_true rfl)
      · skip
        have hah : mAh g i ≤ 1 * g 8 0 := mAh_le
        refine lv_aload_n hx hb dX5_memberAtRank_13 rfl (lv_at hl 0 rfl) ?_
        refine va_get (D := E.1) (ci := 9) (v := .ref (a 0)) (C := RX5) (T := TX5) (N := 11) hx hb hts inX5 hown hK hP 0 rfl rfl 0 (by decide) (hts _ q246) (fun _ h9 => h9) rfl dX5_memberAtRank_14 ?_
        refine lv_iload_n hx hb dX5_memberAtRank_17 rfl (lv_at hl 2 rfl) ?_
        refine run_i (S := Unit) (run_V (As := [.int (nI i)]) (rest := []) (bs := [coC E x a a2 a3 b d k pa y w, stC E a g]) (cb := [stC E a g]) hx hb hml hown hts hK hZ hA (c_X4_membersAhead l E _ a g _ hI i (by omega)) l_X5_149 rfl ⟨⟨rfl, rfl⟩, Nat.le_of_ble_eq_true rfl, Nat.le_of_ble_eq_true rfl⟩ 8 rfl [1] rfl (by decide) rfl hP hD hS hl.1 rfl (Nat.le_of_ble_eq_true rfl) dX5_memberAtRank_18 ⟨Nat.zero_le _, Nat.zero_le _⟩) hA hP hD hS (isC := [1]) rfl [0] [0, 1] (br := [coC E x a a2 a3 b d k pa y w]) (bs2 := fun _ => [coC E x a a2 a3 b d k pa y w, stC E a g]) rfl (by decide) (fun _ => rfl) (by decide) (fun r u H locs hw hP hD hS => ?_)
        subst hw
        refine lv_iload_n hx hb dX5_memberAtRank_21 rfl (lv_at hl 1 rfl) ?_
        refine nv_icmp_ne (X := ((mAh g i : Nat) : Int)) (Y := p0.toInt) hx hb (nI_toInt (by omega)) rfl (tgt := 27) dX5_memberAtRank_22 (by decide) (fun c_2 => ?_) (fun c_2 => ?_)
        · skip
          have hne9 : ¬ ((mAh g i : Nat) : Int) = p0.toInt := c_2
          refine lv_iinc (v := nI (i + 1)) (lv' := [(2, .int (nI (i + 1))), (0, .ref (x 0)), (1, .int p0)]) hx hb dX5_memberAtRank_27 hl (k := 2) rfl (nI_add i 1) (by decide) rfl (fun ls hl => ?_)
          refine lv_goto (tgt := 2) hx hb dX5_memberAtRank_30 (by decide) ?_
          exact ih2 (i + 1) (by omega) (fun j hj => by rcases Nat.lt_or_ge j i with q3 | q3; exact hno j q3; rw [show j = i by omega]; exact decide_eq_false hne9) (by omega) _ _ _ hP hD hS (lv_sub hl [1, 2, 0] rfl)
        · skip
          have heq9 : ((mAh g i : Nat) : Int) = p0.toInt := c_2
          have hfs : fst1 (fun a => decide ((mAh g a : Int) = p0.toInt)) (g 8 0) = i := fst1_at (p := fun a => decide ((mAh g a : Int) = p0.toInt)) (decide_eq_true heq9) hno (by omega)
          refine lv_iload_n hx hb dX5_memberAtRank_25 rfl (lv_at hl 2 rfl) ?_
          exact hret _ _ (nI i) () _ _ _ _ hP hD hS rfl ⟨by rw [hfs]; omega, by rw [hfs]⟩ dX5_memberAtRank_26 (by omega) (by omega)
  exact loop2 _ 0 (by omega) (fun j hj => absurd hj (Nat.not_lt_zero _)) (Nat.lt_succ_self _) _ _ _ hP hD hS (lv_sub hl [1, 2, 0] rfl)
abbrev rm_X5_beatsUntilChorus : Room := { frames := 6, cells := 1, slots := 6, locals := 100 }
set_option maxHeartbeats 4000000 in
set_option maxRecDepth 100000 in
theorem c_X5_beatsUntilChorus (l : Launch) (hst : l.stackTraces = false) (E : EE) (sz : Nat) (x a a2 a3 b d k pa y w : Nat → Nat) (g : GG) (B : Nat) (hI : IB B g)  : XI l yX5_beatsUntilChorus cX5_beatsUntilChorus 2 .int rm_X5_beatsUntilChorus [.ref (x 0)] E sz [coC E x a a2 a3 b d k pa y w, stC E a g] (fun (r : Int32) (_ : Unit) => fsC g < 60 ∧ r = nI (fsC g + 1)) (fun _ => [coC E x a a2 a3 b d k pa y w, stC E a g]) (fun (Ex : String) (_ : Unit) => Ex = NSE ∧ ¬ fsC g < 60) (fun _ => [coC E x a a2 a3 b d k pa y w, stC E a g]) 1 6 := by
  refine xi_go hst (by decide) rfl (Nat.le_of_ble_eq_true rfl) ?_
  intro p e s m below meth c A Q ls hx hb hml hown hts hK hZ hDD hA hsz hP hD hl hret hprop hthr
  have hS : va_S A s.heap s.heap [] := va_S.rf
  have hl : lv_has ls 2 [(0, .ref (x 0))] := hl
  skip
  have hmc := hI.mc
  have hbu := hI.bud
  refine lv_iconst (v := nI 1) hx hb dX5_beatsUntilChorus_0 (by decide) ?_
  refine lv_istore_n (lv' := [(1, .int (nI 1)), (0, .ref (x 0))]) hx hb dX5_beatsUntilChorus_1 rfl hl (by decide) rfl (fun ls hl => ?_)
  have loop2 : ∀ (n : Nat) (i : Nat), (i ≤ 60) → (∀ j, j < i → chor g (g 8 1 + (j + 1)) = false) → 60 - i < n → ∀ (H : Heap) (locs : List Loc) (ls : Array Slot), va_P E.1 vwCl ([coC E x a a2 a3 b d k pa y w, stC E a g] : List va_W).flatten H → va_D A ([coC E x a a2 a3 b d k pa y w, stC E a g] : List va_W).flatten → va_S A s.heap H locs → lv_has ls 2 [(0, .ref (x 0)), (1, .int (nI (i + 1)))] → W p l e rm_X5_beatsUntilChorus s m ([.ref (x 0)] : List Value).toArray below meth c H locs 0 0 Q (F0 m 2 ls []) := by
    intro n2
    induction n2 with
    | zero => intro i hi hno hn2; exact absurd hn2 (Nat.not_lt_zero _)
    | succ n2 ih2 =>
      intro i hi hno hn2 H locs ls hP hD hS hl
      refine lv_iload_n hx hb dX5_beatsUntilChorus_2 rfl (lv_at hl 1 rfl) ?_
      refine lv_bipush (v := nI 60) hx hb dX5_beatsUntilChorus_3 (by decide) ?_
      refine nv_icmp_gt (X := ((i + 1 : Nat) : Int)) (Y := ((60 : Nat) : Int)) hx hb (nI_toInt (by omega)) (nI_toInt (by omega)) (tgt := 35) dX5_beatsUntilChorus_5 (by decide) (fun c_1 => ?_) (fun c_1 => ?_)
      · skip
        have hfs : fsC g = 60 := fsC_none (fun j hj => hno j (by omega))
        exact hthr (NSE, 152, 156) 5 ("CricketCooperative", 179, "no chorus") () _ _ 35 _ [] _ _ mx_NSE rfl rfl ⟨rfl, by rw [hfs]; omega⟩ hP hD hS hl.1 dX5_beatsUntilChorus_35 dX5_beatsUntilChorus_38 (Or.inl ⟨dX5_beatsUntilChorus_39, dX5_beatsUntilChorus_41, dX5_beatsUntilChorus_44⟩) (Nat.le_of_ble_eq_true rfl) (Nat.le_of_ble_eq_true rfl) (Nat.le_of_ble_eq_true rfl) (Nat.le_of_ble_eq_true rfl) (Nat.le_of_ble_eq_true rfl) (Nat.le_of_ble_eq_true rfl)
      · skip
        refine lv_aload_n hx hb dX5_beatsUntilChorus_8 rfl (lv_at hl 0 rfl) ?_
        refine va_get (D := E.1) (ci := 9) (v := .ref (a 0)) (C := RX5) (T := TX5) (N := 11) hx hb hts inX5 hown hK hP 0 rfl rfl 0 (by decide) (hts _ q246) (fun _ h9 => h9) rfl dX5_beatsUntilChorus_9 ?_
        refine lv_aload_n hx hb dX5_beatsUntilChorus_12 rfl (lv_at hl 0 rfl) ?_
        refine va_get (D := E.1) (ci := 9) (v := .ref (a 0)) (C := RX5) (T := TX5) (N := 11) hx hb hts inX5 hown hK hP 0 rfl rfl 0 (by decide) (hts _ q246) (fun _ h9 => h9) rfl dX5_beatsUntilChorus_13 ?_
        refine va_get (D := E.1) (ci := 8) (v := .int (nI (g 8 1))) (C := RX4) (T := TX4) (N := 16) hx hb hts inX4 hown hK hP 1 rfl rfl 10 (by decide) (hts _ q92) (fun _ h9 => h9) rfl dX5_beatsUntilChorus_16 ?_
        refine lv_iload_n hx hb dX5_beatsUntilChorus_19 rfl (lv_at hl 1 rfl) ?_
        refine nv_iadd hx hb dX5_beatsUntilChorus_20 ?_
        refine run_i (S := Unit) (run_V (As := [.int (nI (g 8 1 + (i + 1)))]) (rest := []) (bs := [coC E x a a2 a3 b d k pa y w, stC E a g]) (cb := [stC E a g]) hx hb hml hown hts hK hZ hA (c_X4_isChorus l E _ a g _ hI (g 8 1 + (i + 1)) (by omega)) l_X5_175 rfl ⟨⟨rfl, rfl⟩, Nat.le_of_ble_eq_true rfl, Nat.le_of_ble_eq_true rfl⟩ 8 rfl [1] rfl (by decide) rfl hP hD hS hl.1 rfl (Nat.le_of_ble_eq_true rfl) dX5_beatsUntilChorus_21 ⟨Nat.zero_le _, Nat.zero_le _⟩) hA hP hD hS (isC := [1]) rfl [0] [0, 1] (br := [coC E x a a2 a3 b d k pa y w]) (bs2 := fun _ => [coC E x a a2 a3 b d k pa y w, stC E a g]) rfl (by decide) (fun _ => rfl) (by decide) (fun r u H locs hw hP hD hS => ?_)
        subst hw
        refine bv_if_eq hx hb (tgt := 29) dX5_beatsUntilChorus_24 (by decide) (fun c_2 => ?_) (fun c_2 => ?_)
        · skip
          have hne9 : chor g (g 8 1 + (i + 1)) = false := c_2
          refine lv_iinc (v := nI (i + 1 + 1)) (lv' := [(1, .int (nI (i + 1 + 1))), (0, .ref (x 0))]) hx hb dX5_beatsUntilChorus_29 hl (k := 1) rfl (nI_add (i + 1) 1) (by decide) rfl (fun ls hl => ?_)
          refine lv_goto (tgt := 2) hx hb dX5_beatsUntilChorus_32 (by decide) ?_
          exact ih2 (i + 1) (by omega) (fun j hj => by rcases Nat.lt_or_ge j i with q3 | q3; exact hno j q3; rw [show j = i by omega]; exact hne9) (by omega) _ _ _ hP hD hS (lv_sub hl [1, 0] rfl)
        · skip
          have heq9 : chor g (g 8 1 + (i + 1)) = true := c_2
          have hfs : fsC g = i := fsC_at heq9 hno (by omega)
          refine lv_iload_n hx hb dX5_beatsUntilChorus_27 rfl (lv_at hl 1 rfl) ?_
          exact hret _ _ (nI (i + 1)) () _ _ _ _ hP hD hS rfl ⟨by rw [hfs]; omega, by rw [hfs]⟩ dX5_beatsUntilChorus_28 (by omega) (by omega)
  exact loop2 _ 0 (by omega) (fun j hj => absurd hj (Nat.not_lt_zero _)) (Nat.lt_succ_self _) _ _ _ hP hD hS (lv_sub hl [1, 0] rfl)
abbrev rm_X5_earningsIn : Room := { frames := 6, cells := 1, slots := 6, locals := 141 }
set_option maxHeartbeats 4000000 in
set_option maxRecDepth 100000 in
theorem c_X5_earningsIn (l : Launch) (hst : l.stackTraces = false) (E : EE) (sz : Nat) (x a a2 a3 b d k pa y w : Nat → Nat) (g : GG) (B : Nat) (hI : IB B g) (g3 : GG) (hB : B + 60 ≤ 300000) (p0 : Int32) : XI l yX5_earningsIn cX5_earningsIn 2 .int rm_X5_earningsIn [.ref (x 0), .int p0] E sz [coC E x a a2 a3 b d k pa y w, stC E a g, stC E a3 g3] (fun (r : Int32) (u : GG) => (0 ≤ p0.toInt ∧ p0.toInt ≤ 60) ∧ r = nI (passN g (tn p0))) (fun u => [coC E x a a2 a3 b d k pa y w, stC E a g, stC E a3 u]) (fun (Ex : String) (_ : Unit) => Ex = IAX ∧ ¬ (0 ≤ p0.toInt ∧ p0.toInt ≤ 60)) (fun _ => [coC E x a a2 a3 b d k pa y w, stC E a g, stC E a3 g3]) 1 6 := by
  refine xi_go hst (by decide) rfl (Nat.le_of_ble_eq_true rfl) ?_
  intro p e s m below meth c A Q ls hx hb hml hown hts hK hZ hDD hA hsz hP hD hl hret hprop hthr
  have hS : va_S A s.heap s.heap [] := va_S.rf
  have hl : lv_has ls 2 [(0, .ref (x 0)), (1, .int p0)] := hl
  skip
  have hmc := hI.mc
  have hbu := hI.bud
  refine lv_iload_n hx hb dX5_earningsIn_0 rfl (lv_at hl 1 rfl) ?_
  refine nv_if_lt (X := p0.toInt) hx hb rfl (tgt := 10) dX5_earningsIn_1 (by decide) (fun c_1 => ?_) (fun c_1 => ?_)
  · skip
    exact hthr (IAX, 181, 185) 6 ("CricketCooperative", 183, "beats out of range") () _ _ 10 _ [] _ _ mx_IAX rfl rfl ⟨rfl, by omega⟩ hP hD hS hl.1 dX5_earningsIn_10 dX5_earningsIn_13 (Or.inl ⟨dX5_earningsIn_14, dX5_earningsIn_16, dX5_earningsIn_19⟩) (Nat.le_of_ble_eq_true rfl) (Nat.le_of_ble_eq_true rfl) (Nat.le_of_ble_eq_true rfl) (Nat.le_of_ble_eq_true rfl) (Nat.le_of_ble_eq_true rfl) (Nat.le_of_ble_eq_true rfl)
  · skip
    refine lv_iload_n hx hb dX5_earningsIn_4 rfl (lv_at hl 1 rfl) ?_
    refine lv_bipush (v := nI 60) hx hb dX5_earningsIn_5 (by decide) ?_
    refine nv_icmp_le (X := p0.toInt) (Y := ((60 : Nat) : Int)) hx hb rfl (nI_toInt (by omega)) (tgt := 20) dX5_earningsIn_7 (by decide) (fun c_2 => ?_) (fun c_2 => ?_)
    · skip
      have ht0 : ((tn p0 : Nat) : Int) = p0.toInt := tn_t (by omega)
      have hl : lv_has ls 2 [(0, .ref (x 0)), (1, .int (nI (tn p0)))] := by rw [tn_n (x := p0) (by omega)]; exact hl
      refine lv_aload_n hx hb dX5_earningsIn_20 rfl (lv_at hl 0 rfl) ?_
      refine va_get (D := E.1) (ci := 9) (v := .ref (a3 0)) (C := RX5) (T := TX5) (N := 11) hx hb hts inX5 hown hK hP 0 rfl rfl 2 (by decide) (hts _ q248) (fun _ h9 => h9) rfl dX5_earningsIn_21 ?_
      refine lv_aload_n hx hb dX5_earningsIn_24 rfl (lv_at hl 0 rfl) ?_
      refine va_get (D := E.1) (ci := 9) (v := .ref (a 0)) (C := RX5) (T := TX5) (N := 11) hx hb hts inX5 hown hK hP 0 rfl rfl 0 (by decide) (hts _ q246) (fun _ h9 => h9) rfl dX5_earningsIn_25 ?_
      refine run_v (S := Unit) (run_V (As := [.ref (a 0)]) (rest := []) (bs := [coC E x a a2 a3 b d k pa y w, stC E a g, stC E a3 g3]) (cb := [stC E a3 g3, stC E a g]) hx hb hml hown hts hK hZ hA (c_X4_copyFrom l E _ a3 g3 a g) l_X5_186 rfl ⟨⟨rfl, rfl⟩, Nat.le_of_ble_eq_true rfl, Nat.le_of_ble_eq_true rfl⟩ 8 rfl [2, 1] rfl (by decide) rfl hP hD hS hl.1 rfl (Nat.le_of_ble_eq_true rfl) dX5_earningsIn_28 ⟨Nat.zero_le _, Nat.zero_le _⟩) hA hP hD hS (isC := [2, 1]) rfl [0] [0, 2, 1] (br := [coC E x a a2 a3 b d k pa y w]) (bs2 := fun _ => [coC E x a a2 a3 b d k pa y w, stC E a g, stC E a3 g]) rfl (by decide) (fun _ => rfl) (by decide) (fun u H locs hw hP hD hS => ?_)
      refine lv_aload_n hx hb dX5_earningsIn_31 rfl (lv_at hl 0 rfl) ?_
      refine va_get (D := E.1) (ci := 9) (v := .ref (a3 0)) (C := RX5) (T := TX5) (N := 11) hx hb hts inX5 hown hK hP 0 rfl rfl 2 (by decide) (hts _ q248) (fun _ h9 => h9) rfl dX5_earningsIn_32 ?_
      refine lv_iload_n hx hb dX5_earningsIn_35 rfl (lv_at hl 1 rfl) ?_
      refine run_i (S := Unit) (run_V (As := [.int (nI (tn p0))]) (rest := []) (bs := [coC E x a a2 a3 b d k pa y w, stC E a g, stC E a3 g]) (cb := [stC E a3 g]) hx hb hml hown hts hK hZ hA (c_X4_letPass l E _ a3 g _ hI (tn p0) (by omega) (by omega)) l_X5_106 rfl ⟨⟨rfl, rfl⟩, Nat.le_of_ble_eq_true rfl, Nat.le_of_ble_eq_true rfl⟩ 8 rfl [2] rfl (by decide) rfl hP hD hS hl.1 rfl (Nat.le_of_ble_eq_true rfl) dX5_earningsIn_36 ⟨Nat.zero_le _, Nat.zero_le _⟩) hA hP hD hS (isC := [2]) rfl [0, 1] [0, 1, 2] (br := [coC E x a a2 a3 b d k pa y w, stC E a g]) (bs2 := fun _ => [coC E x a a2 a3 b d k pa y w, stC E a g, stC E a3 (passG g (tn p0))]) rfl (by decide) (fun _ => rfl) (by decide) (fun r u H locs hw hP hD hS => ?_)
      subst hw
      exact hret _ _ (nI (passG g (tn p0) 8 2 - g 8 2)) (passG g (tn p0)) _ _ _ _ hP hD hS rfl ⟨⟨by omega, by omega⟩, rfl⟩ dX5_earningsIn_39 (by omega) (by omega)
    · skip
      exact hthr (IAX, 181, 185) 6 ("CricketCooperative", 183, "beats out of range") () _ _ 10 _ [] _ _ mx_IAX rfl rfl ⟨rfl, by omega⟩ hP hD hS hl.1 dX5_earningsIn_10 dX5_earningsIn_13 (Or.inl ⟨dX5_earningsIn_14, dX5_earningsIn_16, dX5_earningsIn_19⟩) (Nat.le_of_ble_eq_true rfl) (Nat.le_of_ble_eq_true rfl) (Nat.le_of_ble_eq_true rfl) (Nat.le_of_ble_eq_true rfl) (Nat.le_of_ble_eq_true rfl) (Nat.le_of_ble_eq_true rfl)
abbrev rm_X5_sharesInFavour : Room := { frames := 7, cells := 1, slots := 6, locals := 120 }
set_option maxHeartbeats 4000000 in
set_option maxRecDepth 100000 in
theorem c_X5_sharesInFavour (l : Launch) (hst : l.stackTraces = false) (E : EE) (sz : Nat) (x a a2 a3 b d k pa y w : Nat → Nat) (g : GG) (B : Nat) (hI : IB B g) (p0 p1 : Int32) : XI l yX5_sharesInFavour cX5_sharesInFavour 3 .int rm_X5_sharesInFavour [.ref (x 0), .int p0, .int p1] E sz [coC E x a a2 a3 b d k pa y w, stC E a g] (fun (r : Int32) (_ : Unit) => fMot p0 p1 = 0 ∧ r = nI (favN g (tn p0) (tn p1))) (fun _ => [coC E x a a2 a3 b d k pa y w, stC E a g]) (fun (Ex : String) (_ : Unit) => fMot p0 p1 ≠ 0 ∧ Ex = flX (fMot p0 p1)) (fun _ => [coC E x a a2 a3 b d k pa y w, stC E a g]) 1 6 := by
  refine xi_go hst (by decide) rfl (Nat.le_of_ble_eq_true rfl) ?_
  intro p e s m below meth c A Q ls hx hb hml hown hts hK hZ hDD hA hsz hP hD hl hret hprop hthr
  have hS : va_S A s.heap s.heap [] := va_S.rf
  have hl : lv_has ls 3 [(0, .ref (x 0)), (1, .int p0), (2, .int p1)] := hl
  skip
  have hmc := hI.mc
  have hbu := hI.bud
  refine lv_aload_n hx hb dX5_sharesInFavour_0 rfl (lv_at hl 0 rfl) ?_
  refine va_get (D := E.1) (ci := 9) (v := .ref (a 0)) (C := RX5) (T := TX5) (N := 11) hx hb hts inX5 hown hK hP 0 rfl rfl 0 (by decide) (hts _ q246) (fun _ h9 => h9) rfl dX5_sharesInFavour_1 ?_
  refine lv_iload_n hx hb dX5_sharesInFavour_4 rfl (lv_at hl 1 rfl) ?_
  refine lv_iload_n hx hb dX5_sharesInFavour_5 rfl (lv_at hl 2 rfl) ?_
  refine run_i (S := Unit) (run_V (As := [.int p0, .int p1]) (rest := []) (bs := [coC E x a a2 a3 b d k pa y w, stC E a g]) (cb := [stC E a g]) hx hb hml hown hts hK hZ hA (c_X4_faultOfMotion l E _ a g p0 p1 ) l_X5_117 rfl ⟨⟨rfl, rfl⟩, Nat.le_of_ble_eq_true rfl, Nat.le_of_ble_eq_true rfl⟩ 8 rfl [1] rfl (by decide) rfl hP hD hS hl.1 rfl (Nat.le_of_ble_eq_true rfl) dX5_sharesInFavour_6 ⟨Nat.zero_le _, Nat.zero_le _⟩) hA hP hD hS (isC := [1]) rfl [0] [0, 1] (br := [coC E x a a2 a3 b d k pa y w]) (bs2 := fun _ => [coC E x a a2 a3 b d k pa y w, stC E a g]) rfl (by decide) (fun _ => rfl) (by decide) (fun r u H locs hw hP hD hS => ?_)
  subst hw
  refine run_xv (S := Unit) (SX := Unit) (run_XS (As := [.int (nI (fMot p0 p1))]) (rest := []) (bs := [coC E x a a2 a3 b d k pa y w, stC E a g]) (cb := []) hx hb hml hown hts hK hZ hDD hA (c_X5_refuse l hst E _ (fMot p0 p1) (f_4 (g := g) (p0 := p0) (p1 := p1) (p2 := p1) (p3 := p1)).2.2.2.2.2.1) l_X5_72 rfl ⟨⟨rfl, rfl⟩, Nat.le_of_ble_eq_true rfl, Nat.le_of_ble_eq_true rfl⟩ [] rfl (by decide) hP hD hS hl.1 rfl (Nat.le_of_ble_eq_true rfl) dX5_sharesInFavour_9 ⟨Nat.le_of_ble_eq_true rfl, Nat.le_of_ble_eq_true rfl⟩) hA hP hD hS (isC := []) rfl [0, 1] [0, 1] (br := [coC E x a a2 a3 b d k pa y w, stC E a g]) (bs2 := fun _ => [coC E x a a2 a3 b d k pa y w, stC E a g]) (bx2 := fun _ => [coC E x a a2 a3 b d k pa y w, stC E a g]) rfl (by decide) (fun _ => rfl) (fun _ => rfl) (by decide) (fun Ex ce q3 ux H locs hw hP hD hS hc1 hc2 hc3 => ?_) (fun u H locs hw hP hD hS => ?_)
  · exact hprop _ _ _ () _ _ _ _ _ _ _ hw hP hD hS hc1 hc2 hc3 (by omega) (by omega)
  have hw : (fMot p0 p1) = 0 := hw
  have hf9 : fMot p0 p1 = 0 := hw
  obtain ⟨⟨j1, j2⟩, ⟨j3, j4⟩⟩ := fMot_0 hw
  have ht0 : ((tn p0 : Nat) : Int) = p0.toInt := tn_t (by omega)
  have ht1 : ((tn p1 : Nat) : Int) = p1.toInt := tn_t (by omega)
  have hl : lv_has ls 3 [(0, .ref (x 0)), (1, .int (nI (tn p0))), (2, .int p1)] := by rw [tn_n (x := p0) (by omega)]; exact hl
  have hl : lv_has ls 3 [(0, .ref (x 0)), (1, .int (nI (tn p0))), (2, .int (nI (tn p1)))] := by rw [tn_n (x := p1) (by omega)]; exact hl
  refine lv_aload_n hx hb dX5_sharesInFavour_12 rfl (lv_at hl 0 rfl) ?_
  refine va_get (D := E.1) (ci := 9) (v := .ref (a 0)) (C := RX5) (T := TX5) (N := 11) hx hb hts inX5 hown hK hP 0 rfl rfl 0 (by decide) (hts _ q246) (fun _ h9 => h9) rfl dX5_sharesInFavour_13 ?_
  refine lv_iload_n hx hb dX5_sharesInFavour_16 rfl (lv_at hl 1 rfl) ?_
  refine lv_iload_n hx hb dX5_sharesInFavour_17 rfl (lv_at hl 2 rfl) ?_
  refine run_i (S := Unit) (run_V (As := [.int (nI (tn p0)), .int (nI (tn p1))]) (rest := []) (bs := [coC E x a a2 a3 b d k pa y w, stC E a g]) (cb := [stC E a g]) hx hb hml hown hts hK hZ hA (c_X4_sharesFor l E _ a g _ hI (tn p0) (tn p1) (by omega) (by omega)) l_X5_196 rfl ⟨⟨rfl, rfl⟩, Nat.le_of_ble_eq_true rfl, Nat.le_of_ble_eq_true rfl⟩ 8 rfl [1] rfl (by decide) rfl hP hD hS hl.1 rfl (Nat.le_of_ble_eq_true rfl) dX5_sharesInFavour_18 ⟨Nat.le_of_ble_eq_true rfl, Nat.le_of_ble_eq_true rfl⟩) hA hP hD hS (isC := [1]) rfl [0] [0, 1] (br := [coC E x a a2 a3 b d k pa y w]) (bs2 := fun _ => [coC E x a a2 a3 b d k pa y w, stC E a g]) rfl (by decide) (fun _ => rfl) (by decide) (fun r u H locs hw hP hD hS => ?_)
  subst hw
  exact hret _ _ (nI (favN g (tn p0) (tn p1))) () _ _ _ _ hP hD hS rfl ⟨hf9, rfl⟩ dX5_sharesInFavour_21 (by omega) (by omega)
abbrev rm_X5_carriedTone : Room := { frames := 7, cells := 2, slots := 12, locals := 120 }
set_option maxHeartbeats 4000000 in
set_option maxRecDepth 100000 in
theorem c_X5_carriedTone (l : Launch) (hst : l.stackTraces = false) (E : EE) (sz : Nat) (x a a2 a3 b d k pa y w : Nat → Nat) (g : GG) (B : Nat) (hI : IB B g) (p0 : Int32) : XI l yX5_carriedTone cX5_carriedTone 3 .int rm_X5_carriedTone [.ref (x 0), .int p0] E sz [coC E x a a2 a3 b d k pa y w, stC E a g] (fun (r : Int32) (_ : Unit) => ((0 ≤ p0.toInt ∧ p0.toInt ≤ 6) ∧ fst1 (fun t => decide (quo g ≤ favN g t (tn p0))) 12 < 12) ∧ r = nI (fst1 (fun t => decide (quo g ≤ favN g t (tn p0))) 12)) (fun _ => [coC E x a a2 a3 b d k pa y w, stC E a g]) (fun (Ex : String) (_ : Unit) => (Ex = IAX ∧ ¬ (0 ≤ p0.toInt ∧ p0.toInt ≤ 6)) ∨ (Ex = NSE ∧ (0 ≤ p0.toInt ∧ p0.toInt ≤ 6) ∧ ¬ fst1 (fun t => decide (quo g ≤ favN g t (tn p0))) 12 < 12)) (fun _ => [coC E x a a2 a3 b d k pa y w, stC E a g]) 2 12 := by
  refine xi_go hst (by decide) rfl (Nat.le_of_ble_eq_true rfl) ?_
  intro p e s m below meth c A Q ls hx hb hml hown hts hK hZ hDD hA hsz hP hD hl hret hprop hthr
  have hS : va_S A s.heap s.heap [] := va_S.rf
  have hl : lv_has ls 3 [(0, .ref (x 0)), (1, .int p0)] := hl
  skip
  have hmc := hI.mc
  have hbu := hI.bud
  have hsh : allSh g ≤ 50 * g 8 0 := hI.shs (Nat.le_refl _)
  have hqd : quo g = allSh g / 2 + 1 := rfl
  refine lv_aload_n hx hb dX5_carriedTone_0 rfl (lv_at hl 0 rfl) ?_
  refine va_get (D := E.1) (ci := 9) (v := .ref (a 0)) (C := RX5) (T := TX5) (N := 11) hx hb hts inX5 hown hK hP 0 rfl rfl 0 (by decide) (hts _ q246) (fun _ h9 => h9) rfl dX5_carriedTone_1 ?_
  refine lv_iconst (v := nI 0) hx hb dX5_carriedTone_4 (by decide) ?_
  refine lv_iload_n hx hb dX5_carriedTone_5 rfl (lv_at hl 1 rfl) ?_
  refine run_i (S := Unit) (run_V (As := [.int (nI 0), .int p0]) (rest := []) (bs := [coC E x a a2 a3 b d k pa y w, stC E a g]) (cb := [stC E a g]) hx hb hml hown hts hK hZ hA (c_X4_faultOfMotion l E _ a g (nI 0) p0 ) l_X5_117 rfl ⟨⟨rfl, rfl⟩, Nat.le_of_ble_eq_true rfl, Nat.le_of_ble_eq_true rfl⟩ 8 rfl [1] rfl (by decide) rfl hP hD hS hl.1 rfl (Nat.le_of_ble_eq_true rfl) dX5_carriedTone_6 ⟨Nat.zero_le _, Nat.zero_le _⟩) hA hP hD hS (isC := [1]) rfl [0] [0, 1] (br := [coC E x a a2 a3 b d k pa y w]) (bs2 := fun _ => [coC E x a a2 a3 b d k pa y w, stC E a g]) rfl (by decide) (fun _ => rfl) (by decide) (fun r u H locs hw hP hD hS => ?_)
  subst hw
  refine run_xv (S := Unit) (SX := Unit) (run_XS (As := [.int (nI (fMot (nI 0) p0))]) (rest := []) (bs := [coC E x a a2 a3 b d k pa y w, stC E a g]) (cb := []) hx hb hml hown hts hK hZ hDD hA (c_X5_refuse l hst E _ (fMot (nI 0) p0) (f_4 (g := g) (p0 := nI 0) (p1 := p0) (p2 := p0) (p3 := p0)).2.2.2.2.2.1) l_X5_72 rfl ⟨⟨rfl, rfl⟩, Nat.le_of_ble_eq_true rfl, Nat.le_of_ble_eq_true rfl⟩ [] rfl (by decide) hP hD hS hl.1 rfl (Nat.le_of_ble_eq_true rfl) dX5_carriedTone_9 ⟨Nat.le_of_ble_eq_true rfl, Nat.le_of_ble_eq_true rfl⟩) hA hP hD hS (isC := []) rfl [0, 1] [0, 1] (br := [coC E x a a2 a3 b d k pa y w, stC E a g]) (bs2 := fun _ => [coC E x a a2 a3 b d k pa y w, stC E a g]) (bx2 := fun _ => [coC E x a a2 a3 b d k pa y w, stC E a g]) rfl (by decide) (fun _ => rfl) (fun _ => rfl) (by decide) (fun Ex ce q3 ux H locs hw hP hD hS hc1 hc2 hc3 => ?_) (fun u H locs hw hP hD hS => ?_)
  · exact hprop _ _ _ () _ _ _ _ _ _ _ (Or.inl (mot_0x hw)) hP hD hS hc1 hc2 hc3 (by omega) (by omega)
  have hw : (fMot (nI 0) p0) = 0 := hw
  obtain ⟨-, ⟨j3, j4⟩⟩ := fMot_0 hw
  have ht0 : ((tn p0 : Nat) : Int) = p0.toInt := tn_t (by omega)
  have hl : lv_has ls 3 [(0, .ref (x 0)), (1, .int (nI (tn p0)))] := by rw [tn_n (x := p0) (by omega)]; exact hl
  refine lv_iconst (v := nI 0) hx hb dX5_carriedTone_12 (by decide) ?_
  refine lv_istore_n (lv' := [(2, .int (nI 0)), (0, .ref (x 0)), (1, .int (nI (tn p0)))]) hx hb dX5_carriedTone_13 rfl hl (by decide) rfl (fun ls hl => ?_)
  have loop14 : ∀ (n : Nat) (t : Nat), (t ≤ 12) → (∀ j, j < t → decide (quo g ≤ favN g j (tn p0)) = false) → 12 - t < n → ∀ (H : Heap) (locs : List Loc) (ls : Array Slot), va_P E.1 vwCl ([coC E x a a2 a3 b d k pa y w, stC E a g] : List va_W).flatten H → va_D A ([coC E x a a2 a3 b d k pa y w, stC E a g] : List va_W).flatten → va_S A s.heap H locs → lv_has ls 3 [(0, .ref (x 0)), (1, .int (nI (tn p0))), (2, .int (nI t))] → W p l e rm_X5_carriedTone s m ([.ref (x 0), .int p0] : List Value).toArray below meth c H locs (0 + 1) (0 + 6) Q (F0 m 14 ls []) := by
    intro n14
    induction n14 with
    | zero => intro t hi hno hn14; exact absurd hn14 (Nat.not_lt_zero _)
    | succ n14 ih14 =>
      intro t hi hno hn14 H locs ls hP hD hS hl
      refine lv_iload_n hx hb dX5_carriedTone_14 rfl (lv_at hl 2 rfl) ?_
      refine lv_bipush (v := nI 12) hx hb dX5_carriedTone_15 (by decide) ?_
      refine nv_icmp_ge (X := ((t : Nat) : Int)) (Y := ((12 : Nat) : Int)) hx hb (nI_toInt (by omega)) (nI_toInt (by omega)) (tgt := 47) dX5_carriedTone_17 (by decide) (fun c_1 => ?_) (fun c_1 => ?_)
      · skip
        have hfs : fst1 (fun t => decide (quo g ≤ favN g t (tn p0))) 12 = 12 := fst1_none (p := fun t => decide (quo g ≤ favN g t (tn p0))) (fun j hj => hno j (by omega))
        exact hthr (NSE, 152, 156) 7 ("CricketCooperative", 202, "no tone would be carried") () _ _ 47 _ [] _ _ mx_NSE rfl rfl (Or.inr ⟨rfl, ⟨j3, j4⟩, by rw [hfs]; omega⟩) hP hD hS hl.1 dX5_carriedTone_47 dX5_carriedTone_50 (Or.inl ⟨dX5_carriedTone_51, dX5_carriedTone_53, dX5_carriedTone_56⟩) (Nat.le_of_ble_eq_true rfl) (Nat.le_of_ble_eq_true rfl) (Nat.le_of_ble_eq_true rfl) (Nat.le_of_ble_eq_true rfl) (Nat.le_of_ble_eq_true rfl) (Nat.le_of_ble_eq_true rfl)
      · skip
        have hfv : favN g t (tn p0) ≤ 50 * g 8 0 := fav_le hI (Nat.le_refl _)
        refine lv_aload_n hx hb dX5_carriedTone_20 rfl (lv_at hl 0 rfl) ?_
        refine va_get (D := E.1) (ci := 9) (v := .ref (a 0)) (C := RX5) (T := TX5) (N := 11) hx hb hts inX5 hown hK hP 0 rfl rfl 0 (by decide) (hts _ q246) (fun _ h9 => h9) rfl dX5_carriedTone_21 ?_
        refine lv_iload_n hx hb dX5_carriedTone_24 rfl (lv_at hl 2 rfl) ?_
        refine lv_iload_n hx hb dX5_carriedTone_25 rfl (lv_at hl 1 rfl) ?_
        refine run_i (S := Unit) (run_V (As := [.int (nI t), .int (nI (tn p0))]) (rest := []) (bs := [coC E x a a2 a3 b d k pa y w, stC E a g]) (cb := [stC E a g]) hx hb hml hown hts hK hZ hA (c_X4_sharesFor l E _ a g _ hI t (tn p0) (by omega) (by omega)) l_X5_196 rfl ⟨⟨rfl, rfl⟩, Nat.le_of_ble_eq_true rfl, Nat.le_of_ble_eq_true rfl⟩ 8 rfl [1] rfl (by decide) rfl hP hD hS hl.1 rfl (Nat.le_of_ble_eq_true rfl) dX5_carriedTone_26 ⟨Nat.le_of_ble_eq_true rfl, Nat.le_of_ble_eq_true rfl⟩) hA hP hD hS (isC := [1]) rfl [0] [0, 1] (br := [coC E x a a2 a3 b d k pa y w]) (bs2 := fun _ => [coC E x a a2 a3 b d k pa y w, stC E a g]) rfl (by decide) (fun _ => rfl) (by decide) (fun r u H locs hw hP hD hS => ?_)
        subst hw
        refine lv_aload_n hx hb dX5_carriedTone_29 rfl (lv_at hl 0 rfl) ?_
        refine va_get (D := E.1) (ci := 9) (v := .ref (a 0)) (C := RX5) (T := TX5) (N := 11) hx hb hts inX5 hown hK hP 0 rfl rfl 0 (by decide) (hts _ q246) (fun _ h9 => h9) rfl dX5_carriedTone_30 ?_
        refine run_i (S := Unit) (run_V (As := []) (rest := [.int (nI (favN g t (tn p0)))]) (bs := [coC E x a a2 a3 b d k pa y w, stC E a g]) (cb := [stC E a g]) hx hb hml hown hts hK hZ hA (c_X4_neededShares l E _ a g  _ hI) l_X5_199 rfl ⟨⟨rfl, rfl⟩, Nat.le_of_ble_eq_true rfl, Nat.le_of_ble_eq_true rfl⟩ 8 rfl [1] rfl (by decide) rfl hP hD hS hl.1 rfl (Nat.le_of_ble_eq_true rfl) dX5_carriedTone_33 ⟨Nat.le_of_ble_eq_true rfl, Nat.le_of_ble_eq_true rfl⟩) hA hP hD hS (isC := [1]) rfl [0] [0, 1] (br := [coC E x a a2 a3 b d k pa y w]) (bs2 := fun _ => [coC E x a a2 a3 b d k pa y w, stC E a g]) rfl (by decide) (fun _ => rfl) (by decide) (fun r u H locs hw hP hD hS => ?_)
        subst hw
        refine nv_icmp_lt (X := ((favN g t (tn p0) : Nat) : Int)) (Y := ((quo g : Nat) : Int)) hx hb (nI_toInt (by omega)) (nI_toInt (by omega)) (tgt := 41) dX5_carriedTone_36 (by decide) (fun c_2 => ?_) (fun c_2 => ?_)
        · skip
          refine lv_iinc (v := nI (t + 1)) (lv' := [(2, .int (nI (t + 1))), (0, .ref (x 0)), (1, .int (nI (tn p0)))]) hx hb dX5_carriedTone_41 hl (k := 2) rfl (nI_add t 1) (by decide) rfl (fun ls hl => ?_)
          refine lv_goto (tgt := 14) hx hb dX5_carriedTone_44 (by decide) ?_
          exact ih14 (t + 1) (by omega) (fun j hj => by rcases Nat.lt_or_ge j t with q3 | q3; exact hno j q3; rw [show j = t by omega]; exact decide_eq_false (by omega)) (by omega) _ _ _ hP hD hS (lv_sub hl [1, 2, 0] rfl)
        · skip
          have hfs : fst1 (fun t => decide (quo g ≤ favN g t (tn p0))) 12 = t := fst1_at (p := fun t => decide (quo g ≤ favN g t (tn p0))) (decide_eq_true (by omega)) hno (by omega)
          refine lv_iload_n hx hb dX5_carriedTone_39 rfl (lv_at hl 2 rfl) ?_
          exact hret _ _ (nI t) () _ _ _ _ hP hD hS rfl ⟨⟨⟨j3, j4⟩, by rw [hfs]; omega⟩, by rw [hfs]⟩ dX5_carriedTone_40 (by omega) (by omega)
  exact loop14 _ 0 (by omega) (fun j hj => absurd hj (Nat.not_lt_zero _)) (Nat.lt_succ_self _) _ _ _ hP hD hS (lv_sub hl [1, 2, 0] rfl)
abbrev rm_X5_spoiltBeat : Room := { frames := 6, cells := 1, slots := 6, locals := 100 }
set_option maxHeartbeats 4000000 in
set_option maxRecDepth 100000 in
theorem c_X5_spoiltBeat (l : Launch) (hst : l.stackTraces = false) (E : EE) (sz : Nat) (x a a2 a3 b d k pa y w : Nat → Nat) (g : GG) (B : Nat) (hI : IB B g) (p0 : Int32) : XI l yX5_spoiltBeat cX5_spoiltBeat 2 .int rm_X5_spoiltBeat [.ref (x 0), .int p0] E sz [coC E x a a2 a3 b d k pa y w, stC E a g] (fun (r : Int32) (_ : Unit) => (0 ≤ p0.toInt ∧ p0.toInt < (g 8 7 : Int)) ∧ r = nI (g 7 (tn p0))) (fun _ => [coC E x a a2 a3 b d k pa y w, stC E a g]) (fun (Ex : String) (_ : Unit) => Ex = IOX ∧ ¬ (0 ≤ p0.toInt ∧ p0.toInt < (g 8 7 : Int))) (fun _ => [coC E x a a2 a3 b d k pa y w, stC E a g]) 1 6 := by
  refine xi_go hst (by decide) rfl (Nat.le_of_ble_eq_true rfl) ?_
  intro p e s m below meth c A Q ls hx hb hml hown hts hK hZ hDD hA hsz hP hD hl hret hprop hthr
  have hS : va_S A s.heap s.heap [] := va_S.rf
  have hl : lv_has ls 2 [(0, .ref (x 0)), (1, .int p0)] := hl
  skip
  have hmc := hI.mc
  have hbu := hI.bud
  have h87 : g 8 7 ≤ 10 := hI.1.2.2
  refine lv_iload_n hx hb dX5_spoiltBeat_0 rfl (lv_at hl 1 rfl) ?_
  refine nv_if_lt (X := p0.toInt) hx hb rfl (tgt := 15) dX5_spoiltBeat_1 (by decide) (fun c_1 => ?_) (fun c_1 => ?_)
  · skip
    exact hthr (IOX, 242, 246) 9 ("CricketCooperative", 244, "no such spoilt beat") () _ _ 15 _ [] _ _ mx_IOX rfl rfl ⟨rfl, by omega⟩ hP hD hS hl.1 dX5_spoiltBeat_15 dX5_spoiltBeat_18 (Or.inl ⟨dX5_spoiltBeat_19, dX5_spoiltBeat_21, dX5_spoiltBeat_24⟩) (Nat.le_of_ble_eq_true rfl) (Nat.le_of_ble_eq_true rfl) (Nat.le_of_ble_eq_true rfl) (Nat.le_of_ble_eq_true rfl) (Nat.le_of_ble_eq_true rfl) (Nat.le_of_ble_eq_true rfl)
  · skip
    refine lv_iload_n hx hb dX5_spoiltBeat_4 rfl (lv_at hl 1 rfl) ?_
    refine lv_aload_n hx hb dX5_spoiltBeat_5 rfl (lv_at hl 0 rfl) ?_
    refine va_get (D := E.1) (ci := 9) (v := .ref (a 0)) (C := RX5) (T := TX5) (N := 11) hx hb hts inX5 hown hK hP 0 rfl rfl 0 (by decide) (hts _ q246) (fun _ h9 => h9) rfl dX5_spoiltBeat_6 ?_
    refine va_get (D := E.1) (ci := 8) (v := .int (nI (g 8 7))) (C := RX4) (T := TX4) (N := 16) hx hb hts inX4 hown hK hP 1 rfl rfl 9 (by decide) (hts _ q90) (fun _ h9 => h9) rfl dX5_spoiltBeat_9 ?_
    refine nv_icmp_lt (X := p0.toInt) (Y := ((g 8 7 : Nat) : Int)) hx hb rfl (nI_toInt (by omega)) (tgt := 25) dX5_spoiltBeat_12 (by decide) (fun c_2 => ?_) (fun c_2 => ?_)
    · skip
      have ht0 : ((tn p0 : Nat) : Int) = p0.toInt := tn_t (by omega)
      have hl : lv_has ls 2 [(0, .ref (x 0)), (1, .int (nI (tn p0)))] := by rw [tn_n (x := p0) (by omega)]; exact hl
      refine lv_aload_n hx hb dX5_spoiltBeat_25 rfl (lv_at hl 0 rfl) ?_
      refine va_get (D := E.1) (ci := 9) (v := .ref (a 0)) (C := RX5) (T := TX5) (N := 11) hx hb hts inX5 hown hK hP 0 rfl rfl 0 (by decide) (hts _ q246) (fun _ h9 => h9) rfl dX5_spoiltBeat_26 ?_
      refine va_get (D := E.1) (ci := 8) (v := .ref (a 8)) (C := RX4) (T := TX4) (N := 16) hx hb hts inX4 hown hK hP 1 rfl rfl 7 (by decide) (hts _ q84) (fun _ h9 => h9) rfl dX5_spoiltBeat_29 ?_
      refine lv_iload_n hx hb dX5_spoiltBeat_32 rfl (lv_at hl 1 rfl) ?_
      refine nv_iald (f := (g 7)) (i := tn p0) (n := 10) hx hb hK hP 9 0 rfl rfl (by omega) (by decide) dX5_spoiltBeat_33 ?_
      exact hret _ _ (nI (g 7 (tn p0))) () _ _ _ _ hP hD hS rfl ⟨⟨by omega, by omega⟩, rfl⟩ dX5_spoiltBeat_34 (by omega) (by omega)
    · skip
      exact hthr (IOX, 242, 246) 9 ("CricketCooperative", 244, "no such spoilt beat") () _ _ 15 _ [] _ _ mx_IOX rfl rfl ⟨rfl, by omega⟩ hP hD hS hl.1 dX5_spoiltBeat_15 dX5_spoiltBeat_18 (Or.inl ⟨dX5_spoiltBeat_19, dX5_spoiltBeat_21, dX5_spoiltBeat_24⟩) (Nat.le_of_ble_eq_true rfl) (Nat.le_of_ble_eq_true rfl) (Nat.le_of_ble_eq_true rfl) (Nat.le_of_ble_eq_true rfl) (Nat.le_of_ble_eq_true rfl) (Nat.le_of_ble_eq_true rfl)
abbrev rm_X5_meanPurse : Room := { frames := 6, cells := 1, slots := 6, locals := 100 }
set_option maxHeartbeats 4000000 in
set_option maxRecDepth 100000 in
theorem c_X5_meanPurse (l : Launch) (hst : l.stackTraces = false) (E : EE) (sz : Nat) (x a a2 a3 b d k pa y w : Nat → Nat) (g : GG) (B : Nat) (hI : IB B g)  : XD l yX5_meanPurse cX5_meanPurse 1 rm_X5_meanPurse [.ref (x 0)] E sz [coC E x a a2 a3 b d k pa y w, stC E a g] (fun (r : UInt64) (_ : Unit) => g 8 0 ≠ 0 ∧ r = mpD g) (fun _ => [coC E x a a2 a3 b d k pa y w, stC E a g]) (fun (Ex : String) (_ : Unit) => Ex = AEX ∧ g 8 0 = 0) (fun _ => [coC E x a a2 a3 b d k pa y w, stC E a g]) 1 6 := by
  refine xd_go hst (by decide) rfl (Nat.le_of_ble_eq_true rfl) ?_
  intro p e s m below meth c A Q ls hx hb hml hown hts hK hZ hDD hA hsz hP hD hl hret hprop hthr
  have hS : va_S A s.heap s.heap [] := va_S.rf
  have hl : lv_has ls 1 [(0, .ref (x 0))] := hl
  skip
  have hmc := hI.mc
  have hbu := hI.bud
  have hpn : pursN g ≤ sm (g 5) 8 := sm_mono hmc
  refine lv_aload_n hx hb dX5_meanPurse_0 rfl (lv_at hl 0 rfl) ?_
  refine va_get (D := E.1) (ci := 9) (v := .ref (a 0)) (C := RX5) (T := TX5) (N := 11) hx hb hts inX5 hown hK hP 0 rfl rfl 0 (by decide) (hts _ q246) (fun _ h9 => h9) rfl dX5_meanPurse_1 ?_
  refine va_get (D := E.1) (ci := 8) (v := .int (nI (g 8 0))) (C := RX4) (T := TX4) (N := 16) hx hb hts inX4 hown hK hP 1 rfl rfl 8 (by decide) (hts _ q88) (fun _ h9 => h9) rfl dX5_meanPurse_4 ?_
  refine nv_if_ne (X := ((g 8 0 : Nat) : Int)) hx hb (nI_toInt (by omega)) (tgt := 20) dX5_meanPurse_7 (by decide) (fun c_1 => ?_) (fun c_1 => ?_)
  · skip
    refine lv_aload_n hx hb dX5_meanPurse_20 rfl (lv_at hl 0 rfl) ?_
    refine va_get (D := E.1) (ci := 9) (v := .ref (a 0)) (C := RX5) (T := TX5) (N := 11) hx hb hts inX5 hown hK hP 0 rfl rfl 0 (by decide) (hts _ q246) (fun _ h9 => h9) rfl dX5_meanPurse_21 ?_
    refine run_i (S := Unit) (run_V (As := []) (rest := []) (bs := [coC E x a a2 a3 b d k pa y w, stC E a g]) (cb := [stC E a g]) hx hb hml hown hts hK hZ hA (c_X4_coinsInPurses l E _ a g  hmc) l_X5_230 rfl ⟨⟨rfl, rfl⟩, Nat.le_of_ble_eq_true rfl, Nat.le_of_ble_eq_true rfl⟩ 8 rfl [1] rfl (by decide) rfl hP hD hS hl.1 rfl (Nat.le_of_ble_eq_true rfl) dX5_meanPurse_24 ⟨Nat.zero_le _, Nat.zero_le _⟩) hA hP hD hS (isC := [1]) rfl [0] [0, 1] (br := [coC E x a a2 a3 b d k pa y w]) (bs2 := fun _ => [coC E x a a2 a3 b d k pa y w, stC E a g]) rfl (by decide) (fun _ => rfl) (by decide) (fun r u H locs hw hP hD hS => ?_)
    subst hw
    refine lv_i2d hx hb dX5_meanPurse_27 ?_
    refine lv_aload_n hx hb dX5_meanPurse_28 rfl (lv_at hl 0 rfl) ?_
    refine va_get (D := E.1) (ci := 9) (v := .ref (a 0)) (C := RX5) (T := TX5) (N := 11) hx hb hts inX5 hown hK hP 0 rfl rfl 0 (by decide) (hts _ q246) (fun _ h9 => h9) rfl dX5_meanPurse_29 ?_
    refine va_get (D := E.1) (ci := 8) (v := .int (nI (g 8 0))) (C := RX4) (T := TX4) (N := 16) hx hb hts inX4 hown hK hP 1 rfl rfl 8 (by decide) (hts _ q88) (fun _ h9 => h9) rfl dX5_meanPurse_32 ?_
    refine lv_i2d hx hb dX5_meanPurse_35 ?_
    refine lv_ddiv hx hb dX5_meanPurse_36 (mp_n hI (by omega)) ?_
    exact hret _ _ (mpD g) () _ _ _ _ hP hD hS ⟨by omega, rfl⟩ dX5_meanPurse_37 (by omega) (by omega)
  · skip
    exact hthr (AEX, 250, 252) 8 ("CricketCooperative", 216, "no members") () _ _ 10 _ [] _ _ mx_AEX rfl rfl ⟨rfl, by omega⟩ hP hD hS hl.1 dX5_meanPurse_10 dX5_meanPurse_13 (Or.inl ⟨dX5_meanPurse_14, dX5_meanPurse_16, dX5_meanPurse_19⟩) (Nat.le_of_ble_eq_true rfl) (Nat.le_of_ble_eq_true rfl) (Nat.le_of_ble_eq_true rfl) (Nat.le_of_ble_eq_true rfl) (Nat.le_of_ble_eq_true rfl) (Nat.le_of_ble_eq_true rfl)
abbrev rm_X5_powerShare : Room := { frames := 7, cells := 1, slots := 6, locals := 183 }
set_option maxHeartbeats 4000000 in
set_option maxRecDepth 100000 in
theorem c_X5_powerShare (l : Launch) (hst : l.stackTraces = false) (E : EE) (sz : Nat) (x a a2 a3 b d k pa y w : Nat → Nat) (g : GG) (B : Nat) (hI : IB B g) (so gw : Nat → Nat) (p0 : Int32) : XF l yX5_powerShare cX5_powerShare 3 rm_X5_powerShare [.ref (x 0), .int p0] E sz [coC E x a a2 a3 b d k pa y w, stC E a g, grC E k so gw] (fun (r : UInt32) (u : (Nat → Nat) × (Nat → Nat)) => hasM g p0 = true ∧ r = psF g (tn p0)) (fun u => [coC E x a a2 a3 b d k pa y w, stC E a g, grC E k u.1 u.2]) (fun (Ex : String) (_ : Unit) => Ex = IOX ∧ hasM g p0 = false) (fun _ => [coC E x a a2 a3 b d k pa y w, stC E a g, grC E k so gw]) 1 6 := by
  refine xf_go hst (by decide) rfl (Nat.le_of_ble_eq_true rfl) ?_
  intro p e s m below meth c A Q ls hx hb hml hown hts hK hZ hDD hA hsz hP hD hl hret hprop hthr
  have hS : va_S A s.heap s.heap [] := va_S.rf
  have hl : lv_has ls 3 [(0, .ref (x 0)), (1, .int p0)] := hl
  skip
  have hmc := hI.mc
  have hbu := hI.bud
  refine lv_aload_n hx hb dX5_powerShare_0 rfl (lv_at hl 0 rfl) ?_
  refine lv_iload_n hx hb dX5_powerShare_1 rfl (lv_at hl 1 rfl) ?_
  refine run_xv (S := Unit) (SX := Unit) (run_XV (As := [.int p0]) (rest := []) (bs := [coC E x a a2 a3 b d k pa y w, stC E a g, grC E k so gw]) (cb := [coC E x a a2 a3 b d k pa y w, stC E a g]) hx hb hml hown hts hK hZ hDD hA (c_X5_needMember l hst E _ x a a2 a3 b d k pa y w g _ hI p0) l_X5_127 rfl ⟨⟨rfl, rfl⟩, Nat.le_of_ble_eq_true rfl, Nat.le_of_ble_eq_true rfl⟩ 9 rfl [0, 1] rfl (by decide) rfl hP hD hS hl.1 rfl (Nat.le_of_ble_eq_true rfl) dX5_powerShare_2 ⟨Nat.le_of_ble_eq_true rfl, Nat.le_of_ble_eq_true rfl⟩) hA hP hD hS (isC := [0, 1]) rfl [2] [1, 2, 0] (br := [grC E k so gw]) (bs2 := fun _ => [coC E x a a2 a3 b d k pa y w, stC E a g, grC E k so gw]) (bx2 := fun _ => [coC E x a a2 a3 b d k pa y w, stC E a g, grC E k so gw]) rfl (by decide) (fun _ => rfl) (fun _ => rfl) (by decide) (fun Ex ce q3 ux H locs hw hP hD hS hc1 hc2 hc3 => ?_) (fun u H locs hw hP hD hS => ?_)
  · exact hprop _ _ _ () _ _ _ _ _ _ _ hw hP hD hS hc1 hc2 hc3 (by omega) (by omega)
  have hw : hasM g p0 = true := hw
  have hhp0 := hw
  have hmp0 := hasM_t hw
  have htp0 : ((tn p0 : Nat) : Int) = p0.toInt := tn_t (by omega)
  have hbp0 := hI.mem (m := tn p0) (by omega)
  have hpp := powN_pos hI (show 0 < g 8 0 by omega)
  have hps := powN_sum hI (g 8 0)
  have hl : lv_has ls 3 [(0, .ref (x 0)), (1, .int (nI (tn p0)))] := by rw [tn_n (x := p0) (by omega)]; exact hl
  refine lv_aload_n hx hb dX5_powerShare_5 rfl (lv_at hl 0 rfl) ?_
  refine va_get (D := E.1) (ci := 9) (v := .ref (k 0)) (C := RX5) (T := TX5) (N := 11) hx hb hts inX5 hown hK hP 0 rfl rfl 5 (by decide) (hts _ q251) (fun _ h9 => h9) rfl dX5_powerShare_6 ?_
  refine lv_aload_n hx hb dX5_powerShare_9 rfl (lv_at hl 0 rfl) ?_
  refine va_get (D := E.1) (ci := 9) (v := .ref (a 0)) (C := RX5) (T := TX5) (N := 11) hx hb hts inX5 hown hK hP 0 rfl rfl 0 (by decide) (hts _ q246) (fun _ h9 => h9) rfl dX5_powerShare_10 ?_
  refine run_i (S := (Nat → Nat) × (Nat → Nat)) (run_V (As := [.ref (a 0)]) (rest := []) (bs := [coC E x a a2 a3 b d k pa y w, stC E a g, grC E k so gw]) (cb := [grC E k so gw, stC E a g]) hx hb hml hown hts hK hZ hA (c_X1_powerOfAll l E _ k so gw a g _ hI  ) l_X5_253 rfl ⟨⟨rfl, rfl⟩, Nat.le_of_ble_eq_true rfl, Nat.le_of_ble_eq_true rfl⟩ 5 rfl [2, 1] rfl (by decide) rfl hP hD hS hl.1 rfl (Nat.le_of_ble_eq_true rfl) dX5_powerShare_13 ⟨Nat.le_of_ble_eq_true rfl, Nat.le_of_ble_eq_true rfl⟩) hA hP hD hS (isC := [2, 1]) rfl [0] [0, 2, 1] (br := [coC E x a a2 a3 b d k pa y w]) (bs2 := fun u => [coC E x a a2 a3 b d k pa y w, stC E a g, grC E k u.1 u.2]) rfl (by decide) (fun _ => rfl) (by decide) (fun r u H locs hw hP hD hS => ?_)
  obtain ⟨so_1, gw_2⟩ := u
  subst hw
  have hP : va_P E.1 vwCl ([coC E x a a2 a3 b d k pa y w, stC E a g, grC E k so_1 gw_2] : List va_W).flatten H := hP
  have hD : va_D A ([coC E x a a2 a3 b d k pa y w, stC E a g, grC E k so_1 gw_2] : List va_W).flatten := hD
  refine lv_istore_n (lv' := [(2, .int (nI (sm (powN g) (g 8 0)))), (0, .ref (x 0)), (1, .int (nI (tn p0)))]) hx hb dX5_powerShare_16 rfl hl (by decide) rfl (fun ls hl => ?_)
  refine lv_iload_n hx hb dX5_powerShare_17 rfl (lv_at hl 0 rfl) ?_
  refine nv_if_ne (X := ((sm (powN g) (g 8 0) : Nat) : Int)) hx hb (nI_toInt (by omega)) (tgt := 25) dX5_powerShare_18 (by decide) (fun c_3 => ?_) (fun c_3 => ?_)
  · skip
    refine lv_aload_n hx hb dX5_powerShare_25 rfl (lv_at hl 1 rfl) ?_
    refine va_get (D := E.1) (ci := 9) (v := .ref (k 0)) (C := RX5) (T := TX5) (N := 11) hx hb hts inX5 hown hK hP 0 rfl rfl 5 (by decide) (hts _ q251) (fun _ h9 => h9) rfl dX5_powerShare_26 ?_
    refine lv_aload_n hx hb dX5_powerShare_29 rfl (lv_at hl 1 rfl) ?_
    refine va_get (D := E.1) (ci := 9) (v := .ref (a 0)) (C := RX5) (T := TX5) (N := 11) hx hb hts inX5 hown hK hP 0 rfl rfl 0 (by decide) (hts _ q246) (fun _ h9 => h9) rfl dX5_powerShare_30 ?_
    refine lv_iload_n hx hb dX5_powerShare_33 rfl (lv_at hl 2 rfl) ?_
    refine run_i (S := (Nat → Nat) × (Nat → Nat)) (run_V (As := [.ref (a 0), .int (nI (tn p0))]) (rest := []) (bs := [coC E x a a2 a3 b d k pa y w, stC E a g, grC E k so_1 gw_2]) (cb := [grC E k so_1 gw_2, stC E a g]) hx hb hml hown hts hK hZ hA (c_X1_decisiveByTrying l E _ k so_1 gw_2 a g _ hI (tn p0) (by omega)) l_X5_210 rfl ⟨⟨rfl, rfl⟩, Nat.le_of_ble_eq_true rfl, Nat.le_of_ble_eq_true rfl⟩ 5 rfl [2, 1] rfl (by decide) rfl hP hD hS hl.1 rfl (Nat.le_of_ble_eq_true rfl) dX5_powerShare_34 ⟨Nat.le_of_ble_eq_true rfl, Nat.le_of_ble_eq_true rfl⟩) hA hP hD hS (isC := [2, 1]) rfl [0] [0, 2, 1] (br := [coC E x a a2 a3 b d k pa y w]) (bs2 := fun u => [coC E x a a2 a3 b d k pa y w, stC E a g, grC E k u.1 u.2]) rfl (by decide) (fun _ => rfl) (by decide) (fun r u H locs hw hP hD hS => ?_)
    obtain ⟨so_4, gw_5⟩ := u
    subst hw
    have hP : va_P E.1 vwCl ([coC E x a a2 a3 b d k pa y w, stC E a g, grC E k so_4 gw_5] : List va_W).flatten H := hP
    have hD : va_D A ([coC E x a a2 a3 b d k pa y w, stC E a g, grC E k so_4 gw_5] : List va_W).flatten := hD
    refine lv_i2f hx hb dX5_powerShare_37 ?_
    refine lv_iload_n hx hb dX5_powerShare_38 rfl (lv_at hl 0 rfl) ?_
    refine lv_i2f hx hb dX5_powerShare_39 ?_
    refine lv_fdiv hx hb dX5_powerShare_40 (ps_n hI (by omega) _) ?_
    exact hret _ _ (psF g (tn p0)) (so_4, gw_5) _ _ _ _ hP hD hS ⟨hhp0, rfl⟩ dX5_powerShare_41 (by omega) (by omega)
  · exact absurd c_3 (by omega)
