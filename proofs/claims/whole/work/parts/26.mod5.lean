abbrev rm_X6_isAsked : Room := { frames := 2, cells := 0, slots := 0, locals := 43 }
set_option maxHeartbeats 4000000 in
set_option maxRecDepth 100000 in
theorem c_X6_isAsked (l : Launch) (E : EE) (sz : Nat) (b : Nat → Nat) (z : Nat → Nat) (g : GG) (gs : Nat → GG) (ar : GG) (p0 : Int32) (hm : g 8 0 ≤ 8) : MI l yX6_isAsked cX6_isAsked 2 .boolean rm_X6_isAsked [.ref (b 0), .int p0] E sz [moC E b z g gs ar] (fun (r : Int32) (_ : Unit) => r = bI (hasM g p0)) (fun _ => [moC E b (upn z 0 (if hasM g p0 = true then 0 else 1)) g gs ar]) 0 0 := by
  refine mi_go (by decide) (Nat.le_of_ble_eq_true rfl) ?_
  intro p e s m below meth c A Q ls hx hb hml hown hts hK hZ hA hsz hP hD hl hret
  have hS : va_S A s.heap s.heap [] := va_S.rf
  have hl : lv_has ls 2 [(0, .ref (b 0)), (1, .int p0)] := hl
  skip
  have hmc := hm
  refine lv_aload_n hx hb dX6_isAsked_0 rfl (lv_at hl 0 rfl) ?_
  refine lv_aload_n hx hb dX6_isAsked_1 rfl (lv_at hl 0 rfl) ?_
  refine lv_iload_n hx hb dX6_isAsked_2 rfl (lv_at hl 1 rfl) ?_
  refine run_i (S := Unit) (run_V (As := [.int p0]) (rest := [.ref (b 0)]) (bs := [moC E b z g gs ar]) (cb := [moC E b z g gs ar]) hx hb hml hown hts hK hZ hA (c_X6_isMember l E _ b z g gs ar  p0 hmc) l_X6_92 rfl ⟨⟨rfl, rfl⟩, Nat.le_of_ble_eq_true rfl, Nat.le_of_ble_eq_true rfl⟩ 10 rfl [0] rfl (by decide) rfl hP hD hS hl.1 rfl (Nat.le_of_ble_eq_true rfl) dX6_isAsked_3 ⟨Nat.zero_le _, Nat.zero_le _⟩) hA hP hD hS (isC := [0]) rfl [] [0] (br := []) (bs2 := fun _ => [moC E b z g gs ar]) rfl (by decide) (fun _ => rfl) (by decide) (fun r u H locs hw hP hD hS => ?_)
  subst hw
  refine bv_if_eq hx hb (tgt := 13) dX6_isAsked_6 (by decide) (fun c_1 => ?_) (fun c_1 => ?_)
  · skip
    have hh := c_1
    refine lv_iconst (v := nI 1) hx hb dX6_isAsked_13 (by decide) ?_
    refine va_put (D := E.1) (ci := 10) (v := .int (nI 1)) (ty := .int) (C := RX6) (T := TX6) (N := 20) hx hb hts inX6 tyX6 tyX6_ok nmX6 hown hK hP hD hS 0 rfl rfl 0 (by decide) (hts _ q1434) (fun _ h9 => h9) rfl (by decide +kernel) rfl rfl (Nat.le_of_ble_eq_true rfl) dX6_isAsked_14 (fun H locs hP hD hS => ?_)
    have hP : va_P E.1 vwCl ([moC E b (upn z 0 1) g gs ar] : List va_W).flatten H := hP
    have hD : va_D A ([moC E b (upn z 0 1) g gs ar] : List va_W).flatten := hD
    refine lv_aload_n hx hb dX6_isAsked_17 rfl (lv_at hl 0 rfl) ?_
    refine va_get (D := E.1) (ci := 10) (v := .int (nI 1)) (C := RX6) (T := TX6) (N := 20) hx hb hts inX6 hown hK hP 0 rfl rfl 0 (by decide) (hts _ q1434) (fun _ h9 => h9) rfl dX6_isAsked_18 ?_
    refine nv_if_ne (X := ((1 : Nat) : Int)) hx hb (nI_toInt (by omega)) (tgt := 28) dX6_isAsked_21 (by decide) (fun c_2 => ?_) (fun c_2 => ?_)
    · skip
      refine lv_iconst (v := nI 0) hx hb dX6_isAsked_28 (by decide) ?_
      have hvE : (if hasM g p0 = true then 0 else 1) = 1 := by rw [hh]; rfl
      have hP : va_P E.1 vwCl ([moC E b (upn z 0 (if hasM g p0 = true then 0 else 1)) g gs ar] : List va_W).flatten H := by rw [hvE]; exact hP
      have hD : va_D A ([moC E b (upn z 0 (if hasM g p0 = true then 0 else 1)) g gs ar] : List va_W).flatten := by rw [hvE]; exact hD
      clear hvE
      exact hret _ _ (nI 0) () _ _ hP hD hS (by decide) (by rw [hh]; rfl) dX6_isAsked_29
    · exact absurd c_2 (by omega)
  · skip
    have hh := c_1
    refine lv_iconst (v := nI 0) hx hb dX6_isAsked_9 (by decide) ?_
    refine lv_goto (tgt := 14) hx hb dX6_isAsked_10 (by decide) ?_
    refine va_put (D := E.1) (ci := 10) (v := .int (nI 0)) (ty := .int) (C := RX6) (T := TX6) (N := 20) hx hb hts inX6 tyX6 tyX6_ok nmX6 hown hK hP hD hS 0 rfl rfl 0 (by decide) (hts _ q1434) (fun _ h9 => h9) rfl (by decide +kernel) rfl rfl (Nat.le_of_ble_eq_true rfl) dX6_isAsked_14 (fun H locs hP hD hS => ?_)
    have hP : va_P E.1 vwCl ([moC E b (upn z 0 0) g gs ar] : List va_W).flatten H := hP
    have hD : va_D A ([moC E b (upn z 0 0) g gs ar] : List va_W).flatten := hD
    refine lv_aload_n hx hb dX6_isAsked_17 rfl (lv_at hl 0 rfl) ?_
    refine va_get (D := E.1) (ci := 10) (v := .int (nI 0)) (C := RX6) (T := TX6) (N := 20) hx hb hts inX6 hown hK hP 0 rfl rfl 0 (by decide) (hts _ q1434) (fun _ h9 => h9) rfl dX6_isAsked_18 ?_
    refine nv_if_ne (X := ((0 : Nat) : Int)) hx hb (nI_toInt (by omega)) (tgt := 28) dX6_isAsked_21 (by decide) (fun c_3 => ?_) (fun c_3 => ?_)
    · exact absurd c_3 (by omega)
    · skip
      refine lv_iconst (v := nI 1) hx hb dX6_isAsked_24 (by decide) ?_
      refine lv_goto (tgt := 29) hx hb dX6_isAsked_25 (by decide) ?_
      have hvE : (if hasM g p0 = true then 0 else 1) = 0 := by rw [hh]; rfl
      have hP : va_P E.1 vwCl ([moC E b (upn z 0 (if hasM g p0 = true then 0 else 1)) g gs ar] : List va_W).flatten H := by rw [hvE]; exact hP
      have hD : va_D A ([moC E b (upn z 0 (if hasM g p0 = true then 0 else 1)) g gs ar] : List va_W).flatten := by rw [hvE]; exact hD
      clear hvE
      exact hret _ _ (nI 1) () _ _ hP hD hS (by decide) (by rw [hh]; rfl) dX6_isAsked_29
abbrev rm_X6_areAsked : Room := { frames := 2, cells := 0, slots := 0, locals := 43 }
set_option maxHeartbeats 4000000 in
set_option maxRecDepth 100000 in
theorem c_X6_areAsked (l : Launch) (E : EE) (sz : Nat) (b : Nat → Nat) (z : Nat → Nat) (g : GG) (gs : Nat → GG) (ar : GG) (p0 p1 : Int32) (hm : g 8 0 ≤ 8) : MI l yX6_areAsked cX6_areAsked 3 .boolean rm_X6_areAsked [.ref (b 0), .int p0, .int p1] E sz [moC E b z g gs ar] (fun (r : Int32) (_ : Unit) => r = bI (hasM g p0 && hasM g p1)) (fun _ => [moC E b (upn z 0 (if (hasM g p0 && hasM g p1) = true then 0 else 1)) g gs ar]) 0 0 := by
  refine mi_go (by decide) (Nat.le_of_ble_eq_true rfl) ?_
  intro p e s m below meth c A Q ls hx hb hml hown hts hK hZ hA hsz hP hD hl hret
  have hS : va_S A s.heap s.heap [] := va_S.rf
  have hl : lv_has ls 3 [(0, .ref (b 0)), (1, .int p0), (2, .int p1)] := hl
  skip
  have hmc := hm
  refine lv_aload_n hx hb dX6_areAsked_0 rfl (lv_at hl 0 rfl) ?_
  refine lv_aload_n hx hb dX6_areAsked_1 rfl (lv_at hl 0 rfl) ?_
  refine lv_iload_n hx hb dX6_areAsked_2 rfl (lv_at hl 1 rfl) ?_
  refine run_i (S := Unit) (run_V (As := [.int p0]) (rest := [.ref (b 0)]) (bs := [moC E b z g gs ar]) (cb := [moC E b z g gs ar]) hx hb hml hown hts hK hZ hA (c_X6_isMember l E _ b z g gs ar  p0 hmc) l_X6_92 rfl ⟨⟨rfl, rfl⟩, Nat.le_of_ble_eq_true rfl, Nat.le_of_ble_eq_true rfl⟩ 10 rfl [0] rfl (by decide) rfl hP hD hS hl.1 rfl (Nat.le_of_ble_eq_true rfl) dX6_areAsked_3 ⟨Nat.zero_le _, Nat.zero_le _⟩) hA hP hD hS (isC := [0]) rfl [] [0] (br := []) (bs2 := fun _ => [moC E b z g gs ar]) rfl (by decide) (fun _ => rfl) (by decide) (fun r u H locs hw hP hD hS => ?_)
  subst hw
  refine bv_if_eq hx hb (tgt := 21) dX6_areAsked_6 (by decide) (fun c_1 => ?_) (fun c_1 => ?_)
  · skip
    have hh : (hasM g p0 && hasM g p1) = false := by rw [c_1]; rfl
    refine lv_iconst (v := nI 1) hx hb dX6_areAsked_21 (by decide) ?_
    refine va_put (D := E.1) (ci := 10) (v := .int (nI 1)) (ty := .int) (C := RX6) (T := TX6) (N := 20) hx hb hts inX6 tyX6 tyX6_ok nmX6 hown hK hP hD hS 0 rfl rfl 0 (by decide) (hts _ q1434) (fun _ h9 => h9) rfl (by decide +kernel) rfl rfl (Nat.le_of_ble_eq_true rfl) dX6_areAsked_22 (fun H locs hP hD hS => ?_)
    have hP : va_P E.1 vwCl ([moC E b (upn z 0 1) g gs ar] : List va_W).flatten H := hP
    have hD : va_D A ([moC E b (upn z 0 1) g gs ar] : List va_W).flatten := hD
    refine lv_aload_n hx hb dX6_areAsked_25 rfl (lv_at hl 0 rfl) ?_
    refine va_get (D := E.1) (ci := 10) (v := .int (nI 1)) (C := RX6) (T := TX6) (N := 20) hx hb hts inX6 hown hK hP 0 rfl rfl 0 (by decide) (hts _ q1434) (fun _ h9 => h9) rfl dX6_areAsked_26 ?_
    refine nv_if_ne (X := ((1 : Nat) : Int)) hx hb (nI_toInt (by omega)) (tgt := 36) dX6_areAsked_29 (by decide) (fun c_2 => ?_) (fun c_2 => ?_)
    · skip
      refine lv_iconst (v := nI 0) hx hb dX6_areAsked_36 (by decide) ?_
      have hvE : (if (hasM g p0 && hasM g p1) = true then 0 else 1) = 1 := by rw [hh]; rfl
      have hP : va_P E.1 vwCl ([moC E b (upn z 0 (if (hasM g p0 && hasM g p1) = true then 0 else 1)) g gs ar] : List va_W).flatten H := by rw [hvE]; exact hP
      have hD : va_D A ([moC E b (upn z 0 (if (hasM g p0 && hasM g p1) = true then 0 else 1)) g gs ar] : List va_W).flatten := by rw [hvE]; exact hD
      clear hvE
      exact hret _ _ (nI 0) () _ _ hP hD hS (by decide) (by rw [hh]; rfl) dX6_areAsked_37
    · exact absurd c_2 (by omega)
  · skip
    have hh0 := c_1
    refine lv_aload_n hx hb dX6_areAsked_9 rfl (lv_at hl 0 rfl) ?_
    refine lv_iload_n hx hb dX6_areAsked_10 rfl (lv_at hl 2 rfl) ?_
    refine run_i (S := Unit) (run_V (As := [.int p1]) (rest := [.ref (b 0)]) (bs := [moC E b z g gs ar]) (cb := [moC E b z g gs ar]) hx hb hml hown hts hK hZ hA (c_X6_isMember l E _ b z g gs ar  p1 hmc) l_X6_92 rfl ⟨⟨rfl, rfl⟩, Nat.le_of_ble_eq_true rfl, Nat.le_of_ble_eq_true rfl⟩ 10 rfl [0] rfl (by decide) rfl hP hD hS hl.1 rfl (Nat.le_of_ble_eq_true rfl) dX6_areAsked_11 ⟨Nat.zero_le _, Nat.zero_le _⟩) hA hP hD hS (isC := [0]) rfl [] [0] (br := []) (bs2 := fun _ => [moC E b z g gs ar]) rfl (by decide) (fun _ => rfl) (by decide) (fun r u H locs hw hP hD hS => ?_)
    subst hw
    refine bv_if_eq hx hb (tgt := 21) dX6_areAsked_14 (by decide) (fun c_3 => ?_) (fun c_3 => ?_)
    · skip
      have hh : (hasM g p0 && hasM g p1) = false := by rw [hh0, c_3]; rfl
      refine lv_iconst (v := nI 1) hx hb dX6_areAsked_21 (by decide) ?_
      refine va_put (D := E.1) (ci := 10) (v := .int (nI 1)) (ty := .int) (C := RX6) (T := TX6) (N := 20) hx hb hts inX6 tyX6 tyX6_ok nmX6 hown hK hP hD hS 0 rfl rfl 0 (by decide) (hts _ q1434) (fun _ h9 => h9) rfl (by decide +kernel) rfl rfl (Nat.le_of_ble_eq_true rfl) dX6_areAsked_22 (fun H locs hP hD hS => ?_)
      have hP : va_P E.1 vwCl ([moC E b (upn z 0 1) g gs ar] : List va_W).flatten H := hP
      have hD : va_D A ([moC E b (upn z 0 1) g gs ar] : List va_W).flatten := hD
      refine lv_aload_n hx hb dX6_areAsked_25 rfl (lv_at hl 0 rfl) ?_
      refine va_get (D := E.1) (ci := 10) (v := .int (nI 1)) (C := RX6) (T := TX6) (N := 20) hx hb hts inX6 hown hK hP 0 rfl rfl 0 (by decide) (hts _ q1434) (fun _ h9 => h9) rfl dX6_areAsked_26 ?_
      refine nv_if_ne (X := ((1 : Nat) : Int)) hx hb (nI_toInt (by omega)) (tgt := 36) dX6_areAsked_29 (by decide) (fun c_4 => ?_) (fun c_4 => ?_)
      · skip
        refine lv_iconst (v := nI 0) hx hb dX6_areAsked_36 (by decide) ?_
        have hvE : (if (hasM g p0 && hasM g p1) = true then 0 else 1) = 1 := by rw [hh]; rfl
        have hP : va_P E.1 vwCl ([moC E b (upn z 0 (if (hasM g p0 && hasM g p1) = true then 0 else 1)) g gs ar] : List va_W).flatten H := by rw [hvE]; exact hP
        have hD : va_D A ([moC E b (upn z 0 (if (hasM g p0 && hasM g p1) = true then 0 else 1)) g gs ar] : List va_W).flatten := by rw [hvE]; exact hD
        clear hvE
        exact hret _ _ (nI 0) () _ _ hP hD hS (by decide) (by rw [hh]; rfl) dX6_areAsked_37
      · exact absurd c_4 (by omega)
    · skip
      have hh : (hasM g p0 && hasM g p1) = true := by rw [hh0, c_3]; rfl
      refine lv_iconst (v := nI 0) hx hb dX6_areAsked_17 (by decide) ?_
      refine lv_goto (tgt := 22) hx hb dX6_areAsked_18 (by decide) ?_
      refine va_put (D := E.1) (ci := 10) (v := .int (nI 0)) (ty := .int) (C := RX6) (T := TX6) (N := 20) hx hb hts inX6 tyX6 tyX6_ok nmX6 hown hK hP hD hS 0 rfl rfl 0 (by decide) (hts _ q1434) (fun _ h9 => h9) rfl (by decide +kernel) rfl rfl (Nat.le_of_ble_eq_true rfl) dX6_areAsked_22 (fun H locs hP hD hS => ?_)
      have hP : va_P E.1 vwCl ([moC E b (upn z 0 0) g gs ar] : List va_W).flatten H := hP
      have hD : va_D A ([moC E b (upn z 0 0) g gs ar] : List va_W).flatten := hD
      refine lv_aload_n hx hb dX6_areAsked_25 rfl (lv_at hl 0 rfl) ?_
      refine va_get (D := E.1) (ci := 10) (v := .int (nI 0)) (C := RX6) (T := TX6) (N := 20) hx hb hts inX6 hown hK hP 0 rfl rfl 0 (by decide) (hts _ q1434) (fun _ h9 => h9) rfl dX6_areAsked_26 ?_
      refine nv_if_ne (X := ((0 : Nat) : Int)) hx hb (nI_toInt (by omega)) (tgt := 36) dX6_areAsked_29 (by decide) (fun c_5 => ?_) (fun c_5 => ?_)
      · exact absurd c_5 (by omega)
      · skip
        refine lv_iconst (v := nI 1) hx hb dX6_areAsked_32 (by decide) ?_
        refine lv_goto (tgt := 37) hx hb dX6_areAsked_33 (by decide) ?_
        have hvE : (if (hasM g p0 && hasM g p1) = true then 0 else 1) = 0 := by rw [hh]; rfl
        have hP : va_P E.1 vwCl ([moC E b (upn z 0 (if (hasM g p0 && hasM g p1) = true then 0 else 1)) g gs ar] : List va_W).flatten H := by rw [hvE]; exact hP
        have hD : va_D A ([moC E b (upn z 0 (if (hasM g p0 && hasM g p1) = true then 0 else 1)) g gs ar] : List va_W).flatten := by rw [hvE]; exact hD
        clear hvE
        exact hret _ _ (nI 1) () _ _ hP hD hS (by decide) (by rw [hh]; rfl) dX6_areAsked_37
abbrev rm_X6_shares : Room := { frames := 3, cells := 0, slots := 0, locals := 64 }
set_option maxHeartbeats 4000000 in
set_option maxRecDepth 100000 in
theorem c_X6_shares (l : Launch) (E : EE) (sz : Nat) (b : Nat → Nat) (z : Nat → Nat) (g : GG) (gs : Nat → GG) (ar : GG) (p0 : Int32) (hm : g 8 0 ≤ 8) : MI l yX6_shares cX6_shares 2 .int rm_X6_shares [.ref (b 0), .int p0] E sz [moC E b z g gs ar] (fun (r : Int32) (_ : Unit) => r = nI (if hasM g p0 = true then g 0 (tn p0) else 0)) (fun _ => [moC E b (upn z 0 (if hasM g p0 = true then 0 else 1)) g gs ar]) 0 0 := by
  refine mi_go (by decide) (Nat.le_of_ble_eq_true rfl) ?_
  intro p e s m below meth c A Q ls hx hb hml hown hts hK hZ hA hsz hP hD hl hret
  have hS : va_S A s.heap s.heap [] := va_S.rf
  have hl : lv_has ls 2 [(0, .ref (b 0)), (1, .int p0)] := hl
  skip
  have hmc := hm
  refine lv_aload_n hx hb dX6_shares_0 rfl (lv_at hl 0 rfl) ?_
  refine lv_iload_n hx hb dX6_shares_1 rfl (lv_at hl 1 rfl) ?_
  refine run_i (S := Unit) (run_V (As := [.int p0]) (rest := []) (bs := [moC E b z g gs ar]) (cb := [moC E b z g gs ar]) hx hb hml hown hts hK hZ hA (c_X6_isAsked l E _ b z g gs ar  p0 hmc) l_X6_133 rfl ⟨⟨rfl, rfl⟩, Nat.le_of_ble_eq_true rfl, Nat.le_of_ble_eq_true rfl⟩ 10 rfl [0] rfl (by decide) rfl hP hD hS hl.1 rfl (Nat.le_of_ble_eq_true rfl) dX6_shares_2 ⟨Nat.zero_le _, Nat.zero_le _⟩) hA hP hD hS (isC := [0]) rfl [] [0] (br := []) (bs2 := fun _ => [moC E b (upn z 0 (if hasM g p0 = true then 0 else 1)) g gs ar]) rfl (by decide) (fun _ => rfl) (by decide) (fun r u H locs hw hP hD hS => ?_)
  subst hw
  refine bv_if_eq hx hb (tgt := 17) dX6_shares_5 (by decide) (fun c_1 => ?_) (fun c_1 => ?_)
  · skip
    have hh := c_1
    refine lv_iconst (v := nI 0) hx hb dX6_shares_17 (by decide) ?_
    exact hret _ _ (nI 0) () _ _ hP hD hS rfl (by rw [if_neg (by rw [hh]; decide)]) dX6_shares_18
  · skip
    have hh := c_1
    have hh1 := of_decide_eq_true (show decide (0 ≤ p0.toInt ∧ p0.toInt < (g 8 0 : Int)) = true from hh)
    obtain ⟨m0, hm0, rfl, em0⟩ := raw_n (x := p0) (by omega)
    refine lv_aload_n hx hb dX6_shares_8 rfl (lv_at hl 0 rfl) ?_
    refine lv_iload_n hx hb dX6_shares_9 rfl (lv_at hl 1 rfl) ?_
    refine lv_iconst (v := nI 0) hx hb dX6_shares_10 (by decide) ?_
    refine run_i (S := Unit) (run_V (As := [.int (nI m0), .int (nI 0)]) (rest := []) (bs := [moC E b (upn z 0 (if hasM g (nI m0) = true then 0 else 1)) g gs ar]) (cb := [moC E b (upn z 0 (if hasM g (nI m0) = true then 0 else 1)) g gs ar]) hx hb hml hown hts hK hZ hA (c_X6_of l E _ b (upn z 0 (if hasM g (nI m0) = true then 0 else 1)) g gs ar  m0 0 (by omega) (by decide)) l_X6_65 rfl ⟨⟨rfl, rfl⟩, Nat.le_of_ble_eq_true rfl, Nat.le_of_ble_eq_true rfl⟩ 10 rfl [0] rfl (by decide) rfl hP hD hS hl.1 rfl (Nat.le_of_ble_eq_true rfl) dX6_shares_11 ⟨Nat.zero_le _, Nat.zero_le _⟩) hA hP hD hS (isC := [0]) rfl [] [0] (br := []) (bs2 := fun _ => [moC E b (upn z 0 (if hasM g (nI m0) = true then 0 else 1)) g gs ar]) rfl (by decide) (fun _ => rfl) (by decide) (fun r u H locs hw hP hD hS => ?_)
    subst hw
    refine lv_goto (tgt := 18) hx hb dX6_shares_14 (by decide) ?_
    exact hret _ _ (nI (g 0 m0)) () _ _ hP hD hS rfl (by rw [if_pos hh, tn_nI hm0]) dX6_shares_18
abbrev rm_X6_spring : Room := { frames := 3, cells := 0, slots := 0, locals := 64 }
set_option maxHeartbeats 4000000 in
set_option maxRecDepth 100000 in
theorem c_X6_spring (l : Launch) (E : EE) (sz : Nat) (b : Nat → Nat) (z : Nat → Nat) (g : GG) (gs : Nat → GG) (ar : GG) (p0 : Int32) (hm : g 8 0 ≤ 8) : MI l yX6_spring cX6_spring 2 .int rm_X6_spring [.ref (b 0), .int p0] E sz [moC E b z g gs ar] (fun (r : Int32) (_ : Unit) => r = nI (if hasM g p0 = true then g 4 (tn p0) else 0)) (fun _ => [moC E b (upn z 0 (if hasM g p0 = true then 0 else 1)) g gs ar]) 0 0 := by
  refine mi_go (by decide) (Nat.le_of_ble_eq_true rfl) ?_
  intro p e s m below meth c A Q ls hx hb hml hown hts hK hZ hA hsz hP hD hl hret
  have hS : va_S A s.heap s.heap [] := va_S.rf
  have hl : lv_has ls 2 [(0, .ref (b 0)), (1, .int p0)] := hl
  skip
  have hmc := hm
  refine lv_aload_n hx hb dX6_spring_0 rfl (lv_at hl 0 rfl) ?_
  refine lv_iload_n hx hb dX6_spring_1 rfl (lv_at hl 1 rfl) ?_
  refine run_i (S := Unit) (run_V (As := [.int p0]) (rest := []) (bs := [moC E b z g gs ar]) (cb := [moC E b z g gs ar]) hx hb hml hown hts hK hZ hA (c_X6_isAsked l E _ b z g gs ar  p0 hmc) l_X6_133 rfl ⟨⟨rfl, rfl⟩, Nat.le_of_ble_eq_true rfl, Nat.le_of_ble_eq_true rfl⟩ 10 rfl [0] rfl (by decide) rfl hP hD hS hl.1 rfl (Nat.le_of_ble_eq_true rfl) dX6_spring_2 ⟨Nat.zero_le _, Nat.zero_le _⟩) hA hP hD hS (isC := [0]) rfl [] [0] (br := []) (bs2 := fun _ => [moC E b (upn z 0 (if hasM g p0 = true then 0 else 1)) g gs ar]) rfl (by decide) (fun _ => rfl) (by decide) (fun r u H locs hw hP hD hS => ?_)
  subst hw
  refine bv_if_eq hx hb (tgt := 17) dX6_spring_5 (by decide) (fun c_1 => ?_) (fun c_1 => ?_)
  · skip
    have hh := c_1
    refine lv_iconst (v := nI 0) hx hb dX6_spring_17 (by decide) ?_
    exact hret _ _ (nI 0) () _ _ hP hD hS rfl (by rw [if_neg (by rw [hh]; decide)]) dX6_spring_18
  · skip
    have hh := c_1
    have hh1 := of_decide_eq_true (show decide (0 ≤ p0.toInt ∧ p0.toInt < (g 8 0 : Int)) = true from hh)
    obtain ⟨m0, hm0, rfl, em0⟩ := raw_n (x := p0) (by omega)
    refine lv_aload_n hx hb dX6_spring_8 rfl (lv_at hl 0 rfl) ?_
    refine lv_iload_n hx hb dX6_spring_9 rfl (lv_at hl 1 rfl) ?_
    refine lv_iconst (v := nI 4) hx hb dX6_spring_10 (by decide) ?_
    refine run_i (S := Unit) (run_V (As := [.int (nI m0), .int (nI 4)]) (rest := []) (bs := [moC E b (upn z 0 (if hasM g (nI m0) = true then 0 else 1)) g gs ar]) (cb := [moC E b (upn z 0 (if hasM g (nI m0) = true then 0 else 1)) g gs ar]) hx hb hml hown hts hK hZ hA (c_X6_of l E _ b (upn z 0 (if hasM g (nI m0) = true then 0 else 1)) g gs ar  m0 4 (by omega) (by decide)) l_X6_65 rfl ⟨⟨rfl, rfl⟩, Nat.le_of_ble_eq_true rfl, Nat.le_of_ble_eq_true rfl⟩ 10 rfl [0] rfl (by decide) rfl hP hD hS hl.1 rfl (Nat.le_of_ble_eq_true rfl) dX6_spring_11 ⟨Nat.zero_le _, Nat.zero_le _⟩) hA hP hD hS (isC := [0]) rfl [] [0] (br := []) (bs2 := fun _ => [moC E b (upn z 0 (if hasM g (nI m0) = true then 0 else 1)) g gs ar]) rfl (by decide) (fun _ => rfl) (by decide) (fun r u H locs hw hP hD hS => ?_)
    subst hw
    refine lv_goto (tgt := 18) hx hb dX6_spring_14 (by decide) ?_
    exact hret _ _ (nI (g 4 m0)) () _ _ hP hD hS rfl (by rw [if_pos hh, tn_nI hm0]) dX6_spring_18
abbrev rm_X6_tone : Room := { frames := 3, cells := 0, slots := 0, locals := 64 }
set_option maxHeartbeats 4000000 in
set_option maxRecDepth 100000 in
theorem c_X6_tone (l : Launch) (E : EE) (sz : Nat) (b : Nat → Nat) (z : Nat → Nat) (g : GG) (gs : Nat → GG) (ar : GG) (p0 : Int32) (hm : g 8 0 ≤ 8) : MI l yX6_tone cX6_tone 2 .int rm_X6_tone [.ref (b 0), .int p0] E sz [moC E b z g gs ar] (fun (r : Int32) (_ : Unit) => r = nI (if hasM g p0 = true then g 3 (tn p0) else 0)) (fun _ => [moC E b (upn z 0 (if hasM g p0 = true then 0 else 1)) g gs ar]) 0 0 := by
  refine mi_go (by decide) (Nat.le_of_ble_eq_true rfl) ?_
  intro p e s m below meth c A Q ls hx hb hml hown hts hK hZ hA hsz hP hD hl hret
  have hS : va_S A s.heap s.heap [] := va_S.rf
  have hl : lv_has ls 2 [(0, .ref (b 0)), (1, .int p0)] := hl
  skip
  have hmc := hm
  refine lv_aload_n hx hb dX6_tone_0 rfl (lv_at hl 0 rfl) ?_
  refine lv_iload_n hx hb dX6_tone_1 rfl (lv_at hl 1 rfl) ?_
  refine run_i (S := Unit) (run_V (As := [.int p0]) (rest := []) (bs := [moC E b z g gs ar]) (cb := [moC E b z g gs ar]) hx hb hml hown hts hK hZ hA (c_X6_isAsked l E _ b z g gs ar  p0 hmc) l_X6_133 rfl ⟨⟨rfl, rfl⟩, Nat.le_of_ble_eq_true rfl, Nat.le_of_ble_eq_true rfl⟩ 10 rfl [0] rfl (by decide) rfl hP hD hS hl.1 rfl (Nat.le_of_ble_eq_true rfl) dX6_tone_2 ⟨Nat.zero_le _, Nat.zero_le _⟩) hA hP hD hS (isC := [0]) rfl [] [0] (br := []) (bs2 := fun _ => [moC E b (upn z 0 (if hasM g p0 = true then 0 else 1)) g gs ar]) rfl (by decide) (fun _ => rfl) (by decide) (fun r u H locs hw hP hD hS => ?_)
  subst hw
  refine bv_if_eq hx hb (tgt := 17) dX6_tone_5 (by decide) (fun c_1 => ?_) (fun c_1 => ?_)
  · skip
    have hh := c_1
    refine lv_iconst (v := nI 0) hx hb dX6_tone_17 (by decide) ?_
    exact hret _ _ (nI 0) () _ _ hP hD hS rfl (by rw [if_neg (by rw [hh]; decide)]) dX6_tone_18
  · skip
    have hh := c_1
    have hh1 := of_decide_eq_true (show decide (0 ≤ p0.toInt ∧ p0.toInt < (g 8 0 : Int)) = true from hh)
    obtain ⟨m0, hm0, rfl, em0⟩ := raw_n (x := p0) (by omega)
    refine lv_aload_n hx hb dX6_tone_8 rfl (lv_at hl 0 rfl) ?_
    refine lv_iload_n hx hb dX6_tone_9 rfl (lv_at hl 1 rfl) ?_
    refine lv_iconst (v := nI 3) hx hb dX6_tone_10 (by decide) ?_
    refine run_i (S := Unit) (run_V (As := [.int (nI m0), .int (nI 3)]) (rest := []) (bs := [moC E b (upn z 0 (if hasM g (nI m0) = true then 0 else 1)) g gs ar]) (cb := [moC E b (upn z 0 (if hasM g (nI m0) = true then 0 else 1)) g gs ar]) hx hb hml hown hts hK hZ hA (c_X6_of l E _ b (upn z 0 (if hasM g (nI m0) = true then 0 else 1)) g gs ar  m0 3 (by omega) (by decide)) l_X6_65 rfl ⟨⟨rfl, rfl⟩, Nat.le_of_ble_eq_true rfl, Nat.le_of_ble_eq_true rfl⟩ 10 rfl [0] rfl (by decide) rfl hP hD hS hl.1 rfl (Nat.le_of_ble_eq_true rfl) dX6_tone_11 ⟨Nat.zero_le _, Nat.zero_le _⟩) hA hP hD hS (isC := [0]) rfl [] [0] (br := []) (bs2 := fun _ => [moC E b (upn z 0 (if hasM g (nI m0) = true then 0 else 1)) g gs ar]) rfl (by decide) (fun _ => rfl) (by decide) (fun r u H locs hw hP hD hS => ?_)
    subst hw
    refine lv_goto (tgt := 18) hx hb dX6_tone_14 (by decide) ?_
    exact hret _ _ (nI (g 3 m0)) () _ _ hP hD hS rfl (by rw [if_pos hh, tn_nI hm0]) dX6_tone_18
abbrev rm_X6_purse : Room := { frames := 3, cells := 0, slots := 0, locals := 64 }
set_option maxHeartbeats 4000000 in
set_option maxRecDepth 100000 in
theorem c_X6_purse (l : Launch) (E : EE) (sz : Nat) (b : Nat → Nat) (z : Nat → Nat) (g : GG) (gs : Nat → GG) (ar : GG) (p0 : Int32) (hm : g 8 0 ≤ 8) : MI l yX6_purse cX6_purse 2 .int rm_X6_purse [.ref (b 0), .int p0] E sz [moC E b z g gs ar] (fun (r : Int32) (_ : Unit) => r = nI (if hasM g p0 = true then g 5 (tn p0) else 0)) (fun _ => [moC E b (upn z 0 (if hasM g p0 = true then 0 else 1)) g gs ar]) 0 0 := by
  refine mi_go (by decide) (Nat.le_of_ble_eq_true rfl) ?_
  intro p e s m below meth c A Q ls hx hb hml hown hts hK hZ hA hsz hP hD hl hret
  have hS : va_S A s.heap s.heap [] := va_S.rf
  have hl : lv_has ls 2 [(0, .ref (b 0)), (1, .int p0)] := hl
  skip
  have hmc := hm
  refine lv_aload_n hx hb dX6_purse_0 rfl (lv_at hl 0 rfl) ?_
  refine lv_iload_n hx hb dX6_purse_1 rfl (lv_at hl 1 rfl) ?_
  refine run_i (S := Unit) (run_V (As := [.int p0]) (rest := []) (bs := [moC E b z g gs ar]) (cb := [moC E b z g gs ar]) hx hb hml hown hts hK hZ hA (c_X6_isAsked l E _ b z g gs ar  p0 hmc) l_X6_133 rfl ⟨⟨rfl, rfl⟩, Nat.le_of_ble_eq_true rfl, Nat.le_of_ble_eq_true rfl⟩ 10 rfl [0] rfl (by decide) rfl hP hD hS hl.1 rfl (Nat.le_of_ble_eq_true rfl) dX6_purse_2 ⟨Nat.zero_le _, Nat.zero_le _⟩) hA hP hD hS (isC := [0]) rfl [] [0] (br := []) (bs2 := fun _ => [moC E b (upn z 0 (if hasM g p0 = true then 0 else 1)) g gs ar]) rfl (by decide) (fun _ => rfl) (by decide) (fun r u H locs hw hP hD hS => ?_)
  subst hw
  refine bv_if_eq hx hb (tgt := 17) dX6_purse_5 (by decide) (fun c_1 => ?_) (fun c_1 => ?_)
  · skip
    have hh := c_1
    refine lv_iconst (v := nI 0) hx hb dX6_purse_17 (by decide) ?_
    exact hret _ _ (nI 0) () _ _ hP hD hS rfl (by rw [if_neg (by rw [hh]; decide)]) dX6_purse_18
  · skip
    have hh := c_1
    have hh1 := of_decide_eq_true (show decide (0 ≤ p0.toInt ∧ p0.toInt < (g 8 0 : Int)) = true from hh)
    obtain ⟨m0, hm0, rfl, em0⟩ := raw_n (x := p0) (by omega)
    refine lv_aload_n hx hb dX6_purse_8 rfl (lv_at hl 0 rfl) ?_
    refine lv_iload_n hx hb dX6_purse_9 rfl (lv_at hl 1 rfl) ?_
    refine lv_iconst (v := nI 5) hx hb dX6_purse_10 (by decide) ?_
    refine run_i (S := Unit) (run_V (As := [.int (nI m0), .int (nI 5)]) (rest := []) (bs := [moC E b (upn z 0 (if hasM g (nI m0) = true then 0 else 1)) g gs ar]) (cb := [moC E b (upn z 0 (if hasM g (nI m0) = true then 0 else 1)) g gs ar]) hx hb hml hown hts hK hZ hA (c_X6_of l E _ b (upn z 0 (if hasM g (nI m0) = true then 0 else 1)) g gs ar  m0 5 (by omega) (by decide)) l_X6_65 rfl ⟨⟨rfl, rfl⟩, Nat.le_of_ble_eq_true rfl, Nat.le_of_ble_eq_true rfl⟩ 10 rfl [0] rfl (by decide) rfl hP hD hS hl.1 rfl (Nat.le_of_ble_eq_true rfl) dX6_purse_11 ⟨Nat.zero_le _, Nat.zero_le _⟩) hA hP hD hS (isC := [0]) rfl [] [0] (br := []) (bs2 := fun _ => [moC E b (upn z 0 (if hasM g (nI m0) = true then 0 else 1)) g gs ar]) rfl (by decide) (fun _ => rfl) (by decide) (fun r u H locs hw hP hD hS => ?_)
    subst hw
    refine lv_goto (tgt := 18) hx hb dX6_purse_14 (by decide) ?_
    exact hret _ _ (nI (g 5 m0)) () _ _ hP hD hS rfl (by rw [if_pos hh, tn_nI hm0]) dX6_purse_18
abbrev rm_X6_dissents : Room := { frames := 3, cells := 0, slots := 0, locals := 64 }
set_option maxHeartbeats 4000000 in
set_option maxRecDepth 100000 in
theorem c_X6_dissents (l : Launch) (E : EE) (sz : Nat) (b : Nat → Nat) (z : Nat → Nat) (g : GG) (gs : Nat → GG) (ar : GG) (p0 : Int32) (hm : g 8 0 ≤ 8) : MI l yX6_dissents cX6_dissents 2 .int rm_X6_dissents [.ref (b 0), .int p0] E sz [moC E b z g gs ar] (fun (r : Int32) (_ : Unit) => r = nI (if hasM g p0 = true then g 6 (tn p0) else 0)) (fun _ => [moC E b (upn z 0 (if hasM g p0 = true then 0 else 1)) g gs ar]) 0 0 := by
  refine mi_go (by decide) (Nat.le_of_ble_eq_true rfl) ?_
  intro p e s m below meth c A Q ls hx hb hml hown hts hK hZ hA hsz hP hD hl hret
  have hS : va_S A s.heap s.heap [] := va_S.rf
  have hl : lv_has ls 2 [(0, .ref (b 0)), (1, .int p0)] := hl
  skip
  have hmc := hm
  refine lv_aload_n hx hb dX6_dissents_0 rfl (lv_at hl 0 rfl) ?_
  refine lv_iload_n hx hb dX6_dissents_1 rfl (lv_at hl 1 rfl) ?_
  refine run_i (S := Unit) (run_V (As := [.int p0]) (rest := []) (bs := [moC E b z g gs ar]) (cb := [moC E b z g gs ar]) hx hb hml hown hts hK hZ hA (c_X6_isAsked l E _ b z g gs ar  p0 hmc) l_X6_133 rfl ⟨⟨rfl, rfl⟩, Nat.le_of_ble_eq_true rfl, Nat.le_of_ble_eq_true rfl⟩ 10 rfl [0] rfl (by decide) rfl hP hD hS hl.1 rfl (Nat.le_of_ble_eq_true rfl) dX6_dissents_2 ⟨Nat.zero_le _, Nat.zero_le _⟩) hA hP hD hS (isC := [0]) rfl [] [0] (br := []) (bs2 := fun _ => [moC E b (upn z 0 (if hasM g p0 = true then 0 else 1)) g gs ar]) rfl (by decide) (fun _ => rfl) (by decide) (fun r u H locs hw hP hD hS => ?_)
  subst hw
  refine bv_if_eq hx hb (tgt := 18) dX6_dissents_5 (by decide) (fun c_1 => ?_) (fun c_1 => ?_)
  · skip
    have hh := c_1
    refine lv_iconst (v := nI 0) hx hb dX6_dissents_18 (by decide) ?_
    exact hret _ _ (nI 0) () _ _ hP hD hS rfl (by rw [if_neg (by rw [hh]; decide)]) dX6_dissents_19
  · skip
    have hh := c_1
    have hh1 := of_decide_eq_true (show decide (0 ≤ p0.toInt ∧ p0.toInt < (g 8 0 : Int)) = true from hh)
    obtain ⟨m0, hm0, rfl, em0⟩ := raw_n (x := p0) (by omega)
    refine lv_aload_n hx hb dX6_dissents_8 rfl (lv_at hl 0 rfl) ?_
    refine lv_iload_n hx hb dX6_dissents_9 rfl (lv_at hl 1 rfl) ?_
    refine lv_bipush (v := nI 6) hx hb dX6_dissents_10 (by decide) ?_
    refine run_i (S := Unit) (run_V (As := [.int (nI m0), .int (nI 6)]) (rest := []) (bs := [moC E b (upn z 0 (if hasM g (nI m0) = true then 0 else 1)) g gs ar]) (cb := [moC E b (upn z 0 (if hasM g (nI m0) = true then 0 else 1)) g gs ar]) hx hb hml hown hts hK hZ hA (c_X6_of l E _ b (upn z 0 (if hasM g (nI m0) = true then 0 else 1)) g gs ar  m0 6 (by omega) (by decide)) l_X6_65 rfl ⟨⟨rfl, rfl⟩, Nat.le_of_ble_eq_true rfl, Nat.le_of_ble_eq_true rfl⟩ 10 rfl [0] rfl (by decide) rfl hP hD hS hl.1 rfl (Nat.le_of_ble_eq_true rfl) dX6_dissents_12 ⟨Nat.zero_le _, Nat.zero_le _⟩) hA hP hD hS (isC := [0]) rfl [] [0] (br := []) (bs2 := fun _ => [moC E b (upn z 0 (if hasM g (nI m0) = true then 0 else 1)) g gs ar]) rfl (by decide) (fun _ => rfl) (by decide) (fun r u H locs hw hP hD hS => ?_)
    subst hw
    refine lv_goto (tgt := 19) hx hb dX6_dissents_15 (by decide) ?_
    exact hret _ _ (nI (g 6 m0)) () _ _ hP hD hS rfl (by rw [if_pos hh, tn_nI hm0]) dX6_dissents_19
abbrev rm_X6_dividend : Room := { frames := 3, cells := 0, slots := 0, locals := 71 }
set_option maxHeartbeats 4000000 in
set_option maxRecDepth 100000 in
theorem c_X6_dividend (l : Launch) (E : EE) (sz : Nat) (b : Nat → Nat) (z : Nat → Nat) (g : GG) (gs : Nat → GG) (ar : GG) (B : Nat) (hI : IB B g) (p0 : Int32)  : MI l yX6_dividend cX6_dividend 2 .int rm_X6_dividend [.ref (b 0), .int p0] E sz [moC E b z g gs ar] (fun (r : Int32) (_ : Unit) => r = nI (if hasM g p0 = true then dv g (tn p0) else 0)) (fun _ => [moC E b (upn z 0 (if hasM g p0 = true then 0 else 1)) g gs ar]) 0 0 := by
  refine mi_go (by decide) (Nat.le_of_ble_eq_true rfl) ?_
  intro p e s m below meth c A Q ls hx hb hml hown hts hK hZ hA hsz hP hD hl hret
  have hS : va_S A s.heap s.heap [] := va_S.rf
  have hl : lv_has ls 2 [(0, .ref (b 0)), (1, .int p0)] := hl
  skip
  have hmc := hI.mc
  have hbu := hI.bud
  refine lv_aload_n hx hb dX6_dividend_0 rfl (lv_at hl 0 rfl) ?_
  refine lv_iload_n hx hb dX6_dividend_1 rfl (lv_at hl 1 rfl) ?_
  refine run_i (S := Unit) (run_V (As := [.int p0]) (rest := []) (bs := [moC E b z g gs ar]) (cb := [moC E b z g gs ar]) hx hb hml hown hts hK hZ hA (c_X6_isAsked l E _ b z g gs ar  p0 hmc) l_X6_133 rfl ⟨⟨rfl, rfl⟩, Nat.le_of_ble_eq_true rfl, Nat.le_of_ble_eq_true rfl⟩ 10 rfl [0] rfl (by decide) rfl hP hD hS hl.1 rfl (Nat.le_of_ble_eq_true rfl) dX6_dividend_2 ⟨Nat.zero_le _, Nat.zero_le _⟩) hA hP hD hS (isC := [0]) rfl [] [0] (br := []) (bs2 := fun _ => [moC E b (upn z 0 (if hasM g p0 = true then 0 else 1)) g gs ar]) rfl (by decide) (fun _ => rfl) (by decide) (fun r u H locs hw hP hD hS => ?_)
  subst hw
  refine bv_if_eq hx hb (tgt := 16) dX6_dividend_5 (by decide) (fun c_1 => ?_) (fun c_1 => ?_)
  · skip
    have hh := c_1
    refine lv_iconst (v := nI 0) hx hb dX6_dividend_16 (by decide) ?_
    exact hret _ _ (nI 0) () _ _ hP hD hS rfl (by rw [if_neg (by rw [hh]; decide)]) dX6_dividend_17
  · skip
    have hh := c_1
    have hh1 := of_decide_eq_true (show decide (0 ≤ p0.toInt ∧ p0.toInt < (g 8 0 : Int)) = true from hh)
    obtain ⟨m0, hm0, rfl, em0⟩ := raw_n (x := p0) (by omega)
    refine lv_aload_n hx hb dX6_dividend_8 rfl (lv_at hl 0 rfl) ?_
    refine lv_iload_n hx hb dX6_dividend_9 rfl (lv_at hl 1 rfl) ?_
    refine run_i (S := Unit) (run_V (As := [.int (nI m0)]) (rest := []) (bs := [moC E b (upn z 0 (if hasM g (nI m0) = true then 0 else 1)) g gs ar]) (cb := [moC E b (upn z 0 (if hasM g (nI m0) = true then 0 else 1)) g gs ar]) hx hb hml hown hts hK hZ hA (c_X6_due l E _ b (upn z 0 (if hasM g (nI m0) = true then 0 else 1)) g gs ar hI.ic m0 (by omega)) l_X6_99 rfl ⟨⟨rfl, rfl⟩, Nat.le_of_ble_eq_true rfl, Nat.le_of_ble_eq_true rfl⟩ 10 rfl [0] rfl (by decide) rfl hP hD hS hl.1 rfl (Nat.le_of_ble_eq_true rfl) dX6_dividend_10 ⟨Nat.zero_le _, Nat.zero_le _⟩) hA hP hD hS (isC := [0]) rfl [] [0] (br := []) (bs2 := fun _ => [moC E b (upn z 0 (if hasM g (nI m0) = true then 0 else 1)) g gs ar]) rfl (by decide) (fun _ => rfl) (by decide) (fun r u H locs hw hP hD hS => ?_)
    subst hw
    refine lv_goto (tgt := 17) hx hb dX6_dividend_13 (by decide) ?_
    exact hret _ _ (nI (dv g m0)) () _ _ hP hD hS rfl (by rw [if_pos hh, tn_nI hm0]) dX6_dividend_17
abbrev rm_X6_power : Room := { frames := 4, cells := 0, slots := 0, locals := 88 }
set_option maxHeartbeats 4000000 in
set_option maxRecDepth 100000 in
theorem c_X6_power (l : Launch) (E : EE) (sz : Nat) (b : Nat → Nat) (z : Nat → Nat) (g : GG) (gs : Nat → GG) (ar : GG) (B : Nat) (hI : IB B g) (p0 : Int32)  : MI l yX6_power cX6_power 2 .int rm_X6_power [.ref (b 0), .int p0] E sz [moC E b z g gs ar] (fun (r : Int32) (_ : Unit) => r = nI (if hasM g p0 = true then powN g (tn p0) else 0)) (fun _ => [moC E b (upn z 0 (if hasM g p0 = true then 0 else 1)) g gs ar]) 0 0 := by
  refine mi_go (by decide) (Nat.le_of_ble_eq_true rfl) ?_
  intro p e s m below meth c A Q ls hx hb hml hown hts hK hZ hA hsz hP hD hl hret
  have hS : va_S A s.heap s.heap [] := va_S.rf
  have hl : lv_has ls 2 [(0, .ref (b 0)), (1, .int p0)] := hl
  skip
  have hmc := hI.mc
  have hbu := hI.bud
  refine lv_aload_n hx hb dX6_power_0 rfl (lv_at hl 0 rfl) ?_
  refine lv_iload_n hx hb dX6_power_1 rfl (lv_at hl 1 rfl) ?_
  refine run_i (S := Unit) (run_V (As := [.int p0]) (rest := []) (bs := [moC E b z g gs ar]) (cb := [moC E b z g gs ar]) hx hb hml hown hts hK hZ hA (c_X6_isAsked l E _ b z g gs ar  p0 hmc) l_X6_133 rfl ⟨⟨rfl, rfl⟩, Nat.le_of_ble_eq_true rfl, Nat.le_of_ble_eq_true rfl⟩ 10 rfl [0] rfl (by decide) rfl hP hD hS hl.1 rfl (Nat.le_of_ble_eq_true rfl) dX6_power_2 ⟨Nat.zero_le _, Nat.zero_le _⟩) hA hP hD hS (isC := [0]) rfl [] [0] (br := []) (bs2 := fun _ => [moC E b (upn z 0 (if hasM g p0 = true then 0 else 1)) g gs ar]) rfl (by decide) (fun _ => rfl) (by decide) (fun r u H locs hw hP hD hS => ?_)
  subst hw
  refine bv_if_eq hx hb (tgt := 16) dX6_power_5 (by decide) (fun c_1 => ?_) (fun c_1 => ?_)
  · skip
    have hh := c_1
    refine lv_iconst (v := nI 0) hx hb dX6_power_16 (by decide) ?_
    exact hret _ _ (nI 0) () _ _ hP hD hS rfl (by rw [if_neg (by rw [hh]; decide)]) dX6_power_17
  · skip
    have hh := c_1
    have hh1 := of_decide_eq_true (show decide (0 ≤ p0.toInt ∧ p0.toInt < (g 8 0 : Int)) = true from hh)
    obtain ⟨m0, hm0, rfl, em0⟩ := raw_n (x := p0) (by omega)
    refine lv_aload_n hx hb dX6_power_8 rfl (lv_at hl 0 rfl) ?_
    refine lv_iload_n hx hb dX6_power_9 rfl (lv_at hl 1 rfl) ?_
    refine run_i (S := Unit) (run_V (As := [.int (nI m0)]) (rest := []) (bs := [moC E b (upn z 0 (if hasM g (nI m0) = true then 0 else 1)) g gs ar]) (cb := [moC E b (upn z 0 (if hasM g (nI m0) = true then 0 else 1)) g gs ar]) hx hb hml hown hts hK hZ hA (c_X6_decisive l E _ b (upn z 0 (if hasM g (nI m0) = true then 0 else 1)) g gs ar _ hI m0 (by omega)) l_X6_152 rfl ⟨⟨rfl, rfl⟩, Nat.le_of_ble_eq_true rfl, Nat.le_of_ble_eq_true rfl⟩ 10 rfl [0] rfl (by decide) rfl hP hD hS hl.1 rfl (Nat.le_of_ble_eq_true rfl) dX6_power_10 ⟨Nat.zero_le _, Nat.zero_le _⟩) hA hP hD hS (isC := [0]) rfl [] [0] (br := []) (bs2 := fun _ => [moC E b (upn z 0 (if hasM g (nI m0) = true then 0 else 1)) g gs ar]) rfl (by decide) (fun _ => rfl) (by decide) (fun r u H locs hw hP hD hS => ?_)
    subst hw
    refine lv_goto (tgt := 17) hx hb dX6_power_13 (by decide) ?_
    exact hret _ _ (nI (powN g m0)) () _ _ hP hD hS rfl (by rw [if_pos hh, tn_nI hm0]) dX6_power_17
abbrev rm_X6_dividendByCounting : Room := { frames := 4, cells := 0, slots := 0, locals := 92 }
set_option maxHeartbeats 4000000 in
set_option maxRecDepth 100000 in
theorem c_X6_dividendByCounting (l : Launch) (E : EE) (sz : Nat) (b : Nat → Nat) (z : Nat → Nat) (g : GG) (gs : Nat → GG) (ar : GG) (B : Nat) (hI : IB B g) (p0 : Int32)  : MI l yX6_dividendByCounting cX6_dividendByCounting 2 .int rm_X6_dividendByCounting [.ref (b 0), .int p0] E sz [moC E b z g gs ar] (fun (r : Int32) (_ : Unit) => r = nI (if hasM g p0 = true then dv g (tn p0) else 0)) (fun _ => [moC E b (upn z 0 (if hasM g p0 = true then 0 else 1)) g gs ar]) 0 0 := by
  refine mi_go (by decide) (Nat.le_of_ble_eq_true rfl) ?_
  intro p e s m below meth c A Q ls hx hb hml hown hts hK hZ hA hsz hP hD hl hret
  have hS : va_S A s.heap s.heap [] := va_S.rf
  have hl : lv_has ls 2 [(0, .ref (b 0)), (1, .int p0)] := hl
  skip
  refine lv_aload_n hx hb dX6_dividendByCounting_0 rfl (lv_at hl 0 rfl) ?_
  refine lv_iload_n hx hb dX6_dividendByCounting_1 rfl (lv_at hl 1 rfl) ?_
  refine run_i (S := Unit) (run_V (As := [.int p0]) (rest := []) (bs := [moC E b z g gs ar]) (cb := [moC E b z g gs ar]) hx hb hml hown hts hK hZ hA (c_X6_dividend l E _ b z g gs ar _ hI p0 ) l_X6_146 rfl ⟨⟨rfl, rfl⟩, Nat.le_of_ble_eq_true rfl, Nat.le_of_ble_eq_true rfl⟩ 10 rfl [0] rfl (by decide) rfl hP hD hS hl.1 rfl (Nat.le_of_ble_eq_true rfl) dX6_dividendByCounting_2 ⟨Nat.zero_le _, Nat.zero_le _⟩) hA hP hD hS (isC := [0]) rfl [] [0] (br := []) (bs2 := fun _ => [moC E b (upn z 0 (if hasM g p0 = true then 0 else 1)) g gs ar]) rfl (by decide) (fun _ => rfl) (by decide) (fun r u H locs hw hP hD hS => ?_)
  subst hw
  exact hret _ _ (nI (if hasM g p0 = true then dv g (tn p0) else 0)) () _ _ hP hD hS rfl rfl dX6_dividendByCounting_5
abbrev rm_X6_powerByTable : Room := { frames := 5, cells := 0, slots := 0, locals := 109 }
set_option maxHeartbeats 4000000 in
set_option maxRecDepth 100000 in
theorem c_X6_powerByTable (l : Launch) (E : EE) (sz : Nat) (b : Nat → Nat) (z : Nat → Nat) (g : GG) (gs : Nat → GG) (ar : GG) (B : Nat) (hI : IB B g) (p0 : Int32)  : MI l yX6_powerByTable cX6_powerByTable 2 .int rm_X6_powerByTable [.ref (b 0), .int p0] E sz [moC E b z g gs ar] (fun (r : Int32) (_ : Unit) => r = nI (if hasM g p0 = true then powN g (tn p0) else 0)) (fun _ => [moC E b (upn z 0 (if hasM g p0 = true then 0 else 1)) g gs ar]) 0 0 := by
  refine mi_go (by decide) (Nat.le_of_ble_eq_true rfl) ?_
  intro p e s m below meth c A Q ls hx hb hml hown hts hK hZ hA hsz hP hD hl hret
  have hS : va_S A s.heap s.heap [] := va_S.rf
  have hl : lv_has ls 2 [(0, .ref (b 0)), (1, .int p0)] := hl
  skip
  refine lv_aload_n hx hb dX6_powerByTable_0 rfl (lv_at hl 0 rfl) ?_
  refine lv_iload_n hx hb dX6_powerByTable_1 rfl (lv_at hl 1 rfl) ?_
  refine run_i (S := Unit) (run_V (As := [.int p0]) (rest := []) (bs := [moC E b z g gs ar]) (cb := [moC E b z g gs ar]) hx hb hml hown hts hK hZ hA (c_X6_power l E _ b z g gs ar _ hI p0 ) l_X6_155 rfl ⟨⟨rfl, rfl⟩, Nat.le_of_ble_eq_true rfl, Nat.le_of_ble_eq_true rfl⟩ 10 rfl [0] rfl (by decide) rfl hP hD hS hl.1 rfl (Nat.le_of_ble_eq_true rfl) dX6_powerByTable_2 ⟨Nat.zero_le _, Nat.zero_le _⟩) hA hP hD hS (isC := [0]) rfl [] [0] (br := []) (bs2 := fun _ => [moC E b (upn z 0 (if hasM g p0 = true then 0 else 1)) g gs ar]) rfl (by decide) (fun _ => rfl) (by decide) (fun r u H locs hw hP hD hS => ?_)
  subst hw
  exact hret _ _ (nI (if hasM g p0 = true then powN g (tn p0) else 0)) () _ _ hP hD hS rfl rfl dX6_powerByTable_5
abbrev rm_X6_interval : Room := { frames := 3, cells := 0, slots := 0, locals := 65 }
set_option maxHeartbeats 4000000 in
set_option maxRecDepth 100000 in
theorem c_X6_interval (l : Launch) (E : EE) (sz : Nat) (b : Nat → Nat) (z : Nat → Nat) (g : GG) (gs : Nat → GG) (ar : GG) (B : Nat) (hI : IB B g) (p0 p1 : Int32)  : MI l yX6_interval cX6_interval 3 .int rm_X6_interval [.ref (b 0), .int p0, .int p1] E sz [moC E b z g gs ar] (fun (r : Int32) (_ : Unit) => r = nI (if (hasM g p0 && hasM g p1) = true then ap (g 3 (tn p0)) (g 3 (tn p1)) else 0)) (fun _ => [moC E b (upn z 0 (if (hasM g p0 && hasM g p1) = true then 0 else 1)) g gs ar]) 0 0 := by
  refine mi_go (by decide) (Nat.le_of_ble_eq_true rfl) ?_
  intro p e s m below meth c A Q ls hx hb hml hown hts hK hZ hA hsz hP hD hl hret
  have hS : va_S A s.heap s.heap [] := va_S.rf
  have hl : lv_has ls 3 [(0, .ref (b 0)), (1, .int p0), (2, .int p1)] := hl
  skip
  have hmc := hI.mc
  have hbu := hI.bud
  refine lv_aload_n hx hb dX6_interval_0 rfl (lv_at hl 0 rfl) ?_
  refine lv_iload_n hx hb dX6_interval_1 rfl (lv_at hl 1 rfl) ?_
  refine lv_iload_n hx hb dX6_interval_2 rfl (lv_at hl 2 rfl) ?_
  refine run_i (S := Unit) (run_V (As := [.int p0, .int p1]) (rest := []) (bs := [moC E b z g gs ar]) (cb := [moC E b z g gs ar]) hx hb hml hown hts hK hZ hA (c_X6_areAsked l E _ b z g gs ar  p0 p1 hmc) l_X6_136 rfl ⟨⟨rfl, rfl⟩, Nat.le_of_ble_eq_true rfl, Nat.le_of_ble_eq_true rfl⟩ 10 rfl [0] rfl (by decide) rfl hP hD hS hl.1 rfl (Nat.le_of_ble_eq_true rfl) dX6_interval_3 ⟨Nat.zero_le _, Nat.zero_le _⟩) hA hP hD hS (isC := [0]) rfl [] [0] (br := []) (bs2 := fun _ => [moC E b (upn z 0 (if (hasM g p0 && hasM g p1) = true then 0 else 1)) g gs ar]) rfl (by decide) (fun _ => rfl) (by decide) (fun r u H locs hw hP hD hS => ?_)
  subst hw
  refine bv_if_eq hx hb (tgt := 27) dX6_interval_6 (by decide) (fun c_1 => ?_) (fun c_1 => ?_)
  · skip
    have hh0 := c_1
    refine lv_iconst (v := nI 0) hx hb dX6_interval_27 (by decide) ?_
    exact hret _ _ (nI 0) () _ _ hP hD hS rfl (by rw [if_neg (by rw [hh0]; decide)]) dX6_interval_28
  · skip
    have hh0 := c_1
    have hh := ((Bool.and_eq_true _ _).mp hh0).1
    have hh9 := ((Bool.and_eq_true _ _).mp hh0).2
    have hh1 := of_decide_eq_true (show decide (0 ≤ p0.toInt ∧ p0.toInt < (g 8 0 : Int)) = true from hh)
    have hh2 := of_decide_eq_true (show decide (0 ≤ p1.toInt ∧ p1.toInt < (g 8 0 : Int)) = true from hh9)
    obtain ⟨m0, hm0, rfl, em0⟩ := raw_n (x := p0) (by omega)
    obtain ⟨n0, hn0, rfl, en0⟩ := raw_n (x := p1) (by omega)
    have hq1 := (hI.mem (m := m0) (by omega)).2.2.1
    have hq2 := (hI.mem (m := n0) (by omega)).2.2.1
    refine lv_aload_n hx hb dX6_interval_9 rfl (lv_at hl 0 rfl) ?_
    refine lv_iload_n hx hb dX6_interval_10 rfl (lv_at hl 1 rfl) ?_
    refine lv_iconst (v := nI 3) hx hb dX6_interval_11 (by decide) ?_
    refine run_i (S := Unit) (run_V (As := [.int (nI m0), .int (nI 3)]) (rest := []) (bs := [moC E b (upn z 0 (if (hasM g (nI m0) && hasM g (nI n0)) = true then 0 else 1)) g gs ar]) (cb := [moC E b (upn z 0 (if (hasM g (nI m0) && hasM g (nI n0)) = true then 0 else 1)) g gs ar]) hx hb hml hown hts hK hZ hA (c_X6_of l E _ b (upn z 0 (if (hasM g (nI m0) && hasM g (nI n0)) = true then 0 else 1)) g gs ar  m0 3 (by omega) (by decide)) l_X6_65 rfl ⟨⟨rfl, rfl⟩, Nat.le_of_ble_eq_true rfl, Nat.le_of_ble_eq_true rfl⟩ 10 rfl [0] rfl (by decide) rfl hP hD hS hl.1 rfl (Nat.le_of_ble_eq_true rfl) dX6_interval_12 ⟨Nat.zero_le _, Nat.zero_le _⟩) hA hP hD hS (isC := [0]) rfl [] [0] (br := []) (bs2 := fun _ => [moC E b (upn z 0 (if (hasM g (nI m0) && hasM g (nI n0)) = true then 0 else 1)) g gs ar]) rfl (by decide) (fun _ => rfl) (by decide) (fun r u H locs hw hP hD hS => ?_)
    subst hw
    refine lv_aload_n hx hb dX6_interval_15 rfl (lv_at hl 0 rfl) ?_
    refine lv_iload_n hx hb dX6_interval_16 rfl (lv_at hl 2 rfl) ?_
    refine lv_iconst (v := nI 3) hx hb dX6_interval_17 (by decide) ?_
    refine run_i (S := Unit) (run_V (As := [.int (nI n0), .int (nI 3)]) (rest := [.int (nI (g 3 m0))]) (bs := [moC E b (upn z 0 (if (hasM g (nI m0) && hasM g (nI n0)) = true then 0 else 1)) g gs ar]) (cb := [moC E b (upn z 0 (if (hasM g (nI m0) && hasM g (nI n0)) = true then 0 else 1)) g gs ar]) hx hb hml hown hts hK hZ hA (c_X6_of l E _ b (upn z 0 (if (hasM g (nI m0) && hasM g (nI n0)) = true then 0 else 1)) g gs ar  n0 3 (by omega) (by decide)) l_X6_65 rfl ⟨⟨rfl, rfl⟩, Nat.le_of_ble_eq_true rfl, Nat.le_of_ble_eq_true rfl⟩ 10 rfl [0] rfl (by decide) rfl hP hD hS hl.1 rfl (Nat.le_of_ble_eq_true rfl) dX6_interval_18 ⟨Nat.zero_le _, Nat.zero_le _⟩) hA hP hD hS (isC := [0]) rfl [] [0] (br := []) (bs2 := fun _ => [moC E b (upn z 0 (if (hasM g (nI m0) && hasM g (nI n0)) = true then 0 else 1)) g gs ar]) rfl (by decide) (fun _ => rfl) (by decide) (fun r u H locs hw hP hD hS => ?_)
    subst hw
    refine run_i (S := Unit) (run_S (As := [.int (nI (g 3 m0)), .int (nI (g 3 n0))]) (rest := []) (bs := [moC E b (upn z 0 (if (hasM g (nI m0) && hasM g (nI n0)) = true then 0 else 1)) g gs ar]) (cb := []) hx hb hml hown hts hK hZ hA (c_X6_apart l E _ (g 3 m0) (g 3 n0) (by omega) (by omega)) l_X6_61 rfl ⟨⟨rfl, rfl⟩, Nat.le_of_ble_eq_true rfl, Nat.le_of_ble_eq_true rfl⟩ [] rfl (by decide) hP hD hS hl.1 rfl (Nat.le_of_ble_eq_true rfl) dX6_interval_21 ⟨Nat.zero_le _, Nat.zero_le _⟩) hA hP hD hS (isC := []) rfl [0] [0] (br := [moC E b (upn z 0 (if (hasM g (nI m0) && hasM g (nI n0)) = true then 0 else 1)) g gs ar]) (bs2 := fun _ => [moC E b (upn z 0 (if (hasM g (nI m0) && hasM g (nI n0)) = true then 0 else 1)) g gs ar]) rfl (by decide) (fun _ => rfl) (by decide) (fun r u H locs hw hP hD hS => ?_)
    subst hw
    refine lv_goto (tgt := 28) hx hb dX6_interval_24 (by decide) ?_
    exact hret _ _ (nI (ap (g 3 m0) (g 3 n0))) () _ _ hP hD hS rfl (by rw [if_pos hh0, tn_nI hm0, tn_nI hn0]) dX6_interval_28
abbrev rm_X6_memberCount : Room := { frames := 0, cells := 0, slots := 0, locals := 0 }
set_option maxHeartbeats 4000000 in
set_option maxRecDepth 100000 in
theorem c_X6_memberCount (l : Launch) (E : EE) (sz : Nat) (b : Nat → Nat) (z : Nat → Nat) (g : GG) (gs : Nat → GG) (ar : GG)  : MI l yX6_memberCount cX6_memberCount 1 .int rm_X6_memberCount [.ref (b 0)] E sz [moC E b z g gs ar] (fun (r : Int32) (_ : Unit) => r = nI (g 8 0)) (fun _ => [moC E b (upn z 0 0) g gs ar]) 0 0 := by
  refine mi_go (by decide) (Nat.le_of_ble_eq_true rfl) ?_
  intro p e s m below meth c A Q ls hx hb hml hown hts hK hZ hA hsz hP hD hl hret
  have hS : va_S A s.heap s.heap [] := va_S.rf
  have hl : lv_has ls 1 [(0, .ref (b 0))] := hl
  skip
  refine lv_aload_n hx hb dX6_memberCount_0 rfl (lv_at hl 0 rfl) ?_
  refine lv_iconst (v := nI 0) hx hb dX6_memberCount_1 (by decide) ?_
  refine va_put (D := E.1) (ci := 10) (v := .int (nI 0)) (ty := .int) (C := RX6) (T := TX6) (N := 20) hx hb hts inX6 tyX6 tyX6_ok nmX6 hown hK hP hD hS 0 rfl rfl 0 (by decide) (hts _ q1434) (fun _ h9 => h9) rfl (by decide +kernel) rfl rfl (Nat.le_of_ble_eq_true rfl) dX6_memberCount_2 (fun H locs hP hD hS => ?_)
  have hP : va_P E.1 vwCl ([moC E b (upn z 0 0) g gs ar] : List va_W).flatten H := hP
  have hD : va_D A ([moC E b (upn z 0 0) g gs ar] : List va_W).flatten := hD
  refine lv_aload_n hx hb dX6_memberCount_5 rfl (lv_at hl 0 rfl) ?_
  refine va_get (D := E.1) (ci := 10) (v := .ref (b 1)) (C := RX6) (T := TX6) (N := 20) hx hb hts inX6 hown hK hP 0 rfl rfl 1 (by decide) (hts _ q1435) (fun _ h9 => h9) rfl dX6_memberCount_6 ?_
  refine lv_iconst (v := nI 0) hx hb dX6_memberCount_9 (by decide) ?_
  refine nv_iald (f := (flat g)) (i := 0) (n := 74) hx hb hK hP 1 0 rfl rfl (by omega) (by decide) dX6_memberCount_10 ?_
  refine tp_i (show nI ((flat g) 0) = nI (g 8 0) from rfl) ?_
  exact hret _ _ (nI (g 8 0)) () _ _ hP hD hS rfl rfl dX6_memberCount_11
abbrev rm_X6_beat : Room := { frames := 0, cells := 0, slots := 0, locals := 0 }
set_option maxHeartbeats 4000000 in
set_option maxRecDepth 100000 in
theorem c_X6_beat (l : Launch) (E : EE) (sz : Nat) (b : Nat → Nat) (z : Nat → Nat) (g : GG) (gs : Nat → GG) (ar : GG)  : MI l yX6_beat cX6_beat 1 .int rm_X6_beat [.ref (b 0)] E sz [moC E b z g gs ar] (fun (r : Int32) (_ : Unit) => r = nI (g 8 1)) (fun _ => [moC E b (upn z 0 0) g gs ar]) 0 0 := by
  refine mi_go (by decide) (Nat.le_of_ble_eq_true rfl) ?_
  intro p e s m below meth c A Q ls hx hb hml hown hts hK hZ hA hsz hP hD hl hret
  have hS : va_S A s.heap s.heap [] := va_S.rf
  have hl : lv_has ls 1 [(0, .ref (b 0))] := hl
  skip
  refine lv_aload_n hx hb dX6_beat_0 rfl (lv_at hl 0 rfl) ?_
  refine lv_iconst (v := nI 0) hx hb dX6_beat_1 (by decide) ?_
  refine va_put (D := E.1) (ci := 10) (v := .int (nI 0)) (ty := .int) (C := RX6) (T := TX6) (N := 20) hx hb hts inX6 tyX6 tyX6_ok nmX6 hown hK hP hD hS 0 rfl rfl 0 (by decide) (hts _ q1434) (fun _ h9 => h9) rfl (by decide +kernel) rfl rfl (Nat.le_of_ble_eq_true rfl) dX6_beat_2 (fun H locs hP hD hS => ?_)
  have hP : va_P E.1 vwCl ([moC E b (upn z 0 0) g gs ar] : List va_W).flatten H := hP
  have hD : va_D A ([moC E b (upn z 0 0) g gs ar] : List va_W).flatten := hD
  refine lv_aload_n hx hb dX6_beat_5 rfl (lv_at hl 0 rfl) ?_
  refine va_get (D := E.1) (ci := 10) (v := .ref (b 1)) (C := RX6) (T := TX6) (N := 20) hx hb hts inX6 hown hK hP 0 rfl rfl 1 (by decide) (hts _ q1435) (fun _ h9 => h9) rfl dX6_beat_6 ?_
  refine lv_iconst (v := nI 1) hx hb dX6_beat_9 (by decide) ?_
  refine nv_iald (f := (flat g)) (i := 1) (n := 74) hx hb hK hP 1 0 rfl rfl (by omega) (by decide) dX6_beat_10 ?_
  refine tp_i (show nI ((flat g) 1) = nI (g 8 1) from rfl) ?_
  exact hret _ _ (nI (g 8 1)) () _ _ hP hD hS rfl rfl dX6_beat_11
abbrev rm_X6_surplus : Room := { frames := 0, cells := 0, slots := 0, locals := 0 }
set_option maxHeartbeats 4000000 in
set_option maxRecDepth 100000 in
theorem c_X6_surplus (l : Launch) (E : EE) (sz : Nat) (b : Nat → Nat) (z : Nat → Nat) (g : GG) (gs : Nat → GG) (ar : GG)  : MI l yX6_surplus cX6_surplus 1 .int rm_X6_surplus [.ref (b 0)] E sz [moC E b z g gs ar] (fun (r : Int32) (_ : Unit) => r = nI (g 8 2)) (fun _ => [moC E b (upn z 0 0) g gs ar]) 0 0 := by
  refine mi_go (by decide) (Nat.le_of_ble_eq_true rfl) ?_
  intro p e s m below meth c A Q ls hx hb hml hown hts hK hZ hA hsz hP hD hl hret
  have hS : va_S A s.heap s.heap [] := va_S.rf
  have hl : lv_has ls 1 [(0, .ref (b 0))] := hl
  skip
  refine lv_aload_n hx hb dX6_surplus_0 rfl (lv_at hl 0 rfl) ?_
  refine lv_iconst (v := nI 0) hx hb dX6_surplus_1 (by decide) ?_
  refine va_put (D := E.1) (ci := 10) (v := .int (nI 0)) (ty := .int) (C := RX6) (T := TX6) (N := 20) hx hb hts inX6 tyX6 tyX6_ok nmX6 hown hK hP hD hS 0 rfl rfl 0 (by decide) (hts _ q1434) (fun _ h9 => h9) rfl (by decide +kernel) rfl rfl (Nat.le_of_ble_eq_true rfl) dX6_surplus_2 (fun H locs hP hD hS => ?_)
  have hP : va_P E.1 vwCl ([moC E b (upn z 0 0) g gs ar] : List va_W).flatten H := hP
  have hD : va_D A ([moC E b (upn z 0 0) g gs ar] : List va_W).flatten := hD
  refine lv_aload_n hx hb dX6_surplus_5 rfl (lv_at hl 0 rfl) ?_
  refine va_get (D := E.1) (ci := 10) (v := .ref (b 1)) (C := RX6) (T := TX6) (N := 20) hx hb hts inX6 hown hK hP 0 rfl rfl 1 (by decide) (hts _ q1435) (fun _ h9 => h9) rfl dX6_surplus_6 ?_
  refine lv_iconst (v := nI 2) hx hb dX6_surplus_9 (by decide) ?_
  refine nv_iald (f := (flat g)) (i := 2) (n := 74) hx hb hK hP 1 0 rfl rfl (by omega) (by decide) dX6_surplus_10 ?_
  refine tp_i (show nI ((flat g) 2) = nI (g 8 2) from rfl) ?_
  exact hret _ _ (nI (g 8 2)) () _ _ hP hD hS rfl rfl dX6_surplus_11
abbrev rm_X6_houseTone : Room := { frames := 0, cells := 0, slots := 0, locals := 0 }
set_option maxHeartbeats 4000000 in
set_option maxRecDepth 100000 in
theorem c_X6_houseTone (l : Launch) (E : EE) (sz : Nat) (b : Nat → Nat) (z : Nat → Nat) (g : GG) (gs : Nat → GG) (ar : GG)  : MI l yX6_houseTone cX6_houseTone 1 .int rm_X6_houseTone [.ref (b 0)] E sz [moC E b z g gs ar] (fun (r : Int32) (_ : Unit) => r = nI (g 8 3)) (fun _ => [moC E b (upn z 0 0) g gs ar]) 0 0 := by
  refine mi_go (by decide) (Nat.le_of_ble_eq_true rfl) ?_
  intro p e s m below meth c A Q ls hx hb hml hown hts hK hZ hA hsz hP hD hl hret
  have hS : va_S A s.heap s.heap [] := va_S.rf
  have hl : lv_has ls 1 [(0, .ref (b 0))] := hl
  skip
  refine lv_aload_n hx hb dX6_houseTone_0 rfl (lv_at hl 0 rfl) ?_
  refine lv_iconst (v := nI 0) hx hb dX6_houseTone_1 (by decide) ?_
  refine va_put (D := E.1) (ci := 10) (v := .int (nI 0)) (ty := .int) (C := RX6) (T := TX6) (N := 20) hx hb hts inX6 tyX6 tyX6_ok nmX6 hown hK hP hD hS 0 rfl rfl 0 (by decide) (hts _ q1434) (fun _ h9 => h9) rfl (by decide +kernel) rfl rfl (Nat.le_of_ble_eq_true rfl) dX6_houseTone_2 (fun H locs hP hD hS => ?_)
  have hP : va_P E.1 vwCl ([moC E b (upn z 0 0) g gs ar] : List va_W).flatten H := hP
  have hD : va_D A ([moC E b (upn z 0 0) g gs ar] : List va_W).flatten := hD
  refine lv_aload_n hx hb dX6_houseTone_5 rfl (lv_at hl 0 rfl) ?_
  refine va_get (D := E.1) (ci := 10) (v := .ref (b 1)) (C := RX6) (T := TX6) (N := 20) hx hb hts inX6 hown hK hP 0 rfl rfl 1 (by decide) (hts _ q1435) (fun _ h9 => h9) rfl dX6_houseTone_6 ?_
  refine lv_iconst (v := nI 3) hx hb dX6_houseTone_9 (by decide) ?_
  refine nv_iald (f := (flat g)) (i := 3) (n := 74) hx hb hK hP 1 0 rfl rfl (by omega) (by decide) dX6_houseTone_10 ?_
  refine tp_i (show nI ((flat g) 3) = nI (g 8 3) from rfl) ?_
  exact hret _ _ (nI (g 8 3)) () _ _ hP hD hS rfl rfl dX6_houseTone_11
abbrev rm_X6_quarters : Room := { frames := 0, cells := 0, slots := 0, locals := 0 }
set_option maxHeartbeats 4000000 in
set_option maxRecDepth 100000 in
theorem c_X6_quarters (l : Launch) (E : EE) (sz : Nat) (b : Nat → Nat) (z : Nat → Nat) (g : GG) (gs : Nat → GG) (ar : GG)  : MI l yX6_quarters cX6_quarters 1 .int rm_X6_quarters [.ref (b 0)] E sz [moC E b z g gs ar] (fun (r : Int32) (_ : Unit) => r = nI (g 8 4)) (fun _ => [moC E b (upn z 0 0) g gs ar]) 0 0 := by
  refine mi_go (by decide) (Nat.le_of_ble_eq_true rfl) ?_
  intro p e s m below meth c A Q ls hx hb hml hown hts hK hZ hA hsz hP hD hl hret
  have hS : va_S A s.heap s.heap [] := va_S.rf
  have hl : lv_has ls 1 [(0, .ref (b 0))] := hl
  skip
  refine lv_aload_n hx hb dX6_quarters_0 rfl (lv_at hl 0 rfl) ?_
  refine lv_iconst (v := nI 0) hx hb dX6_quarters_1 (by decide) ?_
  refine va_put (D := E.1) (ci := 10) (v := .int (nI 0)) (ty := .int) (C := RX6) (T := TX6) (N := 20) hx hb hts inX6 tyX6 tyX6_ok nmX6 hown hK hP hD hS 0 rfl rfl 0 (by decide) (hts _ q1434) (fun _ h9 => h9) rfl (by decide +kernel) rfl rfl (Nat.le_of_ble_eq_true rfl) dX6_quarters_2 (fun H locs hP hD hS => ?_)
  have hP : va_P E.1 vwCl ([moC E b (upn z 0 0) g gs ar] : List va_W).flatten H := hP
  have hD : va_D A ([moC E b (upn z 0 0) g gs ar] : List va_W).flatten := hD
  refine lv_aload_n hx hb dX6_quarters_5 rfl (lv_at hl 0 rfl) ?_
  refine va_get (D := E.1) (ci := 10) (v := .ref (b 1)) (C := RX6) (T := TX6) (N := 20) hx hb hts inX6 hown hK hP 0 rfl rfl 1 (by decide) (hts _ q1435) (fun _ h9 => h9) rfl dX6_quarters_6 ?_
  refine lv_iconst (v := nI 4) hx hb dX6_quarters_9 (by decide) ?_
  refine nv_iald (f := (flat g)) (i := 4) (n := 74) hx hb hK hP 1 0 rfl rfl (by omega) (by decide) dX6_quarters_10 ?_
  refine tp_i (show nI ((flat g) 4) = nI (g 8 4) from rfl) ?_
  exact hret _ _ (nI (g 8 4)) () _ _ hP hD hS rfl rfl dX6_quarters_11
abbrev rm_X6_coinsByAccounts : Room := { frames := 0, cells := 0, slots := 0, locals := 0 }
set_option maxHeartbeats 4000000 in
set_option maxRecDepth 100000 in
theorem c_X6_coinsByAccounts (l : Launch) (E : EE) (sz : Nat) (b : Nat → Nat) (z : Nat → Nat) (g : GG) (gs : Nat → GG) (ar : GG)  : MI l yX6_coinsByAccounts cX6_coinsByAccounts 1 .int rm_X6_coinsByAccounts [.ref (b 0)] E sz [moC E b z g gs ar] (fun (r : Int32) (_ : Unit) => r = nI (g 8 5)) (fun _ => [moC E b (upn z 0 0) g gs ar]) 0 0 := by
  refine mi_go (by decide) (Nat.le_of_ble_eq_true rfl) ?_
  intro p e s m below meth c A Q ls hx hb hml hown hts hK hZ hA hsz hP hD hl hret
  have hS : va_S A s.heap s.heap [] := va_S.rf
  have hl : lv_has ls 1 [(0, .ref (b 0))] := hl
  skip
  refine lv_aload_n hx hb dX6_coinsByAccounts_0 rfl (lv_at hl 0 rfl) ?_
  refine lv_iconst (v := nI 0) hx hb dX6_coinsByAccounts_1 (by decide) ?_
  refine va_put (D := E.1) (ci := 10) (v := .int (nI 0)) (ty := .int) (C := RX6) (T := TX6) (N := 20) hx hb hts inX6 tyX6 tyX6_ok nmX6 hown hK hP hD hS 0 rfl rfl 0 (by decide) (hts _ q1434) (fun _ h9 => h9) rfl (by decide +kernel) rfl rfl (Nat.le_of_ble_eq_true rfl) dX6_coinsByAccounts_2 (fun H locs hP hD hS => ?_)
  have hP : va_P E.1 vwCl ([moC E b (upn z 0 0) g gs ar] : List va_W).flatten H := hP
  have hD : va_D A ([moC E b (upn z 0 0) g gs ar] : List va_W).flatten := hD
  refine lv_aload_n hx hb dX6_coinsByAccounts_5 rfl (lv_at hl 0 rfl) ?_
  refine va_get (D := E.1) (ci := 10) (v := .ref (b 1)) (C := RX6) (T := TX6) (N := 20) hx hb hts inX6 hown hK hP 0 rfl rfl 1 (by decide) (hts _ q1435) (fun _ h9 => h9) rfl dX6_coinsByAccounts_6 ?_
  refine lv_iconst (v := nI 5) hx hb dX6_coinsByAccounts_9 (by decide) ?_
  refine nv_iald (f := (flat g)) (i := 5) (n := 74) hx hb hK hP 1 0 rfl rfl (by omega) (by decide) dX6_coinsByAccounts_10 ?_
  refine tp_i (show nI ((flat g) 5) = nI (g 8 5) from rfl) ?_
  exact hret _ _ (nI (g 8 5)) () _ _ hP hD hS rfl rfl dX6_coinsByAccounts_11
abbrev rm_X6_chirps : Room := { frames := 0, cells := 0, slots := 0, locals := 0 }
set_option maxHeartbeats 4000000 in
set_option maxRecDepth 100000 in
theorem c_X6_chirps (l : Launch) (E : EE) (sz : Nat) (b : Nat → Nat) (z : Nat → Nat) (g : GG) (gs : Nat → GG) (ar : GG)  : MI l yX6_chirps cX6_chirps 1 .int rm_X6_chirps [.ref (b 0)] E sz [moC E b z g gs ar] (fun (r : Int32) (_ : Unit) => r = nI (g 8 6)) (fun _ => [moC E b (upn z 0 0) g gs ar]) 0 0 := by
  refine mi_go (by decide) (Nat.le_of_ble_eq_true rfl) ?_
  intro p e s m below meth c A Q ls hx hb hml hown hts hK hZ hA hsz hP hD hl hret
  have hS : va_S A s.heap s.heap [] := va_S.rf
  have hl : lv_has ls 1 [(0, .ref (b 0))] := hl
  skip
  refine lv_aload_n hx hb dX6_chirps_0 rfl (lv_at hl 0 rfl) ?_
  refine lv_iconst (v := nI 0) hx hb dX6_chirps_1 (by decide) ?_
  refine va_put (D := E.1) (ci := 10) (v := .int (nI 0)) (ty := .int) (C := RX6) (T := TX6) (N := 20) hx hb hts inX6 tyX6 tyX6_ok nmX6 hown hK hP hD hS 0 rfl rfl 0 (by decide) (hts _ q1434) (fun _ h9 => h9) rfl (by decide +kernel) rfl rfl (Nat.le_of_ble_eq_true rfl) dX6_chirps_2 (fun H locs hP hD hS => ?_)
  have hP : va_P E.1 vwCl ([moC E b (upn z 0 0) g gs ar] : List va_W).flatten H := hP
  have hD : va_D A ([moC E b (upn z 0 0) g gs ar] : List va_W).flatten := hD
  refine lv_aload_n hx hb dX6_chirps_5 rfl (lv_at hl 0 rfl) ?_
  refine va_get (D := E.1) (ci := 10) (v := .ref (b 1)) (C := RX6) (T := TX6) (N := 20) hx hb hts inX6 hown hK hP 0 rfl rfl 1 (by decide) (hts _ q1435) (fun _ h9 => h9) rfl dX6_chirps_6 ?_
  refine lv_bipush (v := nI 6) hx hb dX6_chirps_9 (by decide) ?_
  refine nv_iald (f := (flat g)) (i := 6) (n := 74) hx hb hK hP 1 0 rfl rfl (by omega) (by decide) dX6_chirps_11 ?_
  refine tp_i (show nI ((flat g) 6) = nI (g 8 6) from rfl) ?_
  exact hret _ _ (nI (g 8 6)) () _ _ hP hD hS rfl rfl dX6_chirps_12
abbrev rm_X6_coinTotal : Room := { frames := 2, cells := 0, slots := 0, locals := 44 }
set_option maxHeartbeats 4000000 in
set_option maxRecDepth 100000 in
theorem c_X6_coinTotal (l : Launch) (E : EE) (sz : Nat) (b : Nat → Nat) (z : Nat → Nat) (g : GG) (gs : Nat → GG) (ar : GG) (B : Nat) (hI : IB B g)  : MI l yX6_coinTotal cX6_coinTotal 1 .int rm_X6_coinTotal [.ref (b 0)] E sz [moC E b z g gs ar] (fun (r : Int32) (_ : Unit) => r = nI (pursN g + g 8 2)) (fun _ => [moC E b (upn z 0 0) g gs ar]) 0 0 := by
  refine mi_go (by decide) (Nat.le_of_ble_eq_true rfl) ?_
  intro p e s m below meth c A Q ls hx hb hml hown hts hK hZ hA hsz hP hD hl hret
  have hS : va_S A s.heap s.heap [] := va_S.rf
  have hl : lv_has ls 1 [(0, .ref (b 0))] := hl
  skip
  have hmc := hI.mc
  have hbu := hI.bud
  refine lv_aload_n hx hb dX6_coinTotal_0 rfl (lv_at hl 0 rfl) ?_
  refine lv_iconst (v := nI 0) hx hb dX6_coinTotal_1 (by decide) ?_
  refine va_put (D := E.1) (ci := 10) (v := .int (nI 0)) (ty := .int) (C := RX6) (T := TX6) (N := 20) hx hb hts inX6 tyX6 tyX6_ok nmX6 hown hK hP hD hS 0 rfl rfl 0 (by decide) (hts _ q1434) (fun _ h9 => h9) rfl (by decide +kernel) rfl rfl (Nat.le_of_ble_eq_true rfl) dX6_coinTotal_2 (fun H locs hP hD hS => ?_)
  have hP : va_P E.1 vwCl ([moC E b (upn z 0 0) g gs ar] : List va_W).flatten H := hP
  have hD : va_D A ([moC E b (upn z 0 0) g gs ar] : List va_W).flatten := hD
  refine lv_aload_n hx hb dX6_coinTotal_5 rfl (lv_at hl 0 rfl) ?_
  refine run_i (S := Unit) (run_V (As := []) (rest := []) (bs := [moC E b (upn z 0 0) g gs ar]) (cb := [moC E b (upn z 0 0) g gs ar]) hx hb hml hown hts hK hZ hA (c_X6_purses l E _ b (upn z 0 0) g gs ar   hmc) l_X6_158 rfl ⟨⟨rfl, rfl⟩, Nat.le_of_ble_eq_true rfl, Nat.le_of_ble_eq_true rfl⟩ 10 rfl [0] rfl (by decide) rfl hP hD hS hl.1 rfl (Nat.le_of_ble_eq_true rfl) dX6_coinTotal_6 ⟨Nat.zero_le _, Nat.zero_le _⟩) hA hP hD hS (isC := [0]) rfl [] [0] (br := []) (bs2 := fun _ => [moC E b (upn z 0 0) g gs ar]) rfl (by decide) (fun _ => rfl) (by decide) (fun r u H locs hw hP hD hS => ?_)
  subst hw
  refine lv_aload_n hx hb dX6_coinTotal_9 rfl (lv_at hl 0 rfl) ?_
  refine va_get (D := E.1) (ci := 10) (v := .ref (b 1)) (C := RX6) (T := TX6) (N := 20) hx hb hts inX6 hown hK hP 0 rfl rfl 1 (by decide) (hts _ q1435) (fun _ h9 => h9) rfl dX6_coinTotal_10 ?_
  refine lv_iconst (v := nI 2) hx hb dX6_coinTotal_13 (by decide) ?_
  refine nv_iald (f := (flat g)) (i := 2) (n := 74) hx hb hK hP 1 0 rfl rfl (by omega) (by decide) dX6_coinTotal_14 ?_
  refine tp_i (show nI ((flat g) 2) = nI (g 8 2) from rfl) ?_
  refine nv_iadd hx hb dX6_coinTotal_15 ?_
  exact hret _ _ (nI (pursN g + (g 8 2))) () _ _ hP hD hS rfl rfl dX6_coinTotal_16
abbrev rm_X6_quota : Room := { frames := 3, cells := 0, slots := 0, locals := 64 }
set_option maxHeartbeats 4000000 in
set_option maxRecDepth 100000 in
theorem c_X6_quota (l : Launch) (E : EE) (sz : Nat) (b : Nat → Nat) (z : Nat → Nat) (g : GG) (gs : Nat → GG) (ar : GG) (B : Nat) (hI : IB B g)  : MI l yX6_quota cX6_quota 1 .int rm_X6_quota [.ref (b 0)] E sz [moC E b z g gs ar] (fun (r : Int32) (_ : Unit) => r = nI (quo g)) (fun _ => [moC E b (upn z 0 0) g gs ar]) 0 0 := by
  refine mi_go (by decide) (Nat.le_of_ble_eq_true rfl) ?_
  intro p e s m below meth c A Q ls hx hb hml hown hts hK hZ hA hsz hP hD hl hret
  have hS : va_S A s.heap s.heap [] := va_S.rf
  have hl : lv_has ls 1 [(0, .ref (b 0))] := hl
  skip
  have hmc := hI.mc
  have hbu := hI.bud
  refine lv_aload_n hx hb dX6_quota_0 rfl (lv_at hl 0 rfl) ?_
  refine lv_iconst (v := nI 0) hx hb dX6_quota_1 (by decide) ?_
  refine va_put (D := E.1) (ci := 10) (v := .int (nI 0)) (ty := .int) (C := RX6) (T := TX6) (N := 20) hx hb hts inX6 tyX6 tyX6_ok nmX6 hown hK hP hD hS 0 rfl rfl 0 (by decide) (hts _ q1434) (fun _ h9 => h9) rfl (by decide +kernel) rfl rfl (Nat.le_of_ble_eq_true rfl) dX6_quota_2 (fun H locs hP hD hS => ?_)
  have hP : va_P E.1 vwCl ([moC E b (upn z 0 0) g gs ar] : List va_W).flatten H := hP
  have hD : va_D A ([moC E b (upn z 0 0) g gs ar] : List va_W).flatten := hD
  refine lv_aload_n hx hb dX6_quota_5 rfl (lv_at hl 0 rfl) ?_
  refine run_i (S := Unit) (run_V (As := []) (rest := []) (bs := [moC E b (upn z 0 0) g gs ar]) (cb := [moC E b (upn z 0 0) g gs ar]) hx hb hml hown hts hK hZ hA (c_X6_most l E _ b (upn z 0 0) g gs ar _ hI  ) l_X6_86 rfl ⟨⟨rfl, rfl⟩, Nat.le_of_ble_eq_true rfl, Nat.le_of_ble_eq_true rfl⟩ 10 rfl [0] rfl (by decide) rfl hP hD hS hl.1 rfl (Nat.le_of_ble_eq_true rfl) dX6_quota_6 ⟨Nat.zero_le _, Nat.zero_le _⟩) hA hP hD hS (isC := [0]) rfl [] [0] (br := []) (bs2 := fun _ => [moC E b (upn z 0 0) g gs ar]) rfl (by decide) (fun _ => rfl) (by decide) (fun r u H locs hw hP hD hS => ?_)
  subst hw
  exact hret _ _ (nI (quo g)) () _ _ hP hD hS rfl rfl dX6_quota_9
abbrev rm_X6_isConsistent : Room := { frames := 0, cells := 0, slots := 0, locals := 0 }
set_option maxHeartbeats 4000000 in
set_option maxRecDepth 100000 in
theorem c_X6_isConsistent (l : Launch) (E : EE) (sz : Nat) (b : Nat → Nat) (z : Nat → Nat) (g : GG) (gs : Nat → GG) (ar : GG)  : MI l yX6_isConsistent cX6_isConsistent 1 .boolean rm_X6_isConsistent [.ref (b 0)] E sz [moC E b z g gs ar] (fun (r : Int32) (_ : Unit) => r = bI true) (fun _ => [moC E b (upn z 0 0) g gs ar]) 0 0 := by
  refine mi_go (by decide) (Nat.le_of_ble_eq_true rfl) ?_
  intro p e s m below meth c A Q ls hx hb hml hown hts hK hZ hA hsz hP hD hl hret
  have hS : va_S A s.heap s.heap [] := va_S.rf
  have hl : lv_has ls 1 [(0, .ref (b 0))] := hl
  skip
  refine lv_aload_n hx hb dX6_isConsistent_0 rfl (lv_at hl 0 rfl) ?_
  refine lv_iconst (v := nI 0) hx hb dX6_isConsistent_1 (by decide) ?_
  refine va_put (D := E.1) (ci := 10) (v := .int (nI 0)) (ty := .int) (C := RX6) (T := TX6) (N := 20) hx hb hts inX6 tyX6 tyX6_ok nmX6 hown hK hP hD hS 0 rfl rfl 0 (by decide) (hts _ q1434) (fun _ h9 => h9) rfl (by decide +kernel) rfl rfl (Nat.le_of_ble_eq_true rfl) dX6_isConsistent_2 (fun H locs hP hD hS => ?_)
  have hP : va_P E.1 vwCl ([moC E b (upn z 0 0) g gs ar] : List va_W).flatten H := hP
  have hD : va_D A ([moC E b (upn z 0 0) g gs ar] : List va_W).flatten := hD
  refine lv_iconst (v := nI 1) hx hb dX6_isConsistent_5 (by decide) ?_
  exact hret _ _ (nI 1) () _ _ hP hD hS (by decide) rfl dX6_isConsistent_6
abbrev rm_X6_isAhead : Room := { frames := 1, cells := 0, slots := 0, locals := 22 }
set_option maxHeartbeats 4000000 in
set_option maxRecDepth 100000 in
theorem c_X6_isAhead (l : Launch) (E : EE) (sz : Nat) (b : Nat → Nat) (z : Nat → Nat) (g : GG) (gs : Nat → GG) (ar : GG) (B : Nat) (hI : IB B g) (m0 n0 : Nat) (hm : m0 < g 8 0) (hn : n0 < g 8 0) : MI l yX6_isAhead cX6_isAhead 3 .boolean rm_X6_isAhead [.ref (b 0), .int (nI m0), .int (nI n0)] E sz [moC E b z g gs ar] (fun (r : Int32) (_ : Unit) => r = bI (ahd g m0 n0)) (fun _ => [moC E b z g gs ar]) 0 0 := by
  refine mi_go (by decide) (Nat.le_of_ble_eq_true rfl) ?_
  intro p e s m below meth c A Q ls hx hb hml hown hts hK hZ hA hsz hP hD hl hret
  have hS : va_S A s.heap s.heap [] := va_S.rf
  have hl : lv_has ls 3 [(0, .ref (b 0)), (1, .int (nI m0)), (2, .int (nI n0))] := hl
  skip
  have hmc := hI.mc
  have hbu := hI.bud
  have hm1 := hI.mem hm
  have hm2 := hI.mem hn
  have hp1 := hI.pu (m := m0) (by omega)
  have hp2 := hI.pu (m := n0) (by omega)
  refine lv_aload_n hx hb dX6_isAhead_0 rfl (lv_at hl 0 rfl) ?_
  refine lv_iload_n hx hb dX6_isAhead_1 rfl (lv_at hl 1 rfl) ?_
  refine lv_iconst (v := nI 0) hx hb dX6_isAhead_2 (by decide) ?_
  refine run_i (S := Unit) (run_V (As := [.int (nI m0), .int (nI 0)]) (rest := []) (bs := [moC E b z g gs ar]) (cb := [moC E b z g gs ar]) hx hb hml hown hts hK hZ hA (c_X6_of l E _ b z g gs ar  m0 0 (by omega) (by decide)) l_X6_65 rfl ⟨⟨rfl, rfl⟩, Nat.le_of_ble_eq_true rfl, Nat.le_of_ble_eq_true rfl⟩ 10 rfl [0] rfl (by decide) rfl hP hD hS hl.1 rfl (Nat.le_of_ble_eq_true rfl) dX6_isAhead_3 ⟨Nat.zero_le _, Nat.zero_le _⟩) hA hP hD hS (isC := [0]) rfl [] [0] (br := []) (bs2 := fun _ => [moC E b z g gs ar]) rfl (by decide) (fun _ => rfl) (by decide) (fun r u H locs hw hP hD hS => ?_)
  subst hw
  refine lv_aload_n hx hb dX6_isAhead_6 rfl (lv_at hl 0 rfl) ?_
  refine lv_iload_n hx hb dX6_isAhead_7 rfl (lv_at hl 2 rfl) ?_
  refine lv_iconst (v := nI 0) hx hb dX6_isAhead_8 (by decide) ?_
  refine run_i (S := Unit) (run_V (As := [.int (nI n0), .int (nI 0)]) (rest := [.int (nI (g 0 m0))]) (bs := [moC E b z g gs ar]) (cb := [moC E b z g gs ar]) hx hb hml hown hts hK hZ hA (c_X6_of l E _ b z g gs ar  n0 0 (by omega) (by decide)) l_X6_65 rfl ⟨⟨rfl, rfl⟩, Nat.le_of_ble_eq_true rfl, Nat.le_of_ble_eq_true rfl⟩ 10 rfl [0] rfl (by decide) rfl hP hD hS hl.1 rfl (Nat.le_of_ble_eq_true rfl) dX6_isAhead_9 ⟨Nat.zero_le _, Nat.zero_le _⟩) hA hP hD hS (isC := [0]) rfl [] [0] (br := []) (bs2 := fun _ => [moC E b z g gs ar]) rfl (by decide) (fun _ => rfl) (by decide) (fun r u H locs hw hP hD hS => ?_)
  subst hw
  refine nv_icmp_eq (X := ((g 0 m0 : Nat) : Int)) (Y := ((g 0 n0 : Nat) : Int)) hx hb (nI_toInt (by omega)) (nI_toInt (by omega)) (tgt := 36) dX6_isAhead_12 (by decide) (fun c_1 => ?_) (fun c_1 => ?_)
  · skip
    refine lv_aload_n hx hb dX6_isAhead_36 rfl (lv_at hl 0 rfl) ?_
    refine lv_iload_n hx hb dX6_isAhead_37 rfl (lv_at hl 1 rfl) ?_
    refine lv_iconst (v := nI 5) hx hb dX6_isAhead_38 (by decide) ?_
    refine run_i (S := Unit) (run_V (As := [.int (nI m0), .int (nI 5)]) (rest := []) (bs := [moC E b z g gs ar]) (cb := [moC E b z g gs ar]) hx hb hml hown hts hK hZ hA (c_X6_of l E _ b z g gs ar  m0 5 (by omega) (by decide)) l_X6_65 rfl ⟨⟨rfl, rfl⟩, Nat.le_of_ble_eq_true rfl, Nat.le_of_ble_eq_true rfl⟩ 10 rfl [0] rfl (by decide) rfl hP hD hS hl.1 rfl (Nat.le_of_ble_eq_true rfl) dX6_isAhead_39 ⟨Nat.zero_le _, Nat.zero_le _⟩) hA hP hD hS (isC := [0]) rfl [] [0] (br := []) (bs2 := fun _ => [moC E b z g gs ar]) rfl (by decide) (fun _ => rfl) (by decide) (fun r u H locs hw hP hD hS => ?_)
    subst hw
    refine lv_aload_n hx hb dX6_isAhead_42 rfl (lv_at hl 0 rfl) ?_
    refine lv_iload_n hx hb dX6_isAhead_43 rfl (lv_at hl 2 rfl) ?_
    refine lv_iconst (v := nI 5) hx hb dX6_isAhead_44 (by decide) ?_
    refine run_i (S := Unit) (run_V (As := [.int (nI n0), .int (nI 5)]) (rest := [.int (nI (g 5 m0))]) (bs := [moC E b z g gs ar]) (cb := [moC E b z g gs ar]) hx hb hml hown hts hK hZ hA (c_X6_of l E _ b z g gs ar  n0 5 (by omega) (by decide)) l_X6_65 rfl ⟨⟨rfl, rfl⟩, Nat.le_of_ble_eq_true rfl, Nat.le_of_ble_eq_true rfl⟩ 10 rfl [0] rfl (by decide) rfl hP hD hS hl.1 rfl (Nat.le_of_ble_eq_true rfl) dX6_isAhead_45 ⟨Nat.zero_le _, Nat.zero_le _⟩) hA hP hD hS (isC := [0]) rfl [] [0] (br := []) (bs2 := fun _ => [moC E b z g gs ar]) rfl (by decide) (fun _ => rfl) (by decide) (fun r u H locs hw hP hD hS => ?_)
    subst hw
    refine nv_icmp_ne (X := ((g 5 m0 : Nat) : Int)) (Y := ((g 5 n0 : Nat) : Int)) hx hb (nI_toInt (by omega)) (nI_toInt (by omega)) (tgt := 64) dX6_isAhead_48 (by decide) (fun c_2 => ?_) (fun c_2 => ?_)
    · skip
      refine lv_aload_n hx hb dX6_isAhead_64 rfl (lv_at hl 0 rfl) ?_
      refine lv_iload_n hx hb dX6_isAhead_65 rfl (lv_at hl 1 rfl) ?_
      refine lv_iconst (v := nI 5) hx hb dX6_isAhead_66 (by decide) ?_
      refine run_i (S := Unit) (run_V (As := [.int (nI m0), .int (nI 5)]) (rest := []) (bs := [moC E b z g gs ar]) (cb := [moC E b z g gs ar]) hx hb hml hown hts hK hZ hA (c_X6_of l E _ b z g gs ar  m0 5 (by omega) (by decide)) l_X6_65 rfl ⟨⟨rfl, rfl⟩, Nat.le_of_ble_eq_true rfl, Nat.le_of_ble_eq_true rfl⟩ 10 rfl [0] rfl (by decide) rfl hP hD hS hl.1 rfl (Nat.le_of_ble_eq_true rfl) dX6_isAhead_67 ⟨Nat.zero_le _, Nat.zero_le _⟩) hA hP hD hS (isC := [0]) rfl [] [0] (br := []) (bs2 := fun _ => [moC E b z g gs ar]) rfl (by decide) (fun _ => rfl) (by decide) (fun r u H locs hw hP hD hS => ?_)
      subst hw
      refine lv_aload_n hx hb dX6_isAhead_70 rfl (lv_at hl 0 rfl) ?_
      refine lv_iload_n hx hb dX6_isAhead_71 rfl (lv_at hl 2 rfl) ?_
      refine lv_iconst (v := nI 5) hx hb dX6_isAhead_72 (by decide) ?_
      refine run_i (S := Unit) (run_V (As := [.int (nI n0), .int (nI 5)]) (rest := [.int (nI (g 5 m0))]) (bs := [moC E b z g gs ar]) (cb := [moC E b z g gs ar]) hx hb hml hown hts hK hZ hA (c_X6_of l E _ b z g gs ar  n0 5 (by omega) (by decide)) l_X6_65 rfl ⟨⟨rfl, rfl⟩, Nat.le_of_ble_eq_true rfl, Nat.le_of_ble_eq_true rfl⟩ 10 rfl [0] rfl (by decide) rfl hP hD hS hl.1 rfl (Nat.le_of_ble_eq_true rfl) dX6_isAhead_73 ⟨Nat.zero_le _, Nat.zero_le _⟩) hA hP hD hS (isC := [0]) rfl [] [0] (br := []) (bs2 := fun _ => [moC E b z g gs ar]) rfl (by decide) (fun _ => rfl) (by decide) (fun r u H locs hw hP hD hS => ?_)
      subst hw
      refine nv_icmp_le (X := ((g 5 m0 : Nat) : Int)) (Y := ((g 5 n0 : Nat) : Int)) hx hb (nI_toInt (by omega)) (nI_toInt (by omega)) (tgt := 83) dX6_isAhead_76 (by decide) (fun c_3 => ?_) (fun c_3 => ?_)
      · skip
        refine lv_iconst (v := nI 0) hx hb dX6_isAhead_83 (by decide) ?_
        exact hret _ _ (nI 0) () _ _ hP hD hS (by decide) (by unfold ahd; rw [if_neg (by omega)]; (first | rw [if_pos (by omega)] | rw [if_neg (by omega)]); exact (bf_of (by omega))) dX6_isAhead_84
      · skip
        refine lv_iconst (v := nI 1) hx hb dX6_isAhead_79 (by decide) ?_
        refine lv_goto (tgt := 84) hx hb dX6_isAhead_80 (by decide) ?_
        exact hret _ _ (nI 1) () _ _ hP hD hS (by decide) (by unfold ahd; rw [if_neg (by omega)]; (first | rw [if_pos (by omega)] | rw [if_neg (by omega)]); exact (bt_of (by omega))) dX6_isAhead_84
    · skip
      refine lv_iload_n hx hb dX6_isAhead_51 rfl (lv_at hl 1 rfl) ?_
      refine lv_iload_n hx hb dX6_isAhead_52 rfl (lv_at hl 2 rfl) ?_
      refine nv_icmp_ge (X := ((m0 : Nat) : Int)) (Y := ((n0 : Nat) : Int)) hx hb (nI_toInt (by omega)) (nI_toInt (by omega)) (tgt := 60) dX6_isAhead_53 (by decide) (fun c_4 => ?_) (fun c_4 => ?_)
      · skip
        refine lv_iconst (v := nI 0) hx hb dX6_isAhead_60 (by decide) ?_
        refine lv_goto (tgt := 84) hx hb dX6_isAhead_61 (by decide) ?_
        exact hret _ _ (nI 0) () _ _ hP hD hS (by decide) (by unfold ahd; rw [if_neg (by omega)]; (first | rw [if_pos (by omega)] | rw [if_neg (by omega)]); exact (bf_of (by omega))) dX6_isAhead_84
      · skip
        refine lv_iconst (v := nI 1) hx hb dX6_isAhead_56 (by decide) ?_
        refine lv_goto (tgt := 84) hx hb dX6_isAhead_57 (by decide) ?_
        exact hret _ _ (nI 1) () _ _ hP hD hS (by decide) (by unfold ahd; rw [if_neg (by omega)]; (first | rw [if_pos (by omega)] | rw [if_neg (by omega)]); exact (bt_of (by omega))) dX6_isAhead_84
  · skip
    refine lv_aload_n hx hb dX6_isAhead_15 rfl (lv_at hl 0 rfl) ?_
    refine lv_iload_n hx hb dX6_isAhead_16 rfl (lv_at hl 1 rfl) ?_
    refine lv_iconst (v := nI 0) hx hb dX6_isAhead_17 (by decide) ?_
    refine run_i (S := Unit) (run_V (As := [.int (nI m0), .int (nI 0)]) (rest := []) (bs := [moC E b z g gs ar]) (cb := [moC E b z g gs ar]) hx hb hml hown hts hK hZ hA (c_X6_of l E _ b z g gs ar  m0 0 (by omega) (by decide)) l_X6_65 rfl ⟨⟨rfl, rfl⟩, Nat.le_of_ble_eq_true rfl, Nat.le_of_ble_eq_true rfl⟩ 10 rfl [0] rfl (by decide) rfl hP hD hS hl.1 rfl (Nat.le_of_ble_eq_true rfl) dX6_isAhead_18 ⟨Nat.zero_le _, Nat.zero_le _⟩) hA hP hD hS (isC := [0]) rfl [] [0] (br := []) (bs2 := fun _ => [moC E b z g gs ar]) rfl (by decide) (fun _ => rfl) (by decide) (fun r u H locs hw hP hD hS => ?_)
    subst hw
    refine lv_aload_n hx hb dX6_isAhead_21 rfl (lv_at hl 0 rfl) ?_
    refine lv_iload_n hx hb dX6_isAhead_22 rfl (lv_at hl 2 rfl) ?_
    refine lv_iconst (v := nI 0) hx hb dX6_isAhead_23 (by decide) ?_
    refine run_i (S := Unit) (run_V (As := [.int (nI n0), .int (nI 0)]) (rest := [.int (nI (g 0 m0))]) (bs := [moC E b z g gs ar]) (cb := [moC E b z g gs ar]) hx hb hml hown hts hK hZ hA (c_X6_of l E _ b z g gs ar  n0 0 (by omega) (by decide)) l_X6_65 rfl ⟨⟨rfl, rfl⟩, Nat.le_of_ble_eq_true rfl, Nat.le_of_ble_eq_true rfl⟩ 10 rfl [0] rfl (by decide) rfl hP hD hS hl.1 rfl (Nat.le_of_ble_eq_true rfl) dX6_isAhead_24 ⟨Nat.zero_le _, Nat.zero_le _⟩) hA hP hD hS (isC := [0]) rfl [] [0] (br := []) (bs2 := fun _ => [moC E b z g gs ar]) rfl (by decide) (fun _ => rfl) (by decide) (fun r u H locs hw hP hD hS => ?_)
    subst hw
    refine nv_icmp_le (X := ((g 0 m0 : Nat) : Int)) (Y := ((g 0 n0 : Nat) : Int)) hx hb (nI_toInt (by omega)) (nI_toInt (by omega)) (tgt := 34) dX6_isAhead_27 (by decide) (fun c_5 => ?_) (fun c_5 => ?_)
    · skip
      refine lv_iconst (v := nI 0) hx hb dX6_isAhead_34 (by decide) ?_
      exact hret _ _ (nI 0) () _ _ hP hD hS (by decide) (by unfold ahd; rw [if_pos (by omega)]; exact (bf_of (by omega))) dX6_isAhead_35
    · skip
      refine lv_iconst (v := nI 1) hx hb dX6_isAhead_30 (by decide) ?_
      refine lv_goto (tgt := 35) hx hb dX6_isAhead_31 (by decide) ?_
      exact hret _ _ (nI 1) () _ _ hP hD hS (by decide) (by unfold ahd; rw [if_pos (by omega)]; exact (bt_of (by omega))) dX6_isAhead_35
abbrev rm_X6_memberAtRank : Room := { frames := 2, cells := 0, slots := 0, locals := 44 }
set_option maxHeartbeats 4000000 in
set_option maxRecDepth 100000 in
theorem c_X6_memberAtRank (l : Launch) (E : EE) (sz : Nat) (b : Nat → Nat) (z : Nat → Nat) (g : GG) (gs : Nat → GG) (ar : GG) (B : Nat) (hI : IB B g) (p0 : Int32) : MI l yX6_memberAtRank cX6_memberAtRank 5 .int rm_X6_memberAtRank [.ref (b 0), .int p0] E sz [moC E b z g gs ar] (fun (r : Int32) (_ : Unit) => r = nI (if fst1 (fun a => decide ((mAh g a : Int) = p0.toInt)) (g 8 0) < g 8 0 then fst1 (fun a => decide ((mAh g a : Int) = p0.toInt)) (g 8 0) else 0)) (fun _ => [moC E b (upn z 0 (if fst1 (fun a => decide ((mAh g a : Int) = p0.toInt)) (g 8 0) < g 8 0 then 0 else 1)) g gs ar]) 0 0 := by
  refine mi_go (by decide) (Nat.le_of_ble_eq_true rfl) ?_
  intro p e s m below meth c A Q ls hx hb hml hown hts hK hZ hA hsz hP hD hl hret
  have hS : va_S A s.heap s.heap [] := va_S.rf
  have hl : lv_has ls 5 [(0, .ref (b 0)), (1, .int p0)] := hl
  skip
  have hmc := hI.mc
  have hbu := hI.bud
  refine lv_aload_n hx hb dX6_memberAtRank_0 rfl (lv_at hl 0 rfl) ?_
  refine lv_iconst (v := nI 0) hx hb dX6_memberAtRank_1 (by decide) ?_
  refine va_put (D := E.1) (ci := 10) (v := .int (nI 0)) (ty := .int) (C := RX6) (T := TX6) (N := 20) hx hb hts inX6 tyX6 tyX6_ok nmX6 hown hK hP hD hS 0 rfl rfl 0 (by decide) (hts _ q1434) (fun _ h9 => h9) rfl (by decide +kernel) rfl rfl (Nat.le_of_ble_eq_true rfl) dX6_memberAtRank_2 (fun H locs hP hD hS => ?_)
  have hP : va_P E.1 vwCl ([moC E b (upn z 0 0) g gs ar] : List va_W).flatten H := hP
  have hD : va_D A ([moC E b (upn z 0 0) g gs ar] : List va_W).flatten := hD
  refine lv_iconst (v := nI 0) hx hb dX6_memberAtRank_5 (by decide) ?_
  refine lv_istore_n (lv' := [(2, .int (nI 0)), (0, .ref (b 0)), (1, .int p0)]) hx hb dX6_memberAtRank_6 rfl hl (by decide) rfl (fun ls hl => ?_)
  have loop7 : ∀ (n : Nat) (i : Nat), (i ≤ g 8 0) → (∀ j, j < i → (fun a => decide ((mAh g a : Int) = p0.toInt)) j = false) → g 8 0 - i < n → ∀ (H : Heap) (locs : List Loc) (ls : Array Slot), va_P E.1 vwCl ([moC E b (upn z 0 0) g gs ar] : List va_W).flatten H → va_D A ([moC E b (upn z 0 0) g gs ar] : List va_W).flatten → va_S A s.heap H locs → lv_has ls 5 [(0, .ref (b 0)), (1, .int p0), (2, .int (nI i))] → W p l e rm_X6_memberAtRank s m ([.ref (b 0), .int p0] : List Value).toArray below meth c H locs 0 0 Q (F0 m 7 ls []) := by
    intro n7
    induction n7 with
    | zero => intro i hi hno hn7; exact absurd hn7 (Nat.not_lt_zero _)
    | succ n7 ih7 =>
      intro i hi hno hn7 H locs ls hP hD hS hl
      refine lv_iload_n hx hb dX6_memberAtRank_7 rfl (lv_at hl 2 rfl) ?_
      refine lv_aload_n hx hb dX6_memberAtRank_8 rfl (lv_at hl 0 rfl) ?_
      refine va_get (D := E.1) (ci := 10) (v := .ref (b 1)) (C := RX6) (T := TX6) (N := 20) hx hb hts inX6 hown hK hP 0 rfl rfl 1 (by decide) (hts _ q1435) (fun _ h9 => h9) rfl dX6_memberAtRank_9 ?_
      refine lv_iconst (v := nI 0) hx hb dX6_memberAtRank_12 (by decide) ?_
      refine nv_iald (f := (flat g)) (i := 0) (n := 74) hx hb hK hP 1 0 rfl rfl (by omega) (by decide) dX6_memberAtRank_13 ?_
      refine tp_i (show nI ((flat g) 0) = nI (g 8 0) from rfl) ?_
      refine nv_icmp_ge (X := ((i : Nat) : Int)) (Y := ((g 8 0 : Nat) : Int)) hx hb (nI_toInt (by omega)) (nI_toInt (by omega)) (tgt := 76) dX6_memberAtRank_14 (by decide) (fun c_1 => ?_) (fun c_1 => ?_)
      · skip
        have hfn : fst1 (fun a => decide ((mAh g a : Int) = p0.toInt)) (g 8 0) = g 8 0 := fst1_none (fun j hj => hno j (by omega))
        refine lv_aload_n hx hb dX6_memberAtRank_76 rfl (lv_at hl 0 rfl) ?_
        refine lv_iconst (v := nI 1) hx hb dX6_memberAtRank_77 (by decide) ?_
        refine run_i (S := Unit) (run_V (As := [.int (nI 1)]) (rest := []) (bs := [moC E b (upn z 0 0) g gs ar]) (cb := [moC E b (upn z 0 0) g gs ar]) hx hb hml hown hts hK hZ hA (c_X6_fails l E _ b (upn z 0 0) g gs ar  1 ) l_X6_54 rfl ⟨⟨rfl, rfl⟩, Nat.le_of_ble_eq_true rfl, Nat.le_of_ble_eq_true rfl⟩ 10 rfl [0] rfl (by decide) rfl hP hD hS hl.1 rfl (Nat.le_of_ble_eq_true rfl) dX6_memberAtRank_78 ⟨Nat.zero_le _, Nat.zero_le _⟩) hA hP hD hS (isC := [0]) rfl [] [0] (br := []) (bs2 := fun _ => [moC E b (upn (upn z 0 0) 0 1) g gs ar]) rfl (by decide) (fun _ => rfl) (by decide) (fun r u H locs hw hP hD hS => ?_)
        subst hw
        have hmE : moC E b (upn (upn z 0 0) 0 1) g gs ar = moC E b (upn z 0 (if fst1 (fun a => decide ((mAh g a : Int) = p0.toInt)) (g 8 0) < g 8 0 then 0 else 1)) g gs ar := by rw [if_neg (by omega)]; congr 1; funext j; unfold upn; split <;> rfl
        rw [hmE] at hP hD; clear hmE
        exact hret _ _ (nI 0) () _ _ hP hD hS rfl (by rw [if_neg (by omega)]) dX6_memberAtRank_81
      · skip
        have haa : ahd g i i = false := ahd_self
        refine lv_iconst (v := nI 0) hx hb dX6_memberAtRank_17 (by decide) ?_
        refine lv_istore_n (lv' := [(3, .int (nI 0)), (0, .ref (b 0)), (1, .int p0), (2, .int (nI i))]) hx hb dX6_memberAtRank_18 rfl hl (by decide) rfl (fun ls hl => ?_)
        refine lv_iconst (v := nI 0) hx hb dX6_memberAtRank_19 (by decide) ?_
        refine lv_istore (lv' := [(4, .int (nI 0)), (3, .int (nI 0)), (0, .ref (b 0)), (1, .int p0), (2, .int (nI i))]) hx hb dX6_memberAtRank_20 hl (by decide) rfl (fun ls hl => ?_)
        have loop22 : ∀ (n : Nat) (j : Nat), (j ≤ g 8 0) → g 8 0 - j < n → ∀ (H : Heap) (locs : List Loc) (ls : Array Slot), va_P E.1 vwCl ([moC E b (upn z 0 0) g gs ar] : List va_W).flatten H → va_D A ([moC E b (upn z 0 0) g gs ar] : List va_W).flatten → va_S A s.heap H locs → lv_has ls 5 [(0, .ref (b 0)), (1, .int p0), (2, .int (nI i)), (3, .int (nI (sm (fun o => if ahd g o i then 1 else 0) j))), (4, .int (nI j))] → W p l e rm_X6_memberAtRank s m ([.ref (b 0), .int p0] : List Value).toArray below meth c H locs 0 0 Q (F0 m 22 ls []) := by
          intro n22
          induction n22 with
          | zero => intro j hj hn22; exact absurd hn22 (Nat.not_lt_zero _)
          | succ n22 ih22 =>
            intro j hj hn22 H locs ls hP hD hS hl
            refine lv_iload hx hb dX6_memberAtRank_22 (lv_at hl 4 rfl) ?_
            refine lv_aload_n hx hb dX6_memberAtRank_24 rfl (lv_at hl 0 rfl) ?_
            refine va_get (D := E.1) (ci := 10) (v := .ref (b 1)) (C := RX6) (T := TX6) (N := 20) hx hb hts inX6 hown hK hP 0 rfl rfl 1 (by decide) (hts _ q1435) (fun _ h9 => h9) rfl dX6_memberAtRank_25 ?_
            refine lv_iconst (v := nI 0) hx hb dX6_memberAtRank_28 (by decide) ?_
            refine nv_iald (f := (flat g)) (i := 0) (n := 74) hx hb hK hP 1 0 rfl rfl (by omega) (by decide) dX6_memberAtRank_29 ?_
            refine tp_i (show nI ((flat g) 0) = nI (g 8 0) from rfl) ?_
            refine nv_icmp_ge (X := ((j : Nat) : Int)) (Y := ((g 8 0 : Nat) : Int)) hx hb (nI_toInt (by omega)) (nI_toInt (by omega)) (tgt := 63) dX6_memberAtRank_30 (by decide) (fun c_2 => ?_) (fun c_2 => ?_)
            · skip
              have hmh := mAh_le (g := g) (m := i) (i := j)
              have hme : sm (fun o => if ahd g o i then 1 else 0) j = mAh g i := by rw [show j = g 8 0 by omega]; rfl
              rw [show sm (fun o => if ahd g o i then 1 else 0) j = mAh g i from hme] at hl
              refine lv_iload_n hx hb dX6_memberAtRank_63 rfl (lv_at hl 3 rfl) ?_
              refine lv_iload_n hx hb dX6_memberAtRank_64 rfl (lv_at hl 1 rfl) ?_
              refine nv_icmp_ne (X := ((mAh g i : Nat) : Int)) (Y := p0.toInt) hx hb (nI_toInt (by omega)) rfl (tgt := 70) dX6_memberAtRank_65 (by decide) (fun c_3 => ?_) (fun c_3 => ?_)
              · skip
                have hne : (fun a => decide ((mAh g a : Int) = p0.toInt)) i = false := decide_eq_false (by omega)
                refine lv_iinc (v := nI (i + 1)) (lv' := [(2, .int (nI (i + 1))), (0, .ref (b 0)), (1, .int p0), (3, .int (nI (mAh g i))), (4, .int (nI j))]) hx hb dX6_memberAtRank_70 hl (k := 2) rfl (nI_add i 1) (by decide) rfl (fun ls hl => ?_)
                refine lv_goto (tgt := 7) hx hb dX6_memberAtRank_73 (by decide) ?_
                exact ih7 (i + 1) (by omega) (fun j hj => by rcases Nat.lt_or_ge j i with q | q; exact hno j q; rw [show j = i by omega]; exact hne) (by omega) _ _ _ hP hD hS (lv_sub hl [1, 2, 0] rfl)
              · skip
                have hfi : fst1 (fun a => decide ((mAh g a : Int) = p0.toInt)) (g 8 0) = i := fst1_at (decide_eq_true (by omega)) hno (by omega)
                refine lv_iload_n hx hb dX6_memberAtRank_68 rfl (lv_at hl 2 rfl) ?_
                have hvE : (if fst1 (fun a => decide ((mAh g a : Int) = p0.toInt)) (g 8 0) < g 8 0 then 0 else 1) = 0 := if_pos (by omega)
                have hP : va_P E.1 vwCl ([moC E b (upn z 0 (if fst1 (fun a => decide ((mAh g a : Int) = p0.toInt)) (g 8 0) < g 8 0 then 0 else 1)) g gs ar] : List va_W).flatten H := by rw [hvE]; exact hP
                have hD : va_D A ([moC E b (upn z 0 (if fst1 (fun a => decide ((mAh g a : Int) = p0.toInt)) (g 8 0) < g 8 0 then 0 else 1)) g gs ar] : List va_W).flatten := by rw [hvE]; exact hD
                clear hvE
                exact hret _ _ (nI i) () _ _ hP hD hS rfl (by rw [if_pos (by omega), hfi]) dX6_memberAtRank_69
            · skip
              have hmh := mAh_le (g := g) (m := i) (i := j)
              refine lv_iload_n hx hb dX6_memberAtRank_33 rfl (lv_at hl 3 rfl) ?_
              refine lv_iload hx hb dX6_memberAtRank_34 (lv_at hl 4 rfl) ?_
              refine lv_iload_n hx hb dX6_memberAtRank_36 rfl (lv_at hl 2 rfl) ?_
              refine nv_icmp_eq (X := ((j : Nat) : Int)) (Y := ((i : Nat) : Int)) hx hb (nI_toInt (by omega)) (nI_toInt (by omega)) (tgt := 54) dX6_memberAtRank_37 (by decide) (fun c_4 => ?_) (fun c_4 => ?_)
              · skip
                have hif : ahd g j i = false := by rw [show j = i by omega]; exact haa
                refine lv_iconst (v := nI 0) hx hb dX6_memberAtRank_54 (by decide) ?_
                refine nv_iadd hx hb dX6_memberAtRank_55 ?_
                refine lv_istore_n (lv' := [(3, .int (nI (sm (fun o => if ahd g o i then 1 else 0) j + 0))), (0, .ref (b 0)), (1, .int p0), (2, .int (nI i)), (4, .int (nI j))]) hx hb dX6_memberAtRank_56 rfl hl (by decide) rfl (fun ls hl => ?_)
                have hl : lv_has ls 5 [(3, .int (nI (sm (fun o => if ahd g o i then 1 else 0) (j + 1)))), (0, .ref (b 0)), (1, .int p0), (2, .int (nI i)), (4, .int (nI j))] := by rw [show sm (fun o => if ahd g o i then 1 else 0) (j + 1) = sm (fun o => if ahd g o i then 1 else 0) j + 0 from (sm_if_f (q := fun o => ahd g o i) (f := fun _ => 1) hif).symm]; exact hl
                refine lv_iinc (v := nI (j + 1)) (lv' := [(4, .int (nI (j + 1))), (3, .int (nI (sm (fun o => if ahd g o i then 1 else 0) (j + 1)))), (0, .ref (b 0)), (1, .int p0), (2, .int (nI i))]) hx hb dX6_memberAtRank_57 hl (k := 4) rfl (nI_add j 1) (by decide) rfl (fun ls hl => ?_)
                refine lv_goto (tgt := 22) hx hb dX6_memberAtRank_60 (by decide) ?_
                exact ih22 (j + 1) (by omega) (by omega) _ _ _ hP hD hS (lv_sub hl [2, 3, 4, 1, 0] rfl)
              · skip
                refine lv_aload_n hx hb dX6_memberAtRank_40 rfl (lv_at hl 0 rfl) ?_
                refine lv_iload hx hb dX6_memberAtRank_41 (lv_at hl 4 rfl) ?_
                refine lv_iload_n hx hb dX6_memberAtRank_43 rfl (lv_at hl 2 rfl) ?_
                refine run_i (S := Unit) (run_V (As := [.int (nI j), .int (nI i)]) (rest := [.int (nI (sm (fun o => if ahd g o i then 1 else 0) j))]) (bs := [moC E b (upn z 0 0) g gs ar]) (cb := [moC E b (upn z 0 0) g gs ar]) hx hb hml hown hts hK hZ hA (c_X6_isAhead l E _ b (upn z 0 0) g gs ar _ hI j i (by omega) (by omega)) l_X6_139 rfl ⟨⟨rfl, rfl⟩, Nat.le_of_ble_eq_true rfl, Nat.le_of_ble_eq_true rfl⟩ 10 rfl [0] rfl (by decide) rfl hP hD hS hl.1 rfl (Nat.le_of_ble_eq_true rfl) dX6_memberAtRank_44 ⟨Nat.zero_le _, Nat.zero_le _⟩) hA hP hD hS (isC := [0]) rfl [] [0] (br := []) (bs2 := fun _ => [moC E b (upn z 0 0) g gs ar]) rfl (by decide) (fun _ => rfl) (by decide) (fun r u H locs hw hP hD hS => ?_)
                subst hw
                refine bv_if_eq hx hb (tgt := 54) dX6_memberAtRank_47 (by decide) (fun c_5 => ?_) (fun c_5 => ?_)
                · skip
                  have hif : ahd g j i = false := c_5
                  refine lv_iconst (v := nI 0) hx hb dX6_memberAtRank_54 (by decide) ?_
                  refine nv_iadd hx hb dX6_memberAtRank_55 ?_
                  refine lv_istore_n (lv' := [(3, .int (nI (sm (fun o => if ahd g o i then 1 else 0) j + 0))), (0, .ref (b 0)), (1, .int p0), (2, .int (nI i)), (4, .int (nI j))]) hx hb dX6_memberAtRank_56 rfl hl (by decide) rfl (fun ls hl => ?_)
                  have hl : lv_has ls 5 [(3, .int (nI (sm (fun o => if ahd g o i then 1 else 0) (j + 1)))), (0, .ref (b 0)), (1, .int p0), (2, .int (nI i)), (4, .int (nI j))] := by rw [show sm (fun o => if ahd g o i then 1 else 0) (j + 1) = sm (fun o => if ahd g o i then 1 else 0) j + 0 from (sm_if_f (q := fun o => ahd g o i) (f := fun _ => 1) hif).symm]; exact hl
                  refine lv_iinc (v := nI (j + 1)) (lv' := [(4, .int (nI (j + 1))), (3, .int (nI (sm (fun o => if ahd g o i then 1 else 0) (j + 1)))), (0, .ref (b 0)), (1, .int p0), (2, .int (nI i))]) hx hb dX6_memberAtRank_57 hl (k := 4) rfl (nI_add j 1) (by decide) rfl (fun ls hl => ?_)
                  refine lv_goto (tgt := 22) hx hb dX6_memberAtRank_60 (by decide) ?_
                  exact ih22 (j + 1) (by omega) (by omega) _ _ _ hP hD hS (lv_sub hl [2, 3, 4, 1, 0] rfl)
                · skip
                  have hif : ahd g j i = true := c_5
                  refine lv_iconst (v := nI 1) hx hb dX6_memberAtRank_50 (by decide) ?_
                  refine lv_goto (tgt := 55) hx hb dX6_memberAtRank_51 (by decide) ?_
                  refine nv_iadd hx hb dX6_memberAtRank_55 ?_
                  refine lv_istore_n (lv' := [(3, .int (nI (sm (fun o => if ahd g o i then 1 else 0) j + 1))), (0, .ref (b 0)), (1, .int p0), (2, .int (nI i)), (4, .int (nI j))]) hx hb dX6_memberAtRank_56 rfl hl (by decide) rfl (fun ls hl => ?_)
                  have hl : lv_has ls 5 [(3, .int (nI (sm (fun o => if ahd g o i then 1 else 0) (j + 1)))), (0, .ref (b 0)), (1, .int p0), (2, .int (nI i)), (4, .int (nI j))] := by rw [show sm (fun o => if ahd g o i then 1 else 0) (j + 1) = sm (fun o => if ahd g o i then 1 else 0) j + 1 from (sm_if_t (q := fun o => ahd g o i) (f := fun _ => 1) hif).symm]; exact hl
                  refine lv_iinc (v := nI (j + 1)) (lv' := [(4, .int (nI (j + 1))), (3, .int (nI (sm (fun o => if ahd g o i then 1 else 0) (j + 1)))), (0, .ref (b 0)), (1, .int p0), (2, .int (nI i))]) hx hb dX6_memberAtRank_57 hl (k := 4) rfl (nI_add j 1) (by decide) rfl (fun ls hl => ?_)
                  refine lv_goto (tgt := 22) hx hb dX6_memberAtRank_60 (by decide) ?_
                  exact ih22 (j + 1) (by omega) (by omega) _ _ _ hP hD hS (lv_sub hl [2, 3, 4, 1, 0] rfl)
        exact loop22 _ 0 (by omega) (Nat.lt_succ_self _) _ _ _ hP hD hS (lv_sub hl [2, 3, 4, 1, 0] rfl)
  exact loop7 _ 0 (by omega) (fun j hj => absurd hj (Nat.not_lt_zero _)) (Nat.lt_succ_self _) _ _ _ hP hD hS (lv_sub hl [1, 2, 0] rfl)
