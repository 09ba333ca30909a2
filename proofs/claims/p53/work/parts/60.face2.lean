abbrev rm_X5_addMember : Room := { frames := 7, cells := 1, slots := 6, locals := 162 }
set_option maxHeartbeats 4000000 in
set_option maxRecDepth 100000 in
theorem c_X5_addMember (l : Launch) (hst : l.stackTraces = false) (E : EE) (sz : Nat) (x a a2 a3 b d k pa y w : Nat → Nat) (g : GG) (B : Nat) (hI : IB B g) (hs : Nat → Nat → Nat) (hg : Nat → GG) (nx ct : Nat) (hnx : nx < 8) (hct : ct ≤ 8) (p0 p1 p2 p3 : Int32) : XI l yX5_addMember cX5_addMember 5 .int rm_X5_addMember [.ref (x 0), .int p0, .int p1, .int p2, .int p3] E sz [coC E x a a2 a3 b d k pa y w, hhC E b hs hg nx ct, stC E a g] (fun (r : Int32) (_ : Unit) => fJoin g p0 p1 p2 p3 = 0 ∧ r = nI (g 8 0)) (fun _ => [coC E x a a2 a3 b d k pa y w, hhC E b hs (upa hg nx g) ((nx + 1) % 8) (if 8 < ct + 1 then 8 else ct + 1), stC E a (joinG g (tn p0) (tn p1) (tn p2) (tn p3))]) (fun (Ex : String) (_ : Unit) => fJoin g p0 p1 p2 p3 ≠ 0 ∧ Ex = flX (fJoin g p0 p1 p2 p3)) (fun _ => [coC E x a a2 a3 b d k pa y w, hhC E b hs hg nx ct, stC E a g]) 1 6 := by
  refine xi_go hst (by decide) rfl (Nat.le_of_ble_eq_true rfl) ?_
  intro p e s m below meth c A Q ls hx hb hml hown hts hK hZ hDD hA hsz hP hD hl hret hprop hthr
  have hS : va_S A s.heap s.heap [] := va_S.rf
  have hl : lv_has ls 5 [(0, .ref (x 0)), (1, .int p0), (2, .int p1), (3, .int p2), (4, .int p3)] := hl
  skip
  have hmc := hI.mc
  have hbu := hI.bud
  refine lv_aload_n hx hb dX5_addMember_0 rfl (lv_at hl 0 rfl) ?_
  refine va_get (D := E.1) (ci := 9) (v := .ref (a 0)) (C := RX5) (T := TX5) (N := 11) hx hb hts inX5 hown hK hP 0 rfl rfl 0 (by decide) (hts _ q246) (fun _ h9 => h9) rfl dX5_addMember_1 ?_
  refine lv_iload_n hx hb dX5_addMember_4 rfl (lv_at hl 1 rfl) ?_
  refine lv_iload_n hx hb dX5_addMember_5 rfl (lv_at hl 2 rfl) ?_
  refine lv_iload_n hx hb dX5_addMember_6 rfl (lv_at hl 3 rfl) ?_
  refine lv_iload hx hb dX5_addMember_7 (lv_at hl 4 rfl) ?_
  refine run_i (S := Unit) (run_V (As := [.int p0, .int p1, .int p2, .int p3]) (rest := []) (bs := [coC E x a a2 a3 b d k pa y w, hhC E b hs hg nx ct, stC E a g]) (cb := [stC E a g]) hx hb hml hown hts hK hZ hA (c_X4_faultOfJoining l E _ a g p0 p1 p2 p3 hmc) l_X5_68 rfl ⟨⟨rfl, rfl⟩, Nat.le_of_ble_eq_true rfl, Nat.le_of_ble_eq_true rfl⟩ 8 rfl [2] rfl (by decide) rfl hP hD hS hl.1 rfl (Nat.le_of_ble_eq_true rfl) dX5_addMember_9 ⟨Nat.zero_le _, Nat.zero_le _⟩) hA hP hD hS (isC := [2]) rfl [0, 1] [0, 1, 2] (br := [coC E x a a2 a3 b d k pa y w, hhC E b hs hg nx ct]) (bs2 := fun _ => [coC E x a a2 a3 b d k pa y w, hhC E b hs hg nx ct, stC E a g]) rfl (by decide) (fun _ => rfl) (by decide) (fun r u H locs hw hP hD hS => ?_)
  subst hw
  refine run_xv (S := Unit) (SX := Unit) (run_XS (As := [.int (nI (fJoin g p0 p1 p2 p3))]) (rest := []) (bs := [coC E x a a2 a3 b d k pa y w, hhC E b hs hg nx ct, stC E a g]) (cb := []) hx hb hml hown hts hK hZ hDD hA (c_X5_refuse l hst E _ (fJoin g p0 p1 p2 p3) (f_4 (g := g) (p0 := p0) (p1 := p1) (p2 := p2) (p3 := p3)).1) l_X5_72 rfl ⟨⟨rfl, rfl⟩, Nat.le_of_ble_eq_true rfl, Nat.le_of_ble_eq_true rfl⟩ [] rfl (by decide) hP hD hS hl.1 rfl (Nat.le_of_ble_eq_true rfl) dX5_addMember_12 ⟨Nat.le_of_ble_eq_true rfl, Nat.le_of_ble_eq_true rfl⟩) hA hP hD hS (isC := []) rfl [0, 1, 2] [0, 1, 2] (br := [coC E x a a2 a3 b d k pa y w, hhC E b hs hg nx ct, stC E a g]) (bs2 := fun _ => [coC E x a a2 a3 b d k pa y w, hhC E b hs hg nx ct, stC E a g]) (bx2 := fun _ => [coC E x a a2 a3 b d k pa y w, hhC E b hs hg nx ct, stC E a g]) rfl (by decide) (fun _ => rfl) (fun _ => rfl) (by decide) (fun Ex ce q3 ux H locs hw hP hD hS hc1 hc2 hc3 => ?_) (fun u H locs hw hP hD hS => ?_)
  · exact hprop _ _ _ () _ _ _ _ _ _ _ hw hP hD hS hc1 hc2 hc3 (by omega) (by omega)
  have hw : (fJoin g p0 p1 p2 p3) = 0 := hw
  have hf9 : fJoin g p0 p1 p2 p3 = 0 := hw
  obtain ⟨⟨j1, j2⟩, ⟨j3, j4⟩, ⟨j5, j6⟩, ⟨j7, j8⟩, j9⟩ := fJoin_0 hw
  have ht0 : ((tn p0 : Nat) : Int) = p0.toInt := tn_t (by omega)
  have ht1 : ((tn p1 : Nat) : Int) = p1.toInt := tn_t (by omega)
  have ht2 : ((tn p2 : Nat) : Int) = p2.toInt := tn_t (by omega)
  have ht3 : ((tn p3 : Nat) : Int) = p3.toInt := tn_t (by omega)
  have hl : lv_has ls 5 [(0, .ref (x 0)), (1, .int (nI (tn p0))), (2, .int p1), (3, .int p2), (4, .int p3)] := by rw [tn_n (x := p0) (by omega)]; exact hl
  have hl : lv_has ls 5 [(0, .ref (x 0)), (1, .int (nI (tn p0))), (2, .int (nI (tn p1))), (3, .int p2), (4, .int p3)] := by rw [tn_n (x := p1) (by omega)]; exact hl
  have hl : lv_has ls 5 [(0, .ref (x 0)), (1, .int (nI (tn p0))), (2, .int (nI (tn p1))), (3, .int (nI (tn p2))), (4, .int p3)] := by rw [tn_n (x := p2) (by omega)]; exact hl
  have hl : lv_has ls 5 [(0, .ref (x 0)), (1, .int (nI (tn p0))), (2, .int (nI (tn p1))), (3, .int (nI (tn p2))), (4, .int (nI (tn p3)))] := by rw [tn_n (x := p3) (by omega)]; exact hl
  refine lv_aload_n hx hb dX5_addMember_15 rfl (lv_at hl 0 rfl) ?_
  refine va_get (D := E.1) (ci := 9) (v := .ref (b 0)) (C := RX5) (T := TX5) (N := 11) hx hb hts inX5 hown hK hP 0 rfl rfl 3 (by decide) (hts _ q249) (fun _ h9 => h9) rfl dX5_addMember_16 ?_
  refine lv_aload_n hx hb dX5_addMember_19 rfl (lv_at hl 0 rfl) ?_
  refine va_get (D := E.1) (ci := 9) (v := .ref (a 0)) (C := RX5) (T := TX5) (N := 11) hx hb hts inX5 hown hK hP 0 rfl rfl 0 (by decide) (hts _ q246) (fun _ h9 => h9) rfl dX5_addMember_20 ?_
  refine run_v (S := Unit) (run_V (As := [.ref (a 0)]) (rest := []) (bs := [coC E x a a2 a3 b d k pa y w, hhC E b hs hg nx ct, stC E a g]) (cb := [hhC E b hs hg nx ct, stC E a g]) hx hb hml hown hts hK hZ hA (c_X2_remember l E _ b hs hg nx ct a g (by omega) (by omega)) l_X5_76 rfl ⟨⟨rfl, rfl⟩, Nat.le_of_ble_eq_true rfl, Nat.le_of_ble_eq_true rfl⟩ 6 rfl [1, 2] rfl (by decide) rfl hP hD hS hl.1 rfl (Nat.le_of_ble_eq_true rfl) dX5_addMember_23 ⟨Nat.le_of_ble_eq_true rfl, Nat.le_of_ble_eq_true rfl⟩) hA hP hD hS (isC := [1, 2]) rfl [0] [0, 1, 2] (br := [coC E x a a2 a3 b d k pa y w]) (bs2 := fun _ => [coC E x a a2 a3 b d k pa y w, hhC E b hs (upa hg nx g) ((nx + 1) % 8) (if 8 < ct + 1 then 8 else ct + 1), stC E a g]) rfl (by decide) (fun _ => rfl) (by decide) (fun u H locs hw hP hD hS => ?_)
  refine lv_aload_n hx hb dX5_addMember_26 rfl (lv_at hl 0 rfl) ?_
  refine va_get (D := E.1) (ci := 9) (v := .ref (a 0)) (C := RX5) (T := TX5) (N := 11) hx hb hts inX5 hown hK hP 0 rfl rfl 0 (by decide) (hts _ q246) (fun _ h9 => h9) rfl dX5_addMember_27 ?_
  refine lv_iload_n hx hb dX5_addMember_30 rfl (lv_at hl 1 rfl) ?_
  refine lv_iload_n hx hb dX5_addMember_31 rfl (lv_at hl 2 rfl) ?_
  refine lv_iload_n hx hb dX5_addMember_32 rfl (lv_at hl 3 rfl) ?_
  refine lv_iload hx hb dX5_addMember_33 (lv_at hl 4 rfl) ?_
  refine run_i (S := Unit) (run_V (As := [.int (nI (tn p0)), .int (nI (tn p1)), .int (nI (tn p2)), .int (nI (tn p3))]) (rest := []) (bs := [coC E x a a2 a3 b d k pa y w, hhC E b hs (upa hg nx g) ((nx + 1) % 8) (if 8 < ct + 1 then 8 else ct + 1), stC E a g]) (cb := [stC E a g]) hx hb hml hown hts hK hZ hA (c_X4_join l E _ a g (tn p0) (tn p1) (tn p2) (tn p3) (by omega)) l_X5_80 rfl ⟨⟨rfl, rfl⟩, Nat.le_of_ble_eq_true rfl, Nat.le_of_ble_eq_true rfl⟩ 8 rfl [2] rfl (by decide) rfl hP hD hS hl.1 rfl (Nat.le_of_ble_eq_true rfl) dX5_addMember_35 ⟨Nat.le_of_ble_eq_true rfl, Nat.le_of_ble_eq_true rfl⟩) hA hP hD hS (isC := [2]) rfl [0, 1] [0, 1, 2] (br := [coC E x a a2 a3 b d k pa y w, hhC E b hs (upa hg nx g) ((nx + 1) % 8) (if 8 < ct + 1 then 8 else ct + 1)]) (bs2 := fun _ => [coC E x a a2 a3 b d k pa y w, hhC E b hs (upa hg nx g) ((nx + 1) % 8) (if 8 < ct + 1 then 8 else ct + 1), stC E a (joinG g (tn p0) (tn p1) (tn p2) (tn p3))]) rfl (by decide) (fun _ => rfl) (by decide) (fun r u H locs hw hP hD hS => ?_)
  subst hw
  exact hret _ _ (nI (g 8 0)) () _ _ _ _ hP hD hS rfl ⟨hf9, rfl⟩ dX5_addMember_38 (by omega) (by omega)
abbrev rm_X5_wind : Room := { frames := 7, cells := 1, slots := 6, locals := 162 }
set_option maxHeartbeats 4000000 in
set_option maxRecDepth 100000 in
theorem c_X5_wind (l : Launch) (hst : l.stackTraces = false) (E : EE) (sz : Nat) (x a a2 a3 b d k pa y w : Nat → Nat) (g : GG) (B : Nat) (hI : IB B g) (hs : Nat → Nat → Nat) (hg : Nat → GG) (nx ct : Nat) (hnx : nx < 8) (hct : ct ≤ 8) (p0 p1 : Int32) : XI l yX5_wind cX5_wind 3 .int rm_X5_wind [.ref (x 0), .int p0, .int p1] E sz [coC E x a a2 a3 b d k pa y w, hhC E b hs hg nx ct, stC E a g] (fun (r : Int32) (_ : Unit) => fWind g p0 p1 = 0 ∧ r = nI (g 4 (tn p0) + tn p1)) (fun _ => [coC E x a a2 a3 b d k pa y w, hhC E b hs (upa hg nx g) ((nx + 1) % 8) (if 8 < ct + 1 then 8 else ct + 1), stC E a (windG g (tn p0) (tn p1))]) (fun (Ex : String) (_ : Unit) => fWind g p0 p1 ≠ 0 ∧ Ex = flX (fWind g p0 p1)) (fun _ => [coC E x a a2 a3 b d k pa y w, hhC E b hs hg nx ct, stC E a g]) 1 6 := by
  refine xi_go hst (by decide) rfl (Nat.le_of_ble_eq_true rfl) ?_
  intro p e s m below meth c A Q ls hx hb hml hown hts hK hZ hDD hA hsz hP hD hl hret hprop hthr
  have hS : va_S A s.heap s.heap [] := va_S.rf
  have hl : lv_has ls 3 [(0, .ref (x 0)), (1, .int p0), (2, .int p1)] := hl
  skip
  have hmc := hI.mc
  have hbu := hI.bud
  refine lv_aload_n hx hb dX5_wind_0 rfl (lv_at hl 0 rfl) ?_
  refine va_get (D := E.1) (ci := 9) (v := .ref (a 0)) (C := RX5) (T := TX5) (N := 11) hx hb hts inX5 hown hK hP 0 rfl rfl 0 (by decide) (hts _ q246) (fun _ h9 => h9) rfl dX5_wind_1 ?_
  refine lv_iload_n hx hb dX5_wind_4 rfl (lv_at hl 1 rfl) ?_
  refine lv_iload_n hx hb dX5_wind_5 rfl (lv_at hl 2 rfl) ?_
  refine run_i (S := Unit) (run_V (As := [.int p0, .int p1]) (rest := []) (bs := [coC E x a a2 a3 b d k pa y w, hhC E b hs hg nx ct, stC E a g]) (cb := [stC E a g]) hx hb hml hown hts hK hZ hA (c_X4_faultOfWinding l E _ a g p0 p1 _ hI) l_X5_83 rfl ⟨⟨rfl, rfl⟩, Nat.le_of_ble_eq_true rfl, Nat.le_of_ble_eq_true rfl⟩ 8 rfl [2] rfl (by decide) rfl hP hD hS hl.1 rfl (Nat.le_of_ble_eq_true rfl) dX5_wind_6 ⟨Nat.zero_le _, Nat.zero_le _⟩) hA hP hD hS (isC := [2]) rfl [0, 1] [0, 1, 2] (br := [coC E x a a2 a3 b d k pa y w, hhC E b hs hg nx ct]) (bs2 := fun _ => [coC E x a a2 a3 b d k pa y w, hhC E b hs hg nx ct, stC E a g]) rfl (by decide) (fun _ => rfl) (by decide) (fun r u H locs hw hP hD hS => ?_)
  subst hw
  refine run_xv (S := Unit) (SX := Unit) (run_XS (As := [.int (nI (fWind g p0 p1))]) (rest := []) (bs := [coC E x a a2 a3 b d k pa y w, hhC E b hs hg nx ct, stC E a g]) (cb := []) hx hb hml hown hts hK hZ hDD hA (c_X5_refuse l hst E _ (fWind g p0 p1) (f_4 (g := g) (p0 := p0) (p1 := p1) (p2 := p1) (p3 := p1)).2.1) l_X5_72 rfl ⟨⟨rfl, rfl⟩, Nat.le_of_ble_eq_true rfl, Nat.le_of_ble_eq_true rfl⟩ [] rfl (by decide) hP hD hS hl.1 rfl (Nat.le_of_ble_eq_true rfl) dX5_wind_9 ⟨Nat.le_of_ble_eq_true rfl, Nat.le_of_ble_eq_true rfl⟩) hA hP hD hS (isC := []) rfl [0, 1, 2] [0, 1, 2] (br := [coC E x a a2 a3 b d k pa y w, hhC E b hs hg nx ct, stC E a g]) (bs2 := fun _ => [coC E x a a2 a3 b d k pa y w, hhC E b hs hg nx ct, stC E a g]) (bx2 := fun _ => [coC E x a a2 a3 b d k pa y w, hhC E b hs hg nx ct, stC E a g]) rfl (by decide) (fun _ => rfl) (fun _ => rfl) (by decide) (fun Ex ce q3 ux H locs hw hP hD hS hc1 hc2 hc3 => ?_) (fun u H locs hw hP hD hS => ?_)
  · exact hprop _ _ _ () _ _ _ _ _ _ _ hw hP hD hS hc1 hc2 hc3 (by omega) (by omega)
  have hw : (fWind g p0 p1) = 0 := hw
  have hf9 : fWind g p0 p1 = 0 := hw
  obtain ⟨⟨j1, j2⟩, ⟨j3, j4⟩, j5⟩ := fWind_0 hw
  have ht0 : ((tn p0 : Nat) : Int) = p0.toInt := tn_t (by omega)
  have ht1 : ((tn p1 : Nat) : Int) = p1.toInt := tn_t (by omega)
  have hl : lv_has ls 3 [(0, .ref (x 0)), (1, .int (nI (tn p0))), (2, .int p1)] := by rw [tn_n (x := p0) (by omega)]; exact hl
  have hl : lv_has ls 3 [(0, .ref (x 0)), (1, .int (nI (tn p0))), (2, .int (nI (tn p1)))] := by rw [tn_n (x := p1) (by omega)]; exact hl
  refine lv_aload_n hx hb dX5_wind_12 rfl (lv_at hl 0 rfl) ?_
  refine va_get (D := E.1) (ci := 9) (v := .ref (b 0)) (C := RX5) (T := TX5) (N := 11) hx hb hts inX5 hown hK hP 0 rfl rfl 3 (by decide) (hts _ q249) (fun _ h9 => h9) rfl dX5_wind_13 ?_
  refine lv_aload_n hx hb dX5_wind_16 rfl (lv_at hl 0 rfl) ?_
  refine va_get (D := E.1) (ci := 9) (v := .ref (a 0)) (C := RX5) (T := TX5) (N := 11) hx hb hts inX5 hown hK hP 0 rfl rfl 0 (by decide) (hts _ q246) (fun _ h9 => h9) rfl dX5_wind_17 ?_
  refine run_v (S := Unit) (run_V (As := [.ref (a 0)]) (rest := []) (bs := [coC E x a a2 a3 b d k pa y w, hhC E b hs hg nx ct, stC E a g]) (cb := [hhC E b hs hg nx ct, stC E a g]) hx hb hml hown hts hK hZ hA (c_X2_remember l E _ b hs hg nx ct a g (by omega) (by omega)) l_X5_76 rfl ⟨⟨rfl, rfl⟩, Nat.le_of_ble_eq_true rfl, Nat.le_of_ble_eq_true rfl⟩ 6 rfl [1, 2] rfl (by decide) rfl hP hD hS hl.1 rfl (Nat.le_of_ble_eq_true rfl) dX5_wind_20 ⟨Nat.le_of_ble_eq_true rfl, Nat.le_of_ble_eq_true rfl⟩) hA hP hD hS (isC := [1, 2]) rfl [0] [0, 1, 2] (br := [coC E x a a2 a3 b d k pa y w]) (bs2 := fun _ => [coC E x a a2 a3 b d k pa y w, hhC E b hs (upa hg nx g) ((nx + 1) % 8) (if 8 < ct + 1 then 8 else ct + 1), stC E a g]) rfl (by decide) (fun _ => rfl) (by decide) (fun u H locs hw hP hD hS => ?_)
  refine lv_aload_n hx hb dX5_wind_23 rfl (lv_at hl 0 rfl) ?_
  refine va_get (D := E.1) (ci := 9) (v := .ref (a 0)) (C := RX5) (T := TX5) (N := 11) hx hb hts inX5 hown hK hP 0 rfl rfl 0 (by decide) (hts _ q246) (fun _ h9 => h9) rfl dX5_wind_24 ?_
  refine lv_iload_n hx hb dX5_wind_27 rfl (lv_at hl 1 rfl) ?_
  refine lv_iload_n hx hb dX5_wind_28 rfl (lv_at hl 2 rfl) ?_
  refine run_i (S := Unit) (run_V (As := [.int (nI (tn p0)), .int (nI (tn p1))]) (rest := []) (bs := [coC E x a a2 a3 b d k pa y w, hhC E b hs (upa hg nx g) ((nx + 1) % 8) (if 8 < ct + 1 then 8 else ct + 1), stC E a g]) (cb := [stC E a g]) hx hb hml hown hts hK hZ hA (c_X4_windUp l E _ a g (tn p0) (tn p1) (by omega)) l_X5_87 rfl ⟨⟨rfl, rfl⟩, Nat.le_of_ble_eq_true rfl, Nat.le_of_ble_eq_true rfl⟩ 8 rfl [2] rfl (by decide) rfl hP hD hS hl.1 rfl (Nat.le_of_ble_eq_true rfl) dX5_wind_29 ⟨Nat.le_of_ble_eq_true rfl, Nat.le_of_ble_eq_true rfl⟩) hA hP hD hS (isC := [2]) rfl [0, 1] [0, 1, 2] (br := [coC E x a a2 a3 b d k pa y w, hhC E b hs (upa hg nx g) ((nx + 1) % 8) (if 8 < ct + 1 then 8 else ct + 1)]) (bs2 := fun _ => [coC E x a a2 a3 b d k pa y w, hhC E b hs (upa hg nx g) ((nx + 1) % 8) (if 8 < ct + 1 then 8 else ct + 1), stC E a (windG g (tn p0) (tn p1))]) rfl (by decide) (fun _ => rfl) (by decide) (fun r u H locs hw hP hD hS => ?_)
  subst hw
  exact hret _ _ (nI (g 4 (tn p0) + (tn p1))) () _ _ _ _ hP hD hS rfl ⟨hf9, rfl⟩ dX5_wind_32 (by omega) (by omega)
abbrev rm_X5_tune : Room := { frames := 7, cells := 1, slots := 6, locals := 162 }
set_option maxHeartbeats 4000000 in
set_option maxRecDepth 100000 in
theorem c_X5_tune (l : Launch) (hst : l.stackTraces = false) (E : EE) (sz : Nat) (x a a2 a3 b d k pa y w : Nat → Nat) (g : GG) (B : Nat) (hI : IB B g) (hs : Nat → Nat → Nat) (hg : Nat → GG) (nx ct : Nat) (hnx : nx < 8) (hct : ct ≤ 8) (p0 p1 : Int32) : XI l yX5_tune cX5_tune 3 .int rm_X5_tune [.ref (x 0), .int p0, .int p1] E sz [coC E x a a2 a3 b d k pa y w, hhC E b hs hg nx ct, stC E a g] (fun (r : Int32) (_ : Unit) => fTune g p0 p1 = 0 ∧ r = nI (g 3 (tn p0))) (fun _ => [coC E x a a2 a3 b d k pa y w, hhC E b hs (upa hg nx g) ((nx + 1) % 8) (if 8 < ct + 1 then 8 else ct + 1), stC E a (up2 g 3 (tn p0) (tn p1))]) (fun (Ex : String) (_ : Unit) => fTune g p0 p1 ≠ 0 ∧ Ex = flX (fTune g p0 p1)) (fun _ => [coC E x a a2 a3 b d k pa y w, hhC E b hs hg nx ct, stC E a g]) 1 6 := by
  refine xi_go hst (by decide) rfl (Nat.le_of_ble_eq_true rfl) ?_
  intro p e s m below meth c A Q ls hx hb hml hown hts hK hZ hDD hA hsz hP hD hl hret hprop hthr
  have hS : va_S A s.heap s.heap [] := va_S.rf
  have hl : lv_has ls 3 [(0, .ref (x 0)), (1, .int p0), (2, .int p1)] := hl
  skip
  have hmc := hI.mc
  have hbu := hI.bud
  refine lv_aload_n hx hb dX5_tune_0 rfl (lv_at hl 0 rfl) ?_
  refine va_get (D := E.1) (ci := 9) (v := .ref (a 0)) (C := RX5) (T := TX5) (N := 11) hx hb hts inX5 hown hK hP 0 rfl rfl 0 (by decide) (hts _ q246) (fun _ h9 => h9) rfl dX5_tune_1 ?_
  refine lv_iload_n hx hb dX5_tune_4 rfl (lv_at hl 1 rfl) ?_
  refine lv_iload_n hx hb dX5_tune_5 rfl (lv_at hl 2 rfl) ?_
  refine run_i (S := Unit) (run_V (As := [.int p0, .int p1]) (rest := []) (bs := [coC E x a a2 a3 b d k pa y w, hhC E b hs hg nx ct, stC E a g]) (cb := [stC E a g]) hx hb hml hown hts hK hZ hA (c_X4_faultOfTuning l E _ a g p0 p1 hmc) l_X5_90 rfl ⟨⟨rfl, rfl⟩, Nat.le_of_ble_eq_true rfl, Nat.le_of_ble_eq_true rfl⟩ 8 rfl [2] rfl (by decide) rfl hP hD hS hl.1 rfl (Nat.le_of_ble_eq_true rfl) dX5_tune_6 ⟨Nat.zero_le _, Nat.zero_le _⟩) hA hP hD hS (isC := [2]) rfl [0, 1] [0, 1, 2] (br := [coC E x a a2 a3 b d k pa y w, hhC E b hs hg nx ct]) (bs2 := fun _ => [coC E x a a2 a3 b d k pa y w, hhC E b hs hg nx ct, stC E a g]) rfl (by decide) (fun _ => rfl) (by decide) (fun r u H locs hw hP hD hS => ?_)
  subst hw
  refine run_xv (S := Unit) (SX := Unit) (run_XS (As := [.int (nI (fTune g p0 p1))]) (rest := []) (bs := [coC E x a a2 a3 b d k pa y w, hhC E b hs hg nx ct, stC E a g]) (cb := []) hx hb hml hown hts hK hZ hDD hA (c_X5_refuse l hst E _ (fTune g p0 p1) (f_4 (g := g) (p0 := p0) (p1 := p1) (p2 := p1) (p3 := p1)).2.2.1) l_X5_72 rfl ⟨⟨rfl, rfl⟩, Nat.le_of_ble_eq_true rfl, Nat.le_of_ble_eq_true rfl⟩ [] rfl (by decide) hP hD hS hl.1 rfl (Nat.le_of_ble_eq_true rfl) dX5_tune_9 ⟨Nat.le_of_ble_eq_true rfl, Nat.le_of_ble_eq_true rfl⟩) hA hP hD hS (isC := []) rfl [0, 1, 2] [0, 1, 2] (br := [coC E x a a2 a3 b d k pa y w, hhC E b hs hg nx ct, stC E a g]) (bs2 := fun _ => [coC E x a a2 a3 b d k pa y w, hhC E b hs hg nx ct, stC E a g]) (bx2 := fun _ => [coC E x a a2 a3 b d k pa y w, hhC E b hs hg nx ct, stC E a g]) rfl (by decide) (fun _ => rfl) (fun _ => rfl) (by decide) (fun Ex ce q3 ux H locs hw hP hD hS hc1 hc2 hc3 => ?_) (fun u H locs hw hP hD hS => ?_)
  · exact hprop _ _ _ () _ _ _ _ _ _ _ hw hP hD hS hc1 hc2 hc3 (by omega) (by omega)
  have hw : (fTune g p0 p1) = 0 := hw
  have hf9 : fTune g p0 p1 = 0 := hw
  obtain ⟨⟨j1, j2⟩, ⟨j3, j4⟩⟩ := fTune_0 hw
  have ht0 : ((tn p0 : Nat) : Int) = p0.toInt := tn_t (by omega)
  have ht1 : ((tn p1 : Nat) : Int) = p1.toInt := tn_t (by omega)
  have hl : lv_has ls 3 [(0, .ref (x 0)), (1, .int (nI (tn p0))), (2, .int p1)] := by rw [tn_n (x := p0) (by omega)]; exact hl
  have hl : lv_has ls 3 [(0, .ref (x 0)), (1, .int (nI (tn p0))), (2, .int (nI (tn p1)))] := by rw [tn_n (x := p1) (by omega)]; exact hl
  refine lv_aload_n hx hb dX5_tune_12 rfl (lv_at hl 0 rfl) ?_
  refine va_get (D := E.1) (ci := 9) (v := .ref (b 0)) (C := RX5) (T := TX5) (N := 11) hx hb hts inX5 hown hK hP 0 rfl rfl 3 (by decide) (hts _ q249) (fun _ h9 => h9) rfl dX5_tune_13 ?_
  refine lv_aload_n hx hb dX5_tune_16 rfl (lv_at hl 0 rfl) ?_
  refine va_get (D := E.1) (ci := 9) (v := .ref (a 0)) (C := RX5) (T := TX5) (N := 11) hx hb hts inX5 hown hK hP 0 rfl rfl 0 (by decide) (hts _ q246) (fun _ h9 => h9) rfl dX5_tune_17 ?_
  refine run_v (S := Unit) (run_V (As := [.ref (a 0)]) (rest := []) (bs := [coC E x a a2 a3 b d k pa y w, hhC E b hs hg nx ct, stC E a g]) (cb := [hhC E b hs hg nx ct, stC E a g]) hx hb hml hown hts hK hZ hA (c_X2_remember l E _ b hs hg nx ct a g (by omega) (by omega)) l_X5_76 rfl ⟨⟨rfl, rfl⟩, Nat.le_of_ble_eq_true rfl, Nat.le_of_ble_eq_true rfl⟩ 6 rfl [1, 2] rfl (by decide) rfl hP hD hS hl.1 rfl (Nat.le_of_ble_eq_true rfl) dX5_tune_20 ⟨Nat.le_of_ble_eq_true rfl, Nat.le_of_ble_eq_true rfl⟩) hA hP hD hS (isC := [1, 2]) rfl [0] [0, 1, 2] (br := [coC E x a a2 a3 b d k pa y w]) (bs2 := fun _ => [coC E x a a2 a3 b d k pa y w, hhC E b hs (upa hg nx g) ((nx + 1) % 8) (if 8 < ct + 1 then 8 else ct + 1), stC E a g]) rfl (by decide) (fun _ => rfl) (by decide) (fun u H locs hw hP hD hS => ?_)
  refine lv_aload_n hx hb dX5_tune_23 rfl (lv_at hl 0 rfl) ?_
  refine va_get (D := E.1) (ci := 9) (v := .ref (a 0)) (C := RX5) (T := TX5) (N := 11) hx hb hts inX5 hown hK hP 0 rfl rfl 0 (by decide) (hts _ q246) (fun _ h9 => h9) rfl dX5_tune_24 ?_
  refine lv_iload_n hx hb dX5_tune_27 rfl (lv_at hl 1 rfl) ?_
  refine lv_iload_n hx hb dX5_tune_28 rfl (lv_at hl 2 rfl) ?_
  refine run_i (S := Unit) (run_V (As := [.int (nI (tn p0)), .int (nI (tn p1))]) (rest := []) (bs := [coC E x a a2 a3 b d k pa y w, hhC E b hs (upa hg nx g) ((nx + 1) % 8) (if 8 < ct + 1 then 8 else ct + 1), stC E a g]) (cb := [stC E a g]) hx hb hml hown hts hK hZ hA (c_X4_retune l E _ a g (tn p0) (tn p1) (by omega)) l_X5_93 rfl ⟨⟨rfl, rfl⟩, Nat.le_of_ble_eq_true rfl, Nat.le_of_ble_eq_true rfl⟩ 8 rfl [2] rfl (by decide) rfl hP hD hS hl.1 rfl (Nat.le_of_ble_eq_true rfl) dX5_tune_29 ⟨Nat.le_of_ble_eq_true rfl, Nat.le_of_ble_eq_true rfl⟩) hA hP hD hS (isC := [2]) rfl [0, 1] [0, 1, 2] (br := [coC E x a a2 a3 b d k pa y w, hhC E b hs (upa hg nx g) ((nx + 1) % 8) (if 8 < ct + 1 then 8 else ct + 1)]) (bs2 := fun _ => [coC E x a a2 a3 b d k pa y w, hhC E b hs (upa hg nx g) ((nx + 1) % 8) (if 8 < ct + 1 then 8 else ct + 1), stC E a (up2 g 3 (tn p0) (tn p1))]) rfl (by decide) (fun _ => rfl) (by decide) (fun r u H locs hw hP hD hS => ?_)
  subst hw
  exact hret _ _ (nI (g 3 (tn p0))) () _ _ _ _ hP hD hS rfl ⟨hf9, rfl⟩ dX5_tune_32 (by omega) (by omega)
abbrev rm_X5_buyShares : Room := { frames := 7, cells := 1, slots := 6, locals := 162 }
set_option maxHeartbeats 4000000 in
set_option maxRecDepth 100000 in
theorem c_X5_buyShares (l : Launch) (hst : l.stackTraces = false) (E : EE) (sz : Nat) (x a a2 a3 b d k pa y w : Nat → Nat) (g : GG) (B : Nat) (hI : IB B g) (hs : Nat → Nat → Nat) (hg : Nat → GG) (nx ct : Nat) (hnx : nx < 8) (hct : ct ≤ 8) (p0 p1 : Int32) : XI l yX5_buyShares cX5_buyShares 3 .int rm_X5_buyShares [.ref (x 0), .int p0, .int p1] E sz [coC E x a a2 a3 b d k pa y w, hhC E b hs hg nx ct, stC E a g] (fun (r : Int32) (_ : Unit) => fBuy g p0 p1 = 0 ∧ r = nI (g 0 (tn p0) + tn p1)) (fun _ => [coC E x a a2 a3 b d k pa y w, hhC E b hs (upa hg nx g) ((nx + 1) % 8) (if 8 < ct + 1 then 8 else ct + 1), stC E a (buyG g (tn p0) (tn p1))]) (fun (Ex : String) (_ : Unit) => fBuy g p0 p1 ≠ 0 ∧ Ex = flX (fBuy g p0 p1)) (fun _ => [coC E x a a2 a3 b d k pa y w, hhC E b hs hg nx ct, stC E a g]) 1 6 := by
  refine xi_go hst (by decide) rfl (Nat.le_of_ble_eq_true rfl) ?_
  intro p e s m below meth c A Q ls hx hb hml hown hts hK hZ hDD hA hsz hP hD hl hret hprop hthr
  have hS : va_S A s.heap s.heap [] := va_S.rf
  have hl : lv_has ls 3 [(0, .ref (x 0)), (1, .int p0), (2, .int p1)] := hl
  skip
  have hmc := hI.mc
  have hbu := hI.bud
  refine lv_aload_n hx hb dX5_buyShares_0 rfl (lv_at hl 0 rfl) ?_
  refine va_get (D := E.1) (ci := 9) (v := .ref (a 0)) (C := RX5) (T := TX5) (N := 11) hx hb hts inX5 hown hK hP 0 rfl rfl 0 (by decide) (hts _ q246) (fun _ h9 => h9) rfl dX5_buyShares_1 ?_
  refine lv_iload_n hx hb dX5_buyShares_4 rfl (lv_at hl 1 rfl) ?_
  refine lv_iload_n hx hb dX5_buyShares_5 rfl (lv_at hl 2 rfl) ?_
  refine run_i (S := Unit) (run_V (As := [.int p0, .int p1]) (rest := []) (bs := [coC E x a a2 a3 b d k pa y w, hhC E b hs hg nx ct, stC E a g]) (cb := [stC E a g]) hx hb hml hown hts hK hZ hA (c_X4_faultOfBuying l E _ a g p0 p1 _ hI) l_X5_96 rfl ⟨⟨rfl, rfl⟩, Nat.le_of_ble_eq_true rfl, Nat.le_of_ble_eq_true rfl⟩ 8 rfl [2] rfl (by decide) rfl hP hD hS hl.1 rfl (Nat.le_of_ble_eq_true rfl) dX5_buyShares_6 ⟨Nat.zero_le _, Nat.zero_le _⟩) hA hP hD hS (isC := [2]) rfl [0, 1] [0, 1, 2] (br := [coC E x a a2 a3 b d k pa y w, hhC E b hs hg nx ct]) (bs2 := fun _ => [coC E x a a2 a3 b d k pa y w, hhC E b hs hg nx ct, stC E a g]) rfl (by decide) (fun _ => rfl) (by decide) (fun r u H locs hw hP hD hS => ?_)
  subst hw
  refine run_xv (S := Unit) (SX := Unit) (run_XS (As := [.int (nI (fBuy g p0 p1))]) (rest := []) (bs := [coC E x a a2 a3 b d k pa y w, hhC E b hs hg nx ct, stC E a g]) (cb := []) hx hb hml hown hts hK hZ hDD hA (c_X5_refuse l hst E _ (fBuy g p0 p1) (f_4 (g := g) (p0 := p0) (p1 := p1) (p2 := p1) (p3 := p1)).2.2.2.1) l_X5_72 rfl ⟨⟨rfl, rfl⟩, Nat.le_of_ble_eq_true rfl, Nat.le_of_ble_eq_true rfl⟩ [] rfl (by decide) hP hD hS hl.1 rfl (Nat.le_of_ble_eq_true rfl) dX5_buyShares_9 ⟨Nat.le_of_ble_eq_true rfl, Nat.le_of_ble_eq_true rfl⟩) hA hP hD hS (isC := []) rfl [0, 1, 2] [0, 1, 2] (br := [coC E x a a2 a3 b d k pa y w, hhC E b hs hg nx ct, stC E a g]) (bs2 := fun _ => [coC E x a a2 a3 b d k pa y w, hhC E b hs hg nx ct, stC E a g]) (bx2 := fun _ => [coC E x a a2 a3 b d k pa y w, hhC E b hs hg nx ct, stC E a g]) rfl (by decide) (fun _ => rfl) (fun _ => rfl) (by decide) (fun Ex ce q3 ux H locs hw hP hD hS hc1 hc2 hc3 => ?_) (fun u H locs hw hP hD hS => ?_)
  · exact hprop _ _ _ () _ _ _ _ _ _ _ hw hP hD hS hc1 hc2 hc3 (by omega) (by omega)
  have hw : (fBuy g p0 p1) = 0 := hw
  have hf9 : fBuy g p0 p1 = 0 := hw
  obtain ⟨⟨j1, j2⟩, ⟨j3, j4⟩, j5, j6⟩ := fBuy_0 hw
  have ht0 : ((tn p0 : Nat) : Int) = p0.toInt := tn_t (by omega)
  have ht1 : ((tn p1 : Nat) : Int) = p1.toInt := tn_t (by omega)
  have hl : lv_has ls 3 [(0, .ref (x 0)), (1, .int (nI (tn p0))), (2, .int p1)] := by rw [tn_n (x := p0) (by omega)]; exact hl
  have hl : lv_has ls 3 [(0, .ref (x 0)), (1, .int (nI (tn p0))), (2, .int (nI (tn p1)))] := by rw [tn_n (x := p1) (by omega)]; exact hl
  refine lv_aload_n hx hb dX5_buyShares_12 rfl (lv_at hl 0 rfl) ?_
  refine va_get (D := E.1) (ci := 9) (v := .ref (b 0)) (C := RX5) (T := TX5) (N := 11) hx hb hts inX5 hown hK hP 0 rfl rfl 3 (by decide) (hts _ q249) (fun _ h9 => h9) rfl dX5_buyShares_13 ?_
  refine lv_aload_n hx hb dX5_buyShares_16 rfl (lv_at hl 0 rfl) ?_
  refine va_get (D := E.1) (ci := 9) (v := .ref (a 0)) (C := RX5) (T := TX5) (N := 11) hx hb hts inX5 hown hK hP 0 rfl rfl 0 (by decide) (hts _ q246) (fun _ h9 => h9) rfl dX5_buyShares_17 ?_
  refine run_v (S := Unit) (run_V (As := [.ref (a 0)]) (rest := []) (bs := [coC E x a a2 a3 b d k pa y w, hhC E b hs hg nx ct, stC E a g]) (cb := [hhC E b hs hg nx ct, stC E a g]) hx hb hml hown hts hK hZ hA (c_X2_remember l E _ b hs hg nx ct a g (by omega) (by omega)) l_X5_76 rfl ⟨⟨rfl, rfl⟩, Nat.le_of_ble_eq_true rfl, Nat.le_of_ble_eq_true rfl⟩ 6 rfl [1, 2] rfl (by decide) rfl hP hD hS hl.1 rfl (Nat.le_of_ble_eq_true rfl) dX5_buyShares_20 ⟨Nat.le_of_ble_eq_true rfl, Nat.le_of_ble_eq_true rfl⟩) hA hP hD hS (isC := [1, 2]) rfl [0] [0, 1, 2] (br := [coC E x a a2 a3 b d k pa y w]) (bs2 := fun _ => [coC E x a a2 a3 b d k pa y w, hhC E b hs (upa hg nx g) ((nx + 1) % 8) (if 8 < ct + 1 then 8 else ct + 1), stC E a g]) rfl (by decide) (fun _ => rfl) (by decide) (fun u H locs hw hP hD hS => ?_)
  refine lv_aload_n hx hb dX5_buyShares_23 rfl (lv_at hl 0 rfl) ?_
  refine va_get (D := E.1) (ci := 9) (v := .ref (a 0)) (C := RX5) (T := TX5) (N := 11) hx hb hts inX5 hown hK hP 0 rfl rfl 0 (by decide) (hts _ q246) (fun _ h9 => h9) rfl dX5_buyShares_24 ?_
  refine lv_iload_n hx hb dX5_buyShares_27 rfl (lv_at hl 1 rfl) ?_
  refine lv_iload_n hx hb dX5_buyShares_28 rfl (lv_at hl 2 rfl) ?_
  refine run_i (S := Unit) (run_V (As := [.int (nI (tn p0)), .int (nI (tn p1))]) (rest := []) (bs := [coC E x a a2 a3 b d k pa y w, hhC E b hs (upa hg nx g) ((nx + 1) % 8) (if 8 < ct + 1 then 8 else ct + 1), stC E a g]) (cb := [stC E a g]) hx hb hml hown hts hK hZ hA (c_X4_buy l E _ a g (tn p0) (tn p1) (by omega) (by omega)) l_X5_99 rfl ⟨⟨rfl, rfl⟩, Nat.le_of_ble_eq_true rfl, Nat.le_of_ble_eq_true rfl⟩ 8 rfl [2] rfl (by decide) rfl hP hD hS hl.1 rfl (Nat.le_of_ble_eq_true rfl) dX5_buyShares_29 ⟨Nat.le_of_ble_eq_true rfl, Nat.le_of_ble_eq_true rfl⟩) hA hP hD hS (isC := [2]) rfl [0, 1] [0, 1, 2] (br := [coC E x a a2 a3 b d k pa y w, hhC E b hs (upa hg nx g) ((nx + 1) % 8) (if 8 < ct + 1 then 8 else ct + 1)]) (bs2 := fun _ => [coC E x a a2 a3 b d k pa y w, hhC E b hs (upa hg nx g) ((nx + 1) % 8) (if 8 < ct + 1 then 8 else ct + 1), stC E a (buyG g (tn p0) (tn p1))]) rfl (by decide) (fun _ => rfl) (by decide) (fun r u H locs hw hP hD hS => ?_)
  subst hw
  exact hret _ _ (nI (g 0 (tn p0) + (tn p1))) () _ _ _ _ hP hD hS rfl ⟨hf9, rfl⟩ dX5_buyShares_32 (by omega) (by omega)
abbrev rm_X5_passBeats : Room := { frames := 7, cells := 1, slots := 6, locals := 162 }
set_option maxHeartbeats 4000000 in
set_option maxRecDepth 100000 in
theorem c_X5_passBeats (l : Launch) (hst : l.stackTraces = false) (E : EE) (sz : Nat) (x a a2 a3 b d k pa y w : Nat → Nat) (g : GG) (B : Nat) (hI : IB B g) (hs : Nat → Nat → Nat) (hg : Nat → GG) (nx ct : Nat) (hnx : nx < 8) (hct : ct ≤ 8) (hB : B + 60 ≤ 300000) (p0 : Int32) : XI l yX5_passBeats cX5_passBeats 2 .int rm_X5_passBeats [.ref (x 0), .int p0] E sz [coC E x a a2 a3 b d k pa y w, hhC E b hs hg nx ct, stC E a g] (fun (r : Int32) (_ : Unit) => fPass p0 = 0 ∧ r = nI (passN g (tn p0))) (fun _ => [coC E x a a2 a3 b d k pa y w, hhC E b hs (upa hg nx g) ((nx + 1) % 8) (if 8 < ct + 1 then 8 else ct + 1), stC E a (passG g (tn p0))]) (fun (Ex : String) (_ : Unit) => fPass p0 ≠ 0 ∧ Ex = flX (fPass p0)) (fun _ => [coC E x a a2 a3 b d k pa y w, hhC E b hs hg nx ct, stC E a g]) 1 6 := by
  refine xi_go hst (by decide) rfl (Nat.le_of_ble_eq_true rfl) ?_
  intro p e s m below meth c A Q ls hx hb hml hown hts hK hZ hDD hA hsz hP hD hl hret hprop hthr
  have hS : va_S A s.heap s.heap [] := va_S.rf
  have hl : lv_has ls 2 [(0, .ref (x 0)), (1, .int p0)] := hl
  skip
  have hmc := hI.mc
  have hbu := hI.bud
  refine lv_aload_n hx hb dX5_passBeats_0 rfl (lv_at hl 0 rfl) ?_
  refine va_get (D := E.1) (ci := 9) (v := .ref (a 0)) (C := RX5) (T := TX5) (N := 11) hx hb hts inX5 hown hK hP 0 rfl rfl 0 (by decide) (hts _ q246) (fun _ h9 => h9) rfl dX5_passBeats_1 ?_
  refine lv_iload_n hx hb dX5_passBeats_4 rfl (lv_at hl 1 rfl) ?_
  refine run_i (S := Unit) (run_V (As := [.int p0]) (rest := []) (bs := [coC E x a a2 a3 b d k pa y w, hhC E b hs hg nx ct, stC E a g]) (cb := [stC E a g]) hx hb hml hown hts hK hZ hA (c_X4_faultOfPassing l E _ a g p0 ) l_X5_102 rfl ⟨⟨rfl, rfl⟩, Nat.le_of_ble_eq_true rfl, Nat.le_of_ble_eq_true rfl⟩ 8 rfl [2] rfl (by decide) rfl hP hD hS hl.1 rfl (Nat.le_of_ble_eq_true rfl) dX5_passBeats_5 ⟨Nat.zero_le _, Nat.zero_le _⟩) hA hP hD hS (isC := [2]) rfl [0, 1] [0, 1, 2] (br := [coC E x a a2 a3 b d k pa y w, hhC E b hs hg nx ct]) (bs2 := fun _ => [coC E x a a2 a3 b d k pa y w, hhC E b hs hg nx ct, stC E a g]) rfl (by decide) (fun _ => rfl) (by decide) (fun r u H locs hw hP hD hS => ?_)
  subst hw
  refine run_xv (S := Unit) (SX := Unit) (run_XS (As := [.int (nI (fPass p0))]) (rest := []) (bs := [coC E x a a2 a3 b d k pa y w, hhC E b hs hg nx ct, stC E a g]) (cb := []) hx hb hml hown hts hK hZ hDD hA (c_X5_refuse l hst E _ (fPass p0) (f_4 (g := g) (p0 := p0) (p1 := p0) (p2 := p0) (p3 := p0)).2.2.2.2.1) l_X5_72 rfl ⟨⟨rfl, rfl⟩, Nat.le_of_ble_eq_true rfl, Nat.le_of_ble_eq_true rfl⟩ [] rfl (by decide) hP hD hS hl.1 rfl (Nat.le_of_ble_eq_true rfl) dX5_passBeats_8 ⟨Nat.le_of_ble_eq_true rfl, Nat.le_of_ble_eq_true rfl⟩) hA hP hD hS (isC := []) rfl [0, 1, 2] [0, 1, 2] (br := [coC E x a a2 a3 b d k pa y w, hhC E b hs hg nx ct, stC E a g]) (bs2 := fun _ => [coC E x a a2 a3 b d k pa y w, hhC E b hs hg nx ct, stC E a g]) (bx2 := fun _ => [coC E x a a2 a3 b d k pa y w, hhC E b hs hg nx ct, stC E a g]) rfl (by decide) (fun _ => rfl) (fun _ => rfl) (by decide) (fun Ex ce q3 ux H locs hw hP hD hS hc1 hc2 hc3 => ?_) (fun u H locs hw hP hD hS => ?_)
  · exact hprop _ _ _ () _ _ _ _ _ _ _ hw hP hD hS hc1 hc2 hc3 (by omega) (by omega)
  have hw : (fPass p0) = 0 := hw
  have hf9 : fPass p0 = 0 := hw
  obtain ⟨j1, j2⟩ := fPass_0 hw
  have ht0 : ((tn p0 : Nat) : Int) = p0.toInt := tn_t (by omega)
  have hl : lv_has ls 2 [(0, .ref (x 0)), (1, .int (nI (tn p0)))] := by rw [tn_n (x := p0) (by omega)]; exact hl
  refine lv_aload_n hx hb dX5_passBeats_11 rfl (lv_at hl 0 rfl) ?_
  refine va_get (D := E.1) (ci := 9) (v := .ref (b 0)) (C := RX5) (T := TX5) (N := 11) hx hb hts inX5 hown hK hP 0 rfl rfl 3 (by decide) (hts _ q249) (fun _ h9 => h9) rfl dX5_passBeats_12 ?_
  refine lv_aload_n hx hb dX5_passBeats_15 rfl (lv_at hl 0 rfl) ?_
  refine va_get (D := E.1) (ci := 9) (v := .ref (a 0)) (C := RX5) (T := TX5) (N := 11) hx hb hts inX5 hown hK hP 0 rfl rfl 0 (by decide) (hts _ q246) (fun _ h9 => h9) rfl dX5_passBeats_16 ?_
  refine run_v (S := Unit) (run_V (As := [.ref (a 0)]) (rest := []) (bs := [coC E x a a2 a3 b d k pa y w, hhC E b hs hg nx ct, stC E a g]) (cb := [hhC E b hs hg nx ct, stC E a g]) hx hb hml hown hts hK hZ hA (c_X2_remember l E _ b hs hg nx ct a g (by omega) (by omega)) l_X5_76 rfl ⟨⟨rfl, rfl⟩, Nat.le_of_ble_eq_true rfl, Nat.le_of_ble_eq_true rfl⟩ 6 rfl [1, 2] rfl (by decide) rfl hP hD hS hl.1 rfl (Nat.le_of_ble_eq_true rfl) dX5_passBeats_19 ⟨Nat.le_of_ble_eq_true rfl, Nat.le_of_ble_eq_true rfl⟩) hA hP hD hS (isC := [1, 2]) rfl [0] [0, 1, 2] (br := [coC E x a a2 a3 b d k pa y w]) (bs2 := fun _ => [coC E x a a2 a3 b d k pa y w, hhC E b hs (upa hg nx g) ((nx + 1) % 8) (if 8 < ct + 1 then 8 else ct + 1), stC E a g]) rfl (by decide) (fun _ => rfl) (by decide) (fun u H locs hw hP hD hS => ?_)
  refine lv_aload_n hx hb dX5_passBeats_22 rfl (lv_at hl 0 rfl) ?_
  refine va_get (D := E.1) (ci := 9) (v := .ref (a 0)) (C := RX5) (T := TX5) (N := 11) hx hb hts inX5 hown hK hP 0 rfl rfl 0 (by decide) (hts _ q246) (fun _ h9 => h9) rfl dX5_passBeats_23 ?_
  refine lv_iload_n hx hb dX5_passBeats_26 rfl (lv_at hl 1 rfl) ?_
  refine run_i (S := Unit) (run_V (As := [.int (nI (tn p0))]) (rest := []) (bs := [coC E x a a2 a3 b d k pa y w, hhC E b hs (upa hg nx g) ((nx + 1) % 8) (if 8 < ct + 1 then 8 else ct + 1), stC E a g]) (cb := [stC E a g]) hx hb hml hown hts hK hZ hA (c_X4_letPass l E _ a g _ hI (tn p0) (by omega) (by omega)) l_X5_106 rfl ⟨⟨rfl, rfl⟩, Nat.le_of_ble_eq_true rfl, Nat.le_of_ble_eq_true rfl⟩ 8 rfl [2] rfl (by decide) rfl hP hD hS hl.1 rfl (Nat.le_of_ble_eq_true rfl) dX5_passBeats_27 ⟨Nat.le_of_ble_eq_true rfl, Nat.le_of_ble_eq_true rfl⟩) hA hP hD hS (isC := [2]) rfl [0, 1] [0, 1, 2] (br := [coC E x a a2 a3 b d k pa y w, hhC E b hs (upa hg nx g) ((nx + 1) % 8) (if 8 < ct + 1 then 8 else ct + 1)]) (bs2 := fun _ => [coC E x a a2 a3 b d k pa y w, hhC E b hs (upa hg nx g) ((nx + 1) % 8) (if 8 < ct + 1 then 8 else ct + 1), stC E a (passG g (tn p0))]) rfl (by decide) (fun _ => rfl) (by decide) (fun r u H locs hw hP hD hS => ?_)
  subst hw
  exact hret _ _ (nI (passG g (tn p0) 8 2 - g 8 2)) () _ _ _ _ hP hD hS rfl ⟨hf9, rfl⟩ dX5_passBeats_30 (by omega) (by omega)
abbrev rm_X5_vote : Room := { frames := 7, cells := 1, slots := 6, locals := 163 }
set_option maxHeartbeats 4000000 in
set_option maxRecDepth 100000 in
theorem c_X5_vote (l : Launch) (hst : l.stackTraces = false) (E : EE) (sz : Nat) (x a a2 a3 b d k pa y w : Nat → Nat) (g : GG) (B : Nat) (hI : IB B g) (hs : Nat → Nat → Nat) (hg : Nat → GG) (nx ct : Nat) (hnx : nx < 8) (hct : ct ≤ 8) (p0 p1 : Int32) : XI l yX5_vote cX5_vote 3 .boolean rm_X5_vote [.ref (x 0), .int p0, .int p1] E sz [coC E x a a2 a3 b d k pa y w, hhC E b hs hg nx ct, stC E a g] (fun (r : Int32) (_ : Unit) => fMot p0 p1 = 0 ∧ r = bI (decide (quo g ≤ favN g (tn p0) (tn p1)))) (fun _ => [coC E x a a2 a3 b d k pa y w, hhC E b hs (upa hg nx g) ((nx + 1) % 8) (if 8 < ct + 1 then 8 else ct + 1), stC E a (voteG g (tn p0) (tn p1))]) (fun (Ex : String) (_ : Unit) => fMot p0 p1 ≠ 0 ∧ Ex = flX (fMot p0 p1)) (fun _ => [coC E x a a2 a3 b d k pa y w, hhC E b hs hg nx ct, stC E a g]) 1 6 := by
  refine xi_go hst (by decide) rfl (Nat.le_of_ble_eq_true rfl) ?_
  intro p e s m below meth c A Q ls hx hb hml hown hts hK hZ hDD hA hsz hP hD hl hret hprop hthr
  have hS : va_S A s.heap s.heap [] := va_S.rf
  have hl : lv_has ls 3 [(0, .ref (x 0)), (1, .int p0), (2, .int p1)] := hl
  skip
  have hmc := hI.mc
  have hbu := hI.bud
  refine lv_aload_n hx hb dX5_vote_0 rfl (lv_at hl 0 rfl) ?_
  refine va_get (D := E.1) (ci := 9) (v := .ref (a 0)) (C := RX5) (T := TX5) (N := 11) hx hb hts inX5 hown hK hP 0 rfl rfl 0 (by decide) (hts _ q246) (fun _ h9 => h9) rfl dX5_vote_1 ?_
  refine lv_iload_n hx hb dX5_vote_4 rfl (lv_at hl 1 rfl) ?_
  refine lv_iload_n hx hb dX5_vote_5 rfl (lv_at hl 2 rfl) ?_
  refine run_i (S := Unit) (run_V (As := [.int p0, .int p1]) (rest := []) (bs := [coC E x a a2 a3 b d k pa y w, hhC E b hs hg nx ct, stC E a g]) (cb := [stC E a g]) hx hb hml hown hts hK hZ hA (c_X4_faultOfMotion l E _ a g p0 p1 ) l_X5_117 rfl ⟨⟨rfl, rfl⟩, Nat.le_of_ble_eq_true rfl, Nat.le_of_ble_eq_true rfl⟩ 8 rfl [2] rfl (by decide) rfl hP hD hS hl.1 rfl (Nat.le_of_ble_eq_true rfl) dX5_vote_6 ⟨Nat.zero_le _, Nat.zero_le _⟩) hA hP hD hS (isC := [2]) rfl [0, 1] [0, 1, 2] (br := [coC E x a a2 a3 b d k pa y w, hhC E b hs hg nx ct]) (bs2 := fun _ => [coC E x a a2 a3 b d k pa y w, hhC E b hs hg nx ct, stC E a g]) rfl (by decide) (fun _ => rfl) (by decide) (fun r u H locs hw hP hD hS => ?_)
  subst hw
  refine run_xv (S := Unit) (SX := Unit) (run_XS (As := [.int (nI (fMot p0 p1))]) (rest := []) (bs := [coC E x a a2 a3 b d k pa y w, hhC E b hs hg nx ct, stC E a g]) (cb := []) hx hb hml hown hts hK hZ hDD hA (c_X5_refuse l hst E _ (fMot p0 p1) (f_4 (g := g) (p0 := p0) (p1 := p1) (p2 := p1) (p3 := p1)).2.2.2.2.2.1) l_X5_72 rfl ⟨⟨rfl, rfl⟩, Nat.le_of_ble_eq_true rfl, Nat.le_of_ble_eq_true rfl⟩ [] rfl (by decide) hP hD hS hl.1 rfl (Nat.le_of_ble_eq_true rfl) dX5_vote_9 ⟨Nat.le_of_ble_eq_true rfl, Nat.le_of_ble_eq_true rfl⟩) hA hP hD hS (isC := []) rfl [0, 1, 2] [0, 1, 2] (br := [coC E x a a2 a3 b d k pa y w, hhC E b hs hg nx ct, stC E a g]) (bs2 := fun _ => [coC E x a a2 a3 b d k pa y w, hhC E b hs hg nx ct, stC E a g]) (bx2 := fun _ => [coC E x a a2 a3 b d k pa y w, hhC E b hs hg nx ct, stC E a g]) rfl (by decide) (fun _ => rfl) (fun _ => rfl) (by decide) (fun Ex ce q3 ux H locs hw hP hD hS hc1 hc2 hc3 => ?_) (fun u H locs hw hP hD hS => ?_)
  · exact hprop _ _ _ () _ _ _ _ _ _ _ hw hP hD hS hc1 hc2 hc3 (by omega) (by omega)
  have hw : (fMot p0 p1) = 0 := hw
  have hf9 : fMot p0 p1 = 0 := hw
  obtain ⟨⟨j1, j2⟩, ⟨j3, j4⟩⟩ := fMot_0 hw
  have ht0 : ((tn p0 : Nat) : Int) = p0.toInt := tn_t (by omega)
  have ht1 : ((tn p1 : Nat) : Int) = p1.toInt := tn_t (by omega)
  have hl : lv_has ls 3 [(0, .ref (x 0)), (1, .int (nI (tn p0))), (2, .int p1)] := by rw [tn_n (x := p0) (by omega)]; exact hl
  have hl : lv_has ls 3 [(0, .ref (x 0)), (1, .int (nI (tn p0))), (2, .int (nI (tn p1)))] := by rw [tn_n (x := p1) (by omega)]; exact hl
  refine lv_aload_n hx hb dX5_vote_12 rfl (lv_at hl 0 rfl) ?_
  refine va_get (D := E.1) (ci := 9) (v := .ref (b 0)) (C := RX5) (T := TX5) (N := 11) hx hb hts inX5 hown hK hP 0 rfl rfl 3 (by decide) (hts _ q249) (fun _ h9 => h9) rfl dX5_vote_13 ?_
  refine lv_aload_n hx hb dX5_vote_16 rfl (lv_at hl 0 rfl) ?_
  refine va_get (D := E.1) (ci := 9) (v := .ref (a 0)) (C := RX5) (T := TX5) (N := 11) hx hb hts inX5 hown hK hP 0 rfl rfl 0 (by decide) (hts _ q246) (fun _ h9 => h9) rfl dX5_vote_17 ?_
  refine run_v (S := Unit) (run_V (As := [.ref (a 0)]) (rest := []) (bs := [coC E x a a2 a3 b d k pa y w, hhC E b hs hg nx ct, stC E a g]) (cb := [hhC E b hs hg nx ct, stC E a g]) hx hb hml hown hts hK hZ hA (c_X2_remember l E _ b hs hg nx ct a g (by omega) (by omega)) l_X5_76 rfl ⟨⟨rfl, rfl⟩, Nat.le_of_ble_eq_true rfl, Nat.le_of_ble_eq_true rfl⟩ 6 rfl [1, 2] rfl (by decide) rfl hP hD hS hl.1 rfl (Nat.le_of_ble_eq_true rfl) dX5_vote_20 ⟨Nat.le_of_ble_eq_true rfl, Nat.le_of_ble_eq_true rfl⟩) hA hP hD hS (isC := [1, 2]) rfl [0] [0, 1, 2] (br := [coC E x a a2 a3 b d k pa y w]) (bs2 := fun _ => [coC E x a a2 a3 b d k pa y w, hhC E b hs (upa hg nx g) ((nx + 1) % 8) (if 8 < ct + 1 then 8 else ct + 1), stC E a g]) rfl (by decide) (fun _ => rfl) (by decide) (fun u H locs hw hP hD hS => ?_)
  refine lv_aload_n hx hb dX5_vote_23 rfl (lv_at hl 0 rfl) ?_
  refine va_get (D := E.1) (ci := 9) (v := .ref (a 0)) (C := RX5) (T := TX5) (N := 11) hx hb hts inX5 hown hK hP 0 rfl rfl 0 (by decide) (hts _ q246) (fun _ h9 => h9) rfl dX5_vote_24 ?_
  refine lv_iload_n hx hb dX5_vote_27 rfl (lv_at hl 1 rfl) ?_
  refine lv_iload_n hx hb dX5_vote_28 rfl (lv_at hl 2 rfl) ?_
  refine run_i (S := Unit) (run_V (As := [.int (nI (tn p0)), .int (nI (tn p1))]) (rest := []) (bs := [coC E x a a2 a3 b d k pa y w, hhC E b hs (upa hg nx g) ((nx + 1) % 8) (if 8 < ct + 1 then 8 else ct + 1), stC E a g]) (cb := [stC E a g]) hx hb hml hown hts hK hZ hA (c_X4_decide l E _ a g _ hI (tn p0) (tn p1) (by omega) (by omega)) l_X5_120 rfl ⟨⟨rfl, rfl⟩, Nat.le_of_ble_eq_true rfl, Nat.le_of_ble_eq_true rfl⟩ 8 rfl [2] rfl (by decide) rfl hP hD hS hl.1 rfl (Nat.le_of_ble_eq_true rfl) dX5_vote_29 ⟨Nat.le_of_ble_eq_true rfl, Nat.le_of_ble_eq_true rfl⟩) hA hP hD hS (isC := [2]) rfl [0, 1] [0, 1, 2] (br := [coC E x a a2 a3 b d k pa y w, hhC E b hs (upa hg nx g) ((nx + 1) % 8) (if 8 < ct + 1 then 8 else ct + 1)]) (bs2 := fun _ => [coC E x a a2 a3 b d k pa y w, hhC E b hs (upa hg nx g) ((nx + 1) % 8) (if 8 < ct + 1 then 8 else ct + 1), stC E a (voteG g (tn p0) (tn p1))]) rfl (by decide) (fun _ => rfl) (by decide) (fun r u H locs hw hP hD hS => ?_)
  subst hw
  exact hret _ _ (bI (decide (quo g ≤ favN g (tn p0) (tn p1)))) () _ _ _ _ hP hD hS (bI_nar _) ⟨hf9, rfl⟩ dX5_vote_32 (by omega) (by omega)
abbrev rm_X5_endQuarter : Room := { frames := 7, cells := 1, slots := 6, locals := 193 }
set_option maxHeartbeats 4000000 in
set_option maxRecDepth 100000 in
theorem c_X5_endQuarter (l : Launch) (hst : l.stackTraces = false) (E : EE) (sz : Nat) (x a a2 a3 b d k pa y w : Nat → Nat) (g : GG) (B : Nat) (hI : IB B g) (hs : Nat → Nat → Nat) (hg : Nat → GG) (nx ct : Nat) (hnx : nx < 8) (hct : ct ≤ 8) (co re : Nat → Nat)  : XI l yX5_endQuarter cX5_endQuarter 1 .int rm_X5_endQuarter [.ref (x 0)] E sz [coC E x a a2 a3 b d k pa y w, hhC E b hs hg nx ct, stC E a g, diC E d co re] (fun (r : Int32) (u : (Nat → Nat) × (Nat → Nat)) => fPay g = 0 ∧ r = nI (g 8 2)) (fun u => [coC E x a a2 a3 b d k pa y w, hhC E b hs (upa hg nx g) ((nx + 1) % 8) (if 8 < ct + 1 then 8 else ct + 1), stC E a (payG g), diC E d u.1 u.2]) (fun (Ex : String) (_ : Unit) => fPay g ≠ 0 ∧ Ex = flX (fPay g)) (fun _ => [coC E x a a2 a3 b d k pa y w, hhC E b hs hg nx ct, stC E a g, diC E d co re]) 1 6 := by
  refine xi_go hst (by decide) rfl (Nat.le_of_ble_eq_true rfl) ?_
  intro p e s m below meth c A Q ls hx hb hml hown hts hK hZ hDD hA hsz hP hD hl hret hprop hthr
  have hS : va_S A s.heap s.heap [] := va_S.rf
  have hl : lv_has ls 1 [(0, .ref (x 0))] := hl
  skip
  have hmc := hI.mc
  have hbu := hI.bud
  refine lv_aload_n hx hb dX5_endQuarter_0 rfl (lv_at hl 0 rfl) ?_
  refine va_get (D := E.1) (ci := 9) (v := .ref (a 0)) (C := RX5) (T := TX5) (N := 11) hx hb hts inX5 hown hK hP 0 rfl rfl 0 (by decide) (hts _ q246) (fun _ h9 => h9) rfl dX5_endQuarter_1 ?_
  refine run_i (S := Unit) (run_V (As := []) (rest := []) (bs := [coC E x a a2 a3 b d k pa y w, hhC E b hs hg nx ct, stC E a g, diC E d co re]) (cb := [stC E a g]) hx hb hml hown hts hK hZ hA (c_X4_faultOfQuarter l E _ a g  hmc) l_X5_109 rfl ⟨⟨rfl, rfl⟩, Nat.le_of_ble_eq_true rfl, Nat.le_of_ble_eq_true rfl⟩ 8 rfl [2] rfl (by decide) rfl hP hD hS hl.1 rfl (Nat.le_of_ble_eq_true rfl) dX5_endQuarter_4 ⟨Nat.zero_le _, Nat.zero_le _⟩) hA hP hD hS (isC := [2]) rfl [0, 1, 3] [0, 1, 3, 2] (br := [coC E x a a2 a3 b d k pa y w, hhC E b hs hg nx ct, diC E d co re]) (bs2 := fun _ => [coC E x a a2 a3 b d k pa y w, hhC E b hs hg nx ct, stC E a g, diC E d co re]) rfl (by decide) (fun _ => rfl) (by decide) (fun r u H locs hw hP hD hS => ?_)
  subst hw
  refine run_xv (S := Unit) (SX := Unit) (run_XS (As := [.int (nI (if g 8 0 = 0 then 3 else 0))]) (rest := []) (bs := [coC E x a a2 a3 b d k pa y w, hhC E b hs hg nx ct, stC E a g, diC E d co re]) (cb := []) hx hb hml hown hts hK hZ hDD hA (c_X5_refuse l hst E _ (if g 8 0 = 0 then 3 else 0) (f_4 (g := g) (p0 := 0) (p1 := 0) (p2 := 0) (p3 := 0)).2.2.2.2.2.2) l_X5_72 rfl ⟨⟨rfl, rfl⟩, Nat.le_of_ble_eq_true rfl, Nat.le_of_ble_eq_true rfl⟩ [] rfl (by decide) hP hD hS hl.1 rfl (Nat.le_of_ble_eq_true rfl) dX5_endQuarter_7 ⟨Nat.le_of_ble_eq_true rfl, Nat.le_of_ble_eq_true rfl⟩) hA hP hD hS (isC := []) rfl [0, 1, 2, 3] [0, 1, 2, 3] (br := [coC E x a a2 a3 b d k pa y w, hhC E b hs hg nx ct, stC E a g, diC E d co re]) (bs2 := fun _ => [coC E x a a2 a3 b d k pa y w, hhC E b hs hg nx ct, stC E a g, diC E d co re]) (bx2 := fun _ => [coC E x a a2 a3 b d k pa y w, hhC E b hs hg nx ct, stC E a g, diC E d co re]) rfl (by decide) (fun _ => rfl) (fun _ => rfl) (by decide) (fun Ex ce q3 ux H locs hw hP hD hS hc1 hc2 hc3 => ?_) (fun u H locs hw hP hD hS => ?_)
  · exact hprop _ _ _ () _ _ _ _ _ _ _ hw hP hD hS hc1 hc2 hc3 (by omega) (by omega)
  have hw : (if g 8 0 = 0 then 3 else 0) = 0 := hw
  have hf9 : fPay g = 0 := hw
  have hz := fPay_0 (g := g) hf9
  refine lv_aload_n hx hb dX5_endQuarter_10 rfl (lv_at hl 0 rfl) ?_
  refine va_get (D := E.1) (ci := 9) (v := .ref (b 0)) (C := RX5) (T := TX5) (N := 11) hx hb hts inX5 hown hK hP 0 rfl rfl 3 (by decide) (hts _ q249) (fun _ h9 => h9) rfl dX5_endQuarter_11 ?_
  refine lv_aload_n hx hb dX5_endQuarter_14 rfl (lv_at hl 0 rfl) ?_
  refine va_get (D := E.1) (ci := 9) (v := .ref (a 0)) (C := RX5) (T := TX5) (N := 11) hx hb hts inX5 hown hK hP 0 rfl rfl 0 (by decide) (hts _ q246) (fun _ h9 => h9) rfl dX5_endQuarter_15 ?_
  refine run_v (S := Unit) (run_V (As := [.ref (a 0)]) (rest := []) (bs := [coC E x a a2 a3 b d k pa y w, hhC E b hs hg nx ct, stC E a g, diC E d co re]) (cb := [hhC E b hs hg nx ct, stC E a g]) hx hb hml hown hts hK hZ hA (c_X2_remember l E _ b hs hg nx ct a g (by omega) (by omega)) l_X5_76 rfl ⟨⟨rfl, rfl⟩, Nat.le_of_ble_eq_true rfl, Nat.le_of_ble_eq_true rfl⟩ 6 rfl [1, 2] rfl (by decide) rfl hP hD hS hl.1 rfl (Nat.le_of_ble_eq_true rfl) dX5_endQuarter_18 ⟨Nat.le_of_ble_eq_true rfl, Nat.le_of_ble_eq_true rfl⟩) hA hP hD hS (isC := [1, 2]) rfl [0, 3] [0, 2, 3, 1] (br := [coC E x a a2 a3 b d k pa y w, diC E d co re]) (bs2 := fun _ => [coC E x a a2 a3 b d k pa y w, hhC E b hs (upa hg nx g) ((nx + 1) % 8) (if 8 < ct + 1 then 8 else ct + 1), stC E a g, diC E d co re]) rfl (by decide) (fun _ => rfl) (by decide) (fun u H locs hw hP hD hS => ?_)
  refine lv_aload_n hx hb dX5_endQuarter_21 rfl (lv_at hl 0 rfl) ?_
  refine va_get (D := E.1) (ci := 9) (v := .ref (d 0)) (C := RX5) (T := TX5) (N := 11) hx hb hts inX5 hown hK hP 0 rfl rfl 4 (by decide) (hts _ q250) (fun _ h9 => h9) rfl dX5_endQuarter_22 ?_
  refine lv_aload_n hx hb dX5_endQuarter_25 rfl (lv_at hl 0 rfl) ?_
  refine va_get (D := E.1) (ci := 9) (v := .ref (a 0)) (C := RX5) (T := TX5) (N := 11) hx hb hts inX5 hown hK hP 0 rfl rfl 0 (by decide) (hts _ q246) (fun _ h9 => h9) rfl dX5_endQuarter_26 ?_
  refine run_i (S := (Nat → Nat) × (Nat → Nat)) (run_V (As := [.ref (a 0)]) (rest := []) (bs := [coC E x a a2 a3 b d k pa y w, hhC E b hs (upa hg nx g) ((nx + 1) % 8) (if 8 < ct + 1 then 8 else ct + 1), stC E a g, diC E d co re]) (cb := [diC E d co re, stC E a g]) hx hb hml hown hts hK hZ hA (c_X0_payOut l E _ d co re a g _ hI hz  ) l_X5_113 rfl ⟨⟨rfl, rfl⟩, Nat.le_of_ble_eq_true rfl, Nat.le_of_ble_eq_true rfl⟩ 4 rfl [3, 2] rfl (by decide) rfl hP hD hS hl.1 rfl (Nat.le_of_ble_eq_true rfl) dX5_endQuarter_29 ⟨Nat.le_of_ble_eq_true rfl, Nat.le_of_ble_eq_true rfl⟩) hA hP hD hS (isC := [3, 2]) rfl [0, 1] [0, 1, 3, 2] (br := [coC E x a a2 a3 b d k pa y w, hhC E b hs (upa hg nx g) ((nx + 1) % 8) (if 8 < ct + 1 then 8 else ct + 1)]) (bs2 := fun u => [coC E x a a2 a3 b d k pa y w, hhC E b hs (upa hg nx g) ((nx + 1) % 8) (if 8 < ct + 1 then 8 else ct + 1), stC E a (payG g), diC E d u.1 u.2]) rfl (by decide) (fun _ => rfl) (by decide) (fun r u H locs hw hP hD hS => ?_)
  obtain ⟨co_1, re_2⟩ := u
  subst hw
  have hP : va_P E.1 vwCl ([coC E x a a2 a3 b d k pa y w, hhC E b hs (upa hg nx g) ((nx + 1) % 8) (if 8 < ct + 1 then 8 else ct + 1), stC E a (payG g), diC E d co_1 re_2] : List va_W).flatten H := hP
  have hD : va_D A ([coC E x a a2 a3 b d k pa y w, hhC E b hs (upa hg nx g) ((nx + 1) % 8) (if 8 < ct + 1 then 8 else ct + 1), stC E a (payG g), diC E d co_1 re_2] : List va_W).flatten := hD
  exact hret _ _ (nI (g 8 2)) (co_1, re_2) _ _ _ _ hP hD hS rfl ⟨hf9, rfl⟩ dX5_endQuarter_32 (by omega) (by omega)
