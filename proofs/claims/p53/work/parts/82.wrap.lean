theorem qc1038 : (Cond.constantLong "CricketCooperativeLaw" 273 (1009 : Int64)) ∈ TG := tg_of 1038 (by decide +kernel) (by decide +kernel)
theorem qc1039 : (Cond.constantLong "CricketCooperativeLaw" 275 (101 : Int64)) ∈ TG := tg_of 1039 (by decide +kernel) (by decide +kernel)
theorem qc1040 : (Cond.constantLong "CricketCooperativeLaw" 277 (31 : Int64)) ∈ TG := tg_of 1040 (by decide +kernel) (by decide +kernel)
theorem qc1041 : (Cond.constantLong "CricketCooperativeLaw" 279 (7 : Int64)) ∈ TG := tg_of 1041 (by decide +kernel) (by decide +kernel)
theorem qc1046 : (Cond.constantLong "CricketCooperativeLaw" 284 (3 : Int64)) ∈ TG := tg_of 1046 (by decide +kernel) (by decide +kernel)
theorem qc1069 : (Cond.constantLong "CricketCooperativeLaw" 77 (-77 : Int64)) ∈ TG := tg_of 1069 (by decide +kernel) (by decide +kernel)
theorem qc1070 : (Cond.constantLong "CricketCooperativeLaw" 294 (100003 : Int64)) ∈ TG := tg_of 1070 (by decide +kernel) (by decide +kernel)
theorem qc1074 : (Cond.constantLong "CricketCooperativeLaw" 317 (-1 : Int64)) ∈ TG := tg_of 1074 (by decide +kernel) (by decide +kernel)
theorem qc1162 : (Cond.constantFloat "CricketCooperativeLaw" 127 (3264872448 : UInt32)) ∈ TG := tg_of 1162 (by decide +kernel) (by decide +kernel)
theorem qc1370 : (Cond.constantDouble "CricketCooperativeLaw" 121 (13858279740860792832 : UInt64)) ∈ TG := tg_of 1370 (by decide +kernel) (by decide +kernel)
abbrev rm_L_shares : Room := { frames := 8, cells := 1, slots := 6, locals := 142 }
set_option maxHeartbeats 4000000 in
set_option maxRecDepth 100000 in
theorem c_L_shares (l : Launch) (hst : l.stackTraces = false) (E : EE) (sz : Nat) (X hs : Nat → Nat → Nat) (w : Nat → Nat) (g g2 : GG) (B : Nat) (hI : IB B g) (hg : Nat → GG) (nx ct : Nat) (hnx : nx < 8) (hct : ct ≤ 8) (j : JT) (hj : JV j) (p0 : Int32) : MW l yL_shares cL_shares 3 [(0, 5, 6, 28)] rm_L_shares [.ref ((X 0) 0), .int p0] E sz (OB E X hs w g g2 hg nx ct j) (fun (r : Int32) (u : JT) => r = wf g (g 0) p0 ∧ JV u) (fun u => OB E X hs w g g2 hg nx ct u) 1 6 := by
  obtain ⟨g3, co, re, so, gw, q, F, v, ml, n, cp, t⟩ := j
  refine mw_go (by decide) (Nat.le_of_ble_eq_true rfl) ?_
  intro p e s m below meth c A Q ls hx hb hml hown hts hK hZ hDD hA hsz hP hD hl htab hret
  have hS : va_S A s.heap s.heap [] := va_S.rf
  have hP : va_P E.1 vwCl ([coC E (X 0) (X 1) (X 2) (X 3) (X 4) (X 5) (X 6) (X 7) (X 8) w, stC E (X 1) g, stC E (X 2) g2, stC E (X 3) g3, hhC E (X 4) hs hg nx ct, diC E (X 5) co re, grC E (X 6) so gw, prC E (X 7) q F, sbO E (X 8) v ml n, baC E v cp t] : List va_W).flatten s.heap := hP
  have hD : va_D A ([coC E (X 0) (X 1) (X 2) (X 3) (X 4) (X 5) (X 6) (X 7) (X 8) w, stC E (X 1) g, stC E (X 2) g2, stC E (X 3) g3, hhC E (X 4) hs hg nx ct, diC E (X 5) co re, grC E (X 6) so gw, prC E (X 7) q F, sbO E (X 8) v ml n, baC E v cp t] : List va_W).flatten := hD
  have hl : lv_has ls 3 [(0, .ref ((X 0) 0)), (1, .int p0)] := hl
  have hmc := hI.mc
  refine lv_aload_n hx hb dL_shares_0 rfl (lv_at hl 0 rfl) ?_
  refine lv_iload_n hx hb dL_shares_1 rfl (lv_at hl 1 rfl) ?_
  refine run_xi (S := Unit) (SX := Unit) (run_XV (As := [.int p0]) (rest := []) (bs := [coC E (X 0) (X 1) (X 2) (X 3) (X 4) (X 5) (X 6) (X 7) (X 8) w, stC E (X 1) g, stC E (X 2) g2, stC E (X 3) g3, hhC E (X 4) hs hg nx ct, diC E (X 5) co re, grC E (X 6) so gw, prC E (X 7) q F, sbO E (X 8) v ml n, baC E v cp t]) (cb := [coC E (X 0) (X 1) (X 2) (X 3) (X 4) (X 5) (X 6) (X 7) (X 8) w, stC E (X 1) g]) hx hb hml hown hts hK hZ hDD hA (c_X5_shares l hst E _ (X 0) (X 1) (X 2) (X 3) (X 4) (X 5) (X 6) (X 7) (X 8) w g B hI p0) l_L_50 rfl ⟨⟨rfl, rfl⟩, Nat.le_of_ble_eq_true rfl, Nat.le_of_ble_eq_true rfl⟩ 9 rfl [0, 1] rfl (by decide) rfl hP hD hS hl.1 rfl (Nat.le_of_ble_eq_true rfl) dL_shares_2 ⟨Nat.le_of_ble_eq_true rfl, Nat.le_of_ble_eq_true rfl⟩) hA hP hD hS (isC := [0, 1]) rfl [2, 3, 4, 5, 6, 7, 8, 9] [8, 9, 0, 1, 2, 3, 4, 5, 6, 7] (br := [stC E (X 2) g2, stC E (X 3) g3, hhC E (X 4) hs hg nx ct, diC E (X 5) co re, grC E (X 6) so gw, prC E (X 7) q F, sbO E (X 8) v ml n, baC E v cp t]) (bs2 := fun _ => [coC E (X 0) (X 1) (X 2) (X 3) (X 4) (X 5) (X 6) (X 7) (X 8) w, stC E (X 1) g, stC E (X 2) g2, stC E (X 3) g3, hhC E (X 4) hs hg nx ct, diC E (X 5) co re, grC E (X 6) so gw, prC E (X 7) q F, sbO E (X 8) v ml n, baC E v cp t]) (bx2 := fun _ => [coC E (X 0) (X 1) (X 2) (X 3) (X 4) (X 5) (X 6) (X 7) (X 8) w, stC E (X 1) g, stC E (X 2) g2, stC E (X 3) g3, hhC E (X 4) hs hg nx ct, diC E (X 5) co re, grC E (X 6) so gw, prC E (X 7) q F, sbO E (X 8) v ml n, baC E v cp t]) rfl (by decide) (fun _ => rfl) (fun _ => rfl) (by decide) (fun Ex ce q9 ux H locs hw hP hD hS hc1 hc2 hc3 => ?_) (fun r u H locs hw hP hD hS => ?_)
  · skip
    obtain ⟨hE, hq⟩ := hw
    subst hE
    refine vx_catch (own := RL) (name := IOX) hown [] ⟨0, 5, 6, 28⟩ [] (htab.trans rfl) (fun z hz => absurd hz List.not_mem_nil) rfl (by decide) (hts _ q322) (va_Nw.use rfl (hZ.2.2.1 _ (List.mem_of_getElem? (i := 0) rfl))) hc1 hc2 hc3 ?_
    refine lv_astore_n (lv' := [(2, .ref q9), (0, .ref ((X 0) 0)), (1, .int p0)]) hx hb dL_shares_6 rfl hl (by decide) rfl (fun ls hl => ?_)
    refine lv_bipush (v := -77) hx hb dL_shares_7 (by decide) ?_
    exact hret _ _ (-77 : Int32) (g3, co, re, so, gw, q, F, v, ml, n, cp, t) _ _ _ _ hP hD hS ⟨(if_neg (by rw [hq]; decide)).symm, hj⟩ dL_shares_9 (by omega) (by omega)
  exact hret _ _ r (g3, co, re, so, gw, q, F, v, ml, n, cp, t) _ _ _ _ hP hD hS ⟨(by rw [hw.2]; exact (if_pos hw.1).symm), hj⟩ dL_shares_5 (by omega) (by omega)
abbrev rm_L_spring : Room := { frames := 8, cells := 1, slots := 6, locals := 142 }
set_option maxHeartbeats 4000000 in
set_option maxRecDepth 100000 in
theorem c_L_spring (l : Launch) (hst : l.stackTraces = false) (E : EE) (sz : Nat) (X hs : Nat → Nat → Nat) (w : Nat → Nat) (g g2 : GG) (B : Nat) (hI : IB B g) (hg : Nat → GG) (nx ct : Nat) (hnx : nx < 8) (hct : ct ≤ 8) (j : JT) (hj : JV j) (p0 : Int32) : MW l yL_spring cL_spring 3 [(0, 5, 6, 28)] rm_L_spring [.ref ((X 0) 0), .int p0] E sz (OB E X hs w g g2 hg nx ct j) (fun (r : Int32) (u : JT) => r = wf g (g 4) p0 ∧ JV u) (fun u => OB E X hs w g g2 hg nx ct u) 1 6 := by
  obtain ⟨g3, co, re, so, gw, q, F, v, ml, n, cp, t⟩ := j
  refine mw_go (by decide) (Nat.le_of_ble_eq_true rfl) ?_
  intro p e s m below meth c A Q ls hx hb hml hown hts hK hZ hDD hA hsz hP hD hl htab hret
  have hS : va_S A s.heap s.heap [] := va_S.rf
  have hP : va_P E.1 vwCl ([coC E (X 0) (X 1) (X 2) (X 3) (X 4) (X 5) (X 6) (X 7) (X 8) w, stC E (X 1) g, stC E (X 2) g2, stC E (X 3) g3, hhC E (X 4) hs hg nx ct, diC E (X 5) co re, grC E (X 6) so gw, prC E (X 7) q F, sbO E (X 8) v ml n, baC E v cp t] : List va_W).flatten s.heap := hP
  have hD : va_D A ([coC E (X 0) (X 1) (X 2) (X 3) (X 4) (X 5) (X 6) (X 7) (X 8) w, stC E (X 1) g, stC E (X 2) g2, stC E (X 3) g3, hhC E (X 4) hs hg nx ct, diC E (X 5) co re, grC E (X 6) so gw, prC E (X 7) q F, sbO E (X 8) v ml n, baC E v cp t] : List va_W).flatten := hD
  have hl : lv_has ls 3 [(0, .ref ((X 0) 0)), (1, .int p0)] := hl
  have hmc := hI.mc
  refine lv_aload_n hx hb dL_spring_0 rfl (lv_at hl 0 rfl) ?_
  refine lv_iload_n hx hb dL_spring_1 rfl (lv_at hl 1 rfl) ?_
  refine run_xi (S := Unit) (SX := Unit) (run_XV (As := [.int p0]) (rest := []) (bs := [coC E (X 0) (X 1) (X 2) (X 3) (X 4) (X 5) (X 6) (X 7) (X 8) w, stC E (X 1) g, stC E (X 2) g2, stC E (X 3) g3, hhC E (X 4) hs hg nx ct, diC E (X 5) co re, grC E (X 6) so gw, prC E (X 7) q F, sbO E (X 8) v ml n, baC E v cp t]) (cb := [coC E (X 0) (X 1) (X 2) (X 3) (X 4) (X 5) (X 6) (X 7) (X 8) w, stC E (X 1) g]) hx hb hml hown hts hK hZ hDD hA (c_X5_spring l hst E _ (X 0) (X 1) (X 2) (X 3) (X 4) (X 5) (X 6) (X 7) (X 8) w g B hI p0) l_L_53 rfl ⟨⟨rfl, rfl⟩, Nat.le_of_ble_eq_true rfl, Nat.le_of_ble_eq_true rfl⟩ 9 rfl [0, 1] rfl (by decide) rfl hP hD hS hl.1 rfl (Nat.le_of_ble_eq_true rfl) dL_spring_2 ⟨Nat.le_of_ble_eq_true rfl, Nat.le_of_ble_eq_true rfl⟩) hA hP hD hS (isC := [0, 1]) rfl [2, 3, 4, 5, 6, 7, 8, 9] [8, 9, 0, 1, 2, 3, 4, 5, 6, 7] (br := [stC E (X 2) g2, stC E (X 3) g3, hhC E (X 4) hs hg nx ct, diC E (X 5) co re, grC E (X 6) so gw, prC E (X 7) q F, sbO E (X 8) v ml n, baC E v cp t]) (bs2 := fun _ => [coC E (X 0) (X 1) (X 2) (X 3) (X 4) (X 5) (X 6) (X 7) (X 8) w, stC E (X 1) g, stC E (X 2) g2, stC E (X 3) g3, hhC E (X 4) hs hg nx ct, diC E (X 5) co re, grC E (X 6) so gw, prC E (X 7) q F, sbO E (X 8) v ml n, baC E v cp t]) (bx2 := fun _ => [coC E (X 0) (X 1) (X 2) (X 3) (X 4) (X 5) (X 6) (X 7) (X 8) w, stC E (X 1) g, stC E (X 2) g2, stC E (X 3) g3, hhC E (X 4) hs hg nx ct, diC E (X 5) co re, grC E (X 6) so gw, prC E (X 7) q F, sbO E (X 8) v ml n, baC E v cp t]) rfl (by decide) (fun _ => rfl) (fun _ => rfl) (by decide) (fun Ex ce q9 ux H locs hw hP hD hS hc1 hc2 hc3 => ?_) (fun r u H locs hw hP hD hS => ?_)
  · skip
    obtain ⟨hE, hq⟩ := hw
    subst hE
    refine vx_catch (own := RL) (name := IOX) hown [] ⟨0, 5, 6, 28⟩ [] (htab.trans rfl) (fun z hz => absurd hz List.not_mem_nil) rfl (by decide) (hts _ q322) (va_Nw.use rfl (hZ.2.2.1 _ (List.mem_of_getElem? (i := 0) rfl))) hc1 hc2 hc3 ?_
    refine lv_astore_n (lv' := [(2, .ref q9), (0, .ref ((X 0) 0)), (1, .int p0)]) hx hb dL_spring_6 rfl hl (by decide) rfl (fun ls hl => ?_)
    refine lv_bipush (v := -77) hx hb dL_spring_7 (by decide) ?_
    exact hret _ _ (-77 : Int32) (g3, co, re, so, gw, q, F, v, ml, n, cp, t) _ _ _ _ hP hD hS ⟨(if_neg (by rw [hq]; decide)).symm, hj⟩ dL_spring_9 (by omega) (by omega)
  exact hret _ _ r (g3, co, re, so, gw, q, F, v, ml, n, cp, t) _ _ _ _ hP hD hS ⟨(by rw [hw.2]; exact (if_pos hw.1).symm), hj⟩ dL_spring_5 (by omega) (by omega)
abbrev rm_L_purse : Room := { frames := 8, cells := 1, slots := 6, locals := 142 }
set_option maxHeartbeats 4000000 in
set_option maxRecDepth 100000 in
theorem c_L_purse (l : Launch) (hst : l.stackTraces = false) (E : EE) (sz : Nat) (X hs : Nat → Nat → Nat) (w : Nat → Nat) (g g2 : GG) (B : Nat) (hI : IB B g) (hg : Nat → GG) (nx ct : Nat) (hnx : nx < 8) (hct : ct ≤ 8) (j : JT) (hj : JV j) (p0 : Int32) : MW l yL_purse cL_purse 3 [(0, 5, 6, 28)] rm_L_purse [.ref ((X 0) 0), .int p0] E sz (OB E X hs w g g2 hg nx ct j) (fun (r : Int32) (u : JT) => r = wf g (g 5) p0 ∧ JV u) (fun u => OB E X hs w g g2 hg nx ct u) 1 6 := by
  obtain ⟨g3, co, re, so, gw, q, F, v, ml, n, cp, t⟩ := j
  refine mw_go (by decide) (Nat.le_of_ble_eq_true rfl) ?_
  intro p e s m below meth c A Q ls hx hb hml hown hts hK hZ hDD hA hsz hP hD hl htab hret
  have hS : va_S A s.heap s.heap [] := va_S.rf
  have hP : va_P E.1 vwCl ([coC E (X 0) (X 1) (X 2) (X 3) (X 4) (X 5) (X 6) (X 7) (X 8) w, stC E (X 1) g, stC E (X 2) g2, stC E (X 3) g3, hhC E (X 4) hs hg nx ct, diC E (X 5) co re, grC E (X 6) so gw, prC E (X 7) q F, sbO E (X 8) v ml n, baC E v cp t] : List va_W).flatten s.heap := hP
  have hD : va_D A ([coC E (X 0) (X 1) (X 2) (X 3) (X 4) (X 5) (X 6) (X 7) (X 8) w, stC E (X 1) g, stC E (X 2) g2, stC E (X 3) g3, hhC E (X 4) hs hg nx ct, diC E (X 5) co re, grC E (X 6) so gw, prC E (X 7) q F, sbO E (X 8) v ml n, baC E v cp t] : List va_W).flatten := hD
  have hl : lv_has ls 3 [(0, .ref ((X 0) 0)), (1, .int p0)] := hl
  have hmc := hI.mc
  refine lv_aload_n hx hb dL_purse_0 rfl (lv_at hl 0 rfl) ?_
  refine lv_iload_n hx hb dL_purse_1 rfl (lv_at hl 1 rfl) ?_
  refine run_xi (S := Unit) (SX := Unit) (run_XV (As := [.int p0]) (rest := []) (bs := [coC E (X 0) (X 1) (X 2) (X 3) (X 4) (X 5) (X 6) (X 7) (X 8) w, stC E (X 1) g, stC E (X 2) g2, stC E (X 3) g3, hhC E (X 4) hs hg nx ct, diC E (X 5) co re, grC E (X 6) so gw, prC E (X 7) q F, sbO E (X 8) v ml n, baC E v cp t]) (cb := [coC E (X 0) (X 1) (X 2) (X 3) (X 4) (X 5) (X 6) (X 7) (X 8) w, stC E (X 1) g]) hx hb hml hown hts hK hZ hDD hA (c_X5_purse l hst E _ (X 0) (X 1) (X 2) (X 3) (X 4) (X 5) (X 6) (X 7) (X 8) w g B hI p0) l_L_59 rfl ⟨⟨rfl, rfl⟩, Nat.le_of_ble_eq_true rfl, Nat.le_of_ble_eq_true rfl⟩ 9 rfl [0, 1] rfl (by decide) rfl hP hD hS hl.1 rfl (Nat.le_of_ble_eq_true rfl) dL_purse_2 ⟨Nat.le_of_ble_eq_true rfl, Nat.le_of_ble_eq_true rfl⟩) hA hP hD hS (isC := [0, 1]) rfl [2, 3, 4, 5, 6, 7, 8, 9] [8, 9, 0, 1, 2, 3, 4, 5, 6, 7] (br := [stC E (X 2) g2, stC E (X 3) g3, hhC E (X 4) hs hg nx ct, diC E (X 5) co re, grC E (X 6) so gw, prC E (X 7) q F, sbO E (X 8) v ml n, baC E v cp t]) (bs2 := fun _ => [coC E (X 0) (X 1) (X 2) (X 3) (X 4) (X 5) (X 6) (X 7) (X 8) w, stC E (X 1) g, stC E (X 2) g2, stC E (X 3) g3, hhC E (X 4) hs hg nx ct, diC E (X 5) co re, grC E (X 6) so gw, prC E (X 7) q F, sbO E (X 8) v ml n, baC E v cp t]) (bx2 := fun _ => [coC E (X 0) (X 1) (X 2) (X 3) (X 4) (X 5) (X 6) (X 7) (X 8) w, stC E (X 1) g, stC E (X 2) g2, stC E (X 3) g3, hhC E (X 4) hs hg nx ct, diC E (X 5) co re, grC E (X 6) so gw, prC E (X 7) q F, sbO E (X 8) v ml n, baC E v cp t]) rfl (by decide) (fun _ => rfl) (fun _ => rfl) (by decide) (fun Ex ce q9 ux H locs hw hP hD hS hc1 hc2 hc3 => ?_) (fun r u H locs hw hP hD hS => ?_)
  · skip
    obtain ⟨hE, hq⟩ := hw
    subst hE
    refine vx_catch (own := RL) (name := IOX) hown [] ⟨0, 5, 6, 28⟩ [] (htab.trans rfl) (fun z hz => absurd hz List.not_mem_nil) rfl (by decide) (hts _ q322) (va_Nw.use rfl (hZ.2.2.1 _ (List.mem_of_getElem? (i := 0) rfl))) hc1 hc2 hc3 ?_
    refine lv_astore_n (lv' := [(2, .ref q9), (0, .ref ((X 0) 0)), (1, .int p0)]) hx hb dL_purse_6 rfl hl (by decide) rfl (fun ls hl => ?_)
    refine lv_bipush (v := -77) hx hb dL_purse_7 (by decide) ?_
    exact hret _ _ (-77 : Int32) (g3, co, re, so, gw, q, F, v, ml, n, cp, t) _ _ _ _ hP hD hS ⟨(if_neg (by rw [hq]; decide)).symm, hj⟩ dL_purse_9 (by omega) (by omega)
  exact hret _ _ r (g3, co, re, so, gw, q, F, v, ml, n, cp, t) _ _ _ _ hP hD hS ⟨(by rw [hw.2]; exact (if_pos hw.1).symm), hj⟩ dL_purse_5 (by omega) (by omega)
abbrev rm_L_dissents : Room := { frames := 8, cells := 1, slots := 6, locals := 142 }
set_option maxHeartbeats 4000000 in
set_option maxRecDepth 100000 in
theorem c_L_dissents (l : Launch) (hst : l.stackTraces = false) (E : EE) (sz : Nat) (X hs : Nat → Nat → Nat) (w : Nat → Nat) (g g2 : GG) (B : Nat) (hI : IB B g) (hg : Nat → GG) (nx ct : Nat) (hnx : nx < 8) (hct : ct ≤ 8) (j : JT) (hj : JV j) (p0 : Int32) : MW l yL_dissents cL_dissents 3 [(0, 5, 6, 28)] rm_L_dissents [.ref ((X 0) 0), .int p0] E sz (OB E X hs w g g2 hg nx ct j) (fun (r : Int32) (u : JT) => r = wf g (g 6) p0 ∧ JV u) (fun u => OB E X hs w g g2 hg nx ct u) 1 6 := by
  obtain ⟨g3, co, re, so, gw, q, F, v, ml, n, cp, t⟩ := j
  refine mw_go (by decide) (Nat.le_of_ble_eq_true rfl) ?_
  intro p e s m below meth c A Q ls hx hb hml hown hts hK hZ hDD hA hsz hP hD hl htab hret
  have hS : va_S A s.heap s.heap [] := va_S.rf
  have hP : va_P E.1 vwCl ([coC E (X 0) (X 1) (X 2) (X 3) (X 4) (X 5) (X 6) (X 7) (X 8) w, stC E (X 1) g, stC E (X 2) g2, stC E (X 3) g3, hhC E (X 4) hs hg nx ct, diC E (X 5) co re, grC E (X 6) so gw, prC E (X 7) q F, sbO E (X 8) v ml n, baC E v cp t] : List va_W).flatten s.heap := hP
  have hD : va_D A ([coC E (X 0) (X 1) (X 2) (X 3) (X 4) (X 5) (X 6) (X 7) (X 8) w, stC E (X 1) g, stC E (X 2) g2, stC E (X 3) g3, hhC E (X 4) hs hg nx ct, diC E (X 5) co re, grC E (X 6) so gw, prC E (X 7) q F, sbO E (X 8) v ml n, baC E v cp t] : List va_W).flatten := hD
  have hl : lv_has ls 3 [(0, .ref ((X 0) 0)), (1, .int p0)] := hl
  have hmc := hI.mc
  refine lv_aload_n hx hb dL_dissents_0 rfl (lv_at hl 0 rfl) ?_
  refine lv_iload_n hx hb dL_dissents_1 rfl (lv_at hl 1 rfl) ?_
  refine run_xi (S := Unit) (SX := Unit) (run_XV (As := [.int p0]) (rest := []) (bs := [coC E (X 0) (X 1) (X 2) (X 3) (X 4) (X 5) (X 6) (X 7) (X 8) w, stC E (X 1) g, stC E (X 2) g2, stC E (X 3) g3, hhC E (X 4) hs hg nx ct, diC E (X 5) co re, grC E (X 6) so gw, prC E (X 7) q F, sbO E (X 8) v ml n, baC E v cp t]) (cb := [coC E (X 0) (X 1) (X 2) (X 3) (X 4) (X 5) (X 6) (X 7) (X 8) w, stC E (X 1) g]) hx hb hml hown hts hK hZ hDD hA (c_X5_dissents l hst E _ (X 0) (X 1) (X 2) (X 3) (X 4) (X 5) (X 6) (X 7) (X 8) w g B hI p0) l_L_62 rfl ⟨⟨rfl, rfl⟩, Nat.le_of_ble_eq_true rfl, Nat.le_of_ble_eq_true rfl⟩ 9 rfl [0, 1] rfl (by decide) rfl hP hD hS hl.1 rfl (Nat.le_of_ble_eq_true rfl) dL_dissents_2 ⟨Nat.le_of_ble_eq_true rfl, Nat.le_of_ble_eq_true rfl⟩) hA hP hD hS (isC := [0, 1]) rfl [2, 3, 4, 5, 6, 7, 8, 9] [8, 9, 0, 1, 2, 3, 4, 5, 6, 7] (br := [stC E (X 2) g2, stC E (X 3) g3, hhC E (X 4) hs hg nx ct, diC E (X 5) co re, grC E (X 6) so gw, prC E (X 7) q F, sbO E (X 8) v ml n, baC E v cp t]) (bs2 := fun _ => [coC E (X 0) (X 1) (X 2) (X 3) (X 4) (X 5) (X 6) (X 7) (X 8) w, stC E (X 1) g, stC E (X 2) g2, stC E (X 3) g3, hhC E (X 4) hs hg nx ct, diC E (X 5) co re, grC E (X 6) so gw, prC E (X 7) q F, sbO E (X 8) v ml n, baC E v cp t]) (bx2 := fun _ => [coC E (X 0) (X 1) (X 2) (X 3) (X 4) (X 5) (X 6) (X 7) (X 8) w, stC E (X 1) g, stC E (X 2) g2, stC E (X 3) g3, hhC E (X 4) hs hg nx ct, diC E (X 5) co re, grC E (X 6) so gw, prC E (X 7) q F, sbO E (X 8) v ml n, baC E v cp t]) rfl (by decide) (fun _ => rfl) (fun _ => rfl) (by decide) (fun Ex ce q9 ux H locs hw hP hD hS hc1 hc2 hc3 => ?_) (fun r u H locs hw hP hD hS => ?_)
  · skip
    obtain ⟨hE, hq⟩ := hw
    subst hE
    refine vx_catch (own := RL) (name := IOX) hown [] ⟨0, 5, 6, 28⟩ [] (htab.trans rfl) (fun z hz => absurd hz List.not_mem_nil) rfl (by decide) (hts _ q322) (va_Nw.use rfl (hZ.2.2.1 _ (List.mem_of_getElem? (i := 0) rfl))) hc1 hc2 hc3 ?_
    refine lv_astore_n (lv' := [(2, .ref q9), (0, .ref ((X 0) 0)), (1, .int p0)]) hx hb dL_dissents_6 rfl hl (by decide) rfl (fun ls hl => ?_)
    refine lv_bipush (v := -77) hx hb dL_dissents_7 (by decide) ?_
    exact hret _ _ (-77 : Int32) (g3, co, re, so, gw, q, F, v, ml, n, cp, t) _ _ _ _ hP hD hS ⟨(if_neg (by rw [hq]; decide)).symm, hj⟩ dL_dissents_9 (by omega) (by omega)
  exact hret _ _ r (g3, co, re, so, gw, q, F, v, ml, n, cp, t) _ _ _ _ hP hD hS ⟨(by rw [hw.2]; exact (if_pos hw.1).symm), hj⟩ dL_dissents_5 (by omega) (by omega)
abbrev rm_L_earningsIn : Room := { frames := 7, cells := 1, slots := 6, locals := 162 }
set_option maxHeartbeats 4000000 in
set_option maxRecDepth 100000 in
theorem c_L_earningsIn (l : Launch) (hst : l.stackTraces = false) (E : EE) (sz : Nat) (X hs : Nat → Nat → Nat) (w : Nat → Nat) (g g2 : GG) (B : Nat) (hI : IB B g) (hg : Nat → GG) (nx ct : Nat) (hnx : nx < 8) (hct : ct ≤ 8) (j : JT) (hj : JV j) (hB60 : B + 60 ≤ 300000) (p0 : Int32) : MW l yL_earningsIn cL_earningsIn 3 [(0, 5, 6, 20)] rm_L_earningsIn [.ref ((X 0) 0), .int p0] E sz (OB E X hs w g g2 hg nx ct j) (fun (r : Int32) (u : JT) => r = wea g p0 ∧ JV u) (fun u => OB E X hs w g g2 hg nx ct u) 1 6 := by
  obtain ⟨g3, co, re, so, gw, q, F, v, ml, n, cp, t⟩ := j
  refine mw_go (by decide) (Nat.le_of_ble_eq_true rfl) ?_
  intro p e s m below meth c A Q ls hx hb hml hown hts hK hZ hDD hA hsz hP hD hl htab hret
  have hS : va_S A s.heap s.heap [] := va_S.rf
  have hP : va_P E.1 vwCl ([coC E (X 0) (X 1) (X 2) (X 3) (X 4) (X 5) (X 6) (X 7) (X 8) w, stC E (X 1) g, stC E (X 2) g2, stC E (X 3) g3, hhC E (X 4) hs hg nx ct, diC E (X 5) co re, grC E (X 6) so gw, prC E (X 7) q F, sbO E (X 8) v ml n, baC E v cp t] : List va_W).flatten s.heap := hP
  have hD : va_D A ([coC E (X 0) (X 1) (X 2) (X 3) (X 4) (X 5) (X 6) (X 7) (X 8) w, stC E (X 1) g, stC E (X 2) g2, stC E (X 3) g3, hhC E (X 4) hs hg nx ct, diC E (X 5) co re, grC E (X 6) so gw, prC E (X 7) q F, sbO E (X 8) v ml n, baC E v cp t] : List va_W).flatten := hD
  have hl : lv_has ls 3 [(0, .ref ((X 0) 0)), (1, .int p0)] := hl
  have hmc := hI.mc
  refine lv_aload_n hx hb dL_earningsIn_0 rfl (lv_at hl 0 rfl) ?_
  refine lv_iload_n hx hb dL_earningsIn_1 rfl (lv_at hl 1 rfl) ?_
  refine run_xi (S := GG) (SX := Unit) (run_XV (As := [.int p0]) (rest := []) (bs := [coC E (X 0) (X 1) (X 2) (X 3) (X 4) (X 5) (X 6) (X 7) (X 8) w, stC E (X 1) g, stC E (X 2) g2, stC E (X 3) g3, hhC E (X 4) hs hg nx ct, diC E (X 5) co re, grC E (X 6) so gw, prC E (X 7) q F, sbO E (X 8) v ml n, baC E v cp t]) (cb := [coC E (X 0) (X 1) (X 2) (X 3) (X 4) (X 5) (X 6) (X 7) (X 8) w, stC E (X 1) g, stC E (X 3) g3]) hx hb hml hown hts hK hZ hDD hA (c_X5_earningsIn l hst E _ (X 0) (X 1) (X 2) (X 3) (X 4) (X 5) (X 6) (X 7) (X 8) w g B hI g3 hB60 p0) l_L_88 rfl ⟨⟨rfl, rfl⟩, Nat.le_of_ble_eq_true rfl, Nat.le_of_ble_eq_true rfl⟩ 9 rfl [0, 1, 3] rfl (by decide) rfl hP hD hS hl.1 rfl (Nat.le_of_ble_eq_true rfl) dL_earningsIn_2 ⟨Nat.le_of_ble_eq_true rfl, Nat.le_of_ble_eq_true rfl⟩) hA hP hD hS (isC := [0, 1, 3]) rfl [2, 4, 5, 6, 7, 8, 9] [7, 8, 0, 9, 1, 2, 3, 4, 5, 6] (br := [stC E (X 2) g2, hhC E (X 4) hs hg nx ct, diC E (X 5) co re, grC E (X 6) so gw, prC E (X 7) q F, sbO E (X 8) v ml n, baC E v cp t]) (bs2 := fun u => [coC E (X 0) (X 1) (X 2) (X 3) (X 4) (X 5) (X 6) (X 7) (X 8) w, stC E (X 1) g, stC E (X 2) g2, stC E (X 3) u, hhC E (X 4) hs hg nx ct, diC E (X 5) co re, grC E (X 6) so gw, prC E (X 7) q F, sbO E (X 8) v ml n, baC E v cp t]) (bx2 := fun _ => [coC E (X 0) (X 1) (X 2) (X 3) (X 4) (X 5) (X 6) (X 7) (X 8) w, stC E (X 1) g, stC E (X 2) g2, stC E (X 3) g3, hhC E (X 4) hs hg nx ct, diC E (X 5) co re, grC E (X 6) so gw, prC E (X 7) q F, sbO E (X 8) v ml n, baC E v cp t]) rfl (by decide) (fun _ => rfl) (fun _ => rfl) (by decide) (fun Ex ce q9 ux H locs hw hP hD hS hc1 hc2 hc3 => ?_) (fun r u H locs hw hP hD hS => ?_)
  · skip
    obtain ⟨hE, hq⟩ := hw
    subst hE
    refine vx_catch (own := RL) (name := IAX) hown [] ⟨0, 5, 6, 20⟩ [] (htab.trans rfl) (fun z hz => absurd hz List.not_mem_nil) rfl (by decide) (hts _ q451) (va_Nw.use rfl (hZ.2.2.1 _ (List.mem_of_getElem? (i := 1) rfl))) hc1 hc2 hc3 ?_
    refine lv_astore_n (lv' := [(2, .ref q9), (0, .ref ((X 0) 0)), (1, .int p0)]) hx hb dL_earningsIn_6 rfl hl (by decide) rfl (fun ls hl => ?_)
    refine lv_bipush (v := -78) hx hb dL_earningsIn_7 (by decide) ?_
    exact hret _ _ (-78 : Int32) (g3, co, re, so, gw, q, F, v, ml, n, cp, t) _ _ _ _ hP hD hS ⟨(if_neg hq).symm, hj⟩ dL_earningsIn_9 (by omega) (by omega)
  exact hret _ _ r (u, co, re, so, gw, q, F, v, ml, n, cp, t) _ _ _ _ hP hD hS ⟨(by rw [hw.2]; exact (if_pos hw.1).symm), hj⟩ dL_earningsIn_5 (by omega) (by omega)
abbrev rm_L_dividend : Room := { frames := 8, cells := 1, slots := 6, locals := 213 }
set_option maxHeartbeats 4000000 in
set_option maxRecDepth 100000 in
theorem c_L_dividend (l : Launch) (hst : l.stackTraces = false) (E : EE) (sz : Nat) (X hs : Nat → Nat → Nat) (w : Nat → Nat) (g g2 : GG) (B : Nat) (hI : IB B g) (hg : Nat → GG) (nx ct : Nat) (hnx : nx < 8) (hct : ct ≤ 8) (j : JT) (hj : JV j) (p0 : Int32) : MW l yL_dividend cL_dividend 3 [(0, 5, 6, 28)] rm_L_dividend [.ref ((X 0) 0), .int p0] E sz (OB E X hs w g g2 hg nx ct j) (fun (r : Int32) (u : JT) => r = wf g (dv g) p0 ∧ JV u) (fun u => OB E X hs w g g2 hg nx ct u) 1 6 := by
  obtain ⟨g3, co, re, so, gw, q, F, v, ml, n, cp, t⟩ := j
  refine mw_go (by decide) (Nat.le_of_ble_eq_true rfl) ?_
  intro p e s m below meth c A Q ls hx hb hml hown hts hK hZ hDD hA hsz hP hD hl htab hret
  have hS : va_S A s.heap s.heap [] := va_S.rf
  have hP : va_P E.1 vwCl ([coC E (X 0) (X 1) (X 2) (X 3) (X 4) (X 5) (X 6) (X 7) (X 8) w, stC E (X 1) g, stC E (X 2) g2, stC E (X 3) g3, hhC E (X 4) hs hg nx ct, diC E (X 5) co re, grC E (X 6) so gw, prC E (X 7) q F, sbO E (X 8) v ml n, baC E v cp t] : List va_W).flatten s.heap := hP
  have hD : va_D A ([coC E (X 0) (X 1) (X 2) (X 3) (X 4) (X 5) (X 6) (X 7) (X 8) w, stC E (X 1) g, stC E (X 2) g2, stC E (X 3) g3, hhC E (X 4) hs hg nx ct, diC E (X 5) co re, grC E (X 6) so gw, prC E (X 7) q F, sbO E (X 8) v ml n, baC E v cp t] : List va_W).flatten := hD
  have hl : lv_has ls 3 [(0, .ref ((X 0) 0)), (1, .int p0)] := hl
  have hmc := hI.mc
  refine lv_aload_n hx hb dL_dividend_0 rfl (lv_at hl 0 rfl) ?_
  refine lv_iload_n hx hb dL_dividend_1 rfl (lv_at hl 1 rfl) ?_
  refine run_xi (S := (Nat → Nat) × (Nat → Nat)) (SX := Unit) (run_XV (As := [.int p0]) (rest := []) (bs := [coC E (X 0) (X 1) (X 2) (X 3) (X 4) (X 5) (X 6) (X 7) (X 8) w, stC E (X 1) g, stC E (X 2) g2, stC E (X 3) g3, hhC E (X 4) hs hg nx ct, diC E (X 5) co re, grC E (X 6) so gw, prC E (X 7) q F, sbO E (X 8) v ml n, baC E v cp t]) (cb := [coC E (X 0) (X 1) (X 2) (X 3) (X 4) (X 5) (X 6) (X 7) (X 8) w, stC E (X 1) g, diC E (X 5) co re]) hx hb hml hown hts hK hZ hDD hA (c_X5_dividend l hst E _ (X 0) (X 1) (X 2) (X 3) (X 4) (X 5) (X 6) (X 7) (X 8) w g B hI co re p0) l_L_91 rfl ⟨⟨rfl, rfl⟩, Nat.le_of_ble_eq_true rfl, Nat.le_of_ble_eq_true rfl⟩ 9 rfl [0, 1, 5] rfl (by decide) rfl hP hD hS hl.1 rfl (Nat.le_of_ble_eq_true rfl) dL_dividend_2 ⟨Nat.le_of_ble_eq_true rfl, Nat.le_of_ble_eq_true rfl⟩) hA hP hD hS (isC := [0, 1, 5]) rfl [2, 3, 4, 6, 7, 8, 9] [7, 8, 0, 1, 2, 9, 3, 4, 5, 6] (br := [stC E (X 2) g2, stC E (X 3) g3, hhC E (X 4) hs hg nx ct, grC E (X 6) so gw, prC E (X 7) q F, sbO E (X 8) v ml n, baC E v cp t]) (bs2 := fun u => [coC E (X 0) (X 1) (X 2) (X 3) (X 4) (X 5) (X 6) (X 7) (X 8) w, stC E (X 1) g, stC E (X 2) g2, stC E (X 3) g3, hhC E (X 4) hs hg nx ct, diC E (X 5) u.1 u.2, grC E (X 6) so gw, prC E (X 7) q F, sbO E (X 8) v ml n, baC E v cp t]) (bx2 := fun _ => [coC E (X 0) (X 1) (X 2) (X 3) (X 4) (X 5) (X 6) (X 7) (X 8) w, stC E (X 1) g, stC E (X 2) g2, stC E (X 3) g3, hhC E (X 4) hs hg nx ct, diC E (X 5) co re, grC E (X 6) so gw, prC E (X 7) q F, sbO E (X 8) v ml n, baC E v cp t]) rfl (by decide) (fun _ => rfl) (fun _ => rfl) (by decide) (fun Ex ce q9 ux H locs hw hP hD hS hc1 hc2 hc3 => ?_) (fun r u H locs hw hP hD hS => ?_)
  · skip
    obtain ⟨hE, hq⟩ := hw
    subst hE
    refine vx_catch (own := RL) (name := IOX) hown [] ⟨0, 5, 6, 28⟩ [] (htab.trans rfl) (fun z hz => absurd hz List.not_mem_nil) rfl (by decide) (hts _ q322) (va_Nw.use rfl (hZ.2.2.1 _ (List.mem_of_getElem? (i := 0) rfl))) hc1 hc2 hc3 ?_
    refine lv_astore_n (lv' := [(2, .ref q9), (0, .ref ((X 0) 0)), (1, .int p0)]) hx hb dL_dividend_6 rfl hl (by decide) rfl (fun ls hl => ?_)
    refine lv_bipush (v := -77) hx hb dL_dividend_7 (by decide) ?_
    exact hret _ _ (-77 : Int32) (g3, co, re, so, gw, q, F, v, ml, n, cp, t) _ _ _ _ hP hD hS ⟨(if_neg (by rw [hq]; decide)).symm, hj⟩ dL_dividend_9 (by omega) (by omega)
  exact hret _ _ r (g3, u.1, u.2, so, gw, q, F, v, ml, n, cp, t) _ _ _ _ hP hD hS ⟨(by rw [hw.2]; exact (if_pos hw.1).symm), hj⟩ dL_dividend_5 (by omega) (by omega)
abbrev rm_L_sharesInFavour : Room := { frames := 8, cells := 1, slots := 6, locals := 142 }
set_option maxHeartbeats 4000000 in
set_option maxRecDepth 100000 in
theorem c_L_sharesInFavour (l : Launch) (hst : l.stackTraces = false) (E : EE) (sz : Nat) (X hs : Nat → Nat → Nat) (w : Nat → Nat) (g g2 : GG) (B : Nat) (hI : IB B g) (hg : Nat → GG) (nx ct : Nat) (hnx : nx < 8) (hct : ct ≤ 8) (j : JT) (hj : JV j) (p0 : Int32) (p1 : Int32) : MW l yL_sharesInFavour cL_sharesInFavour 4 [(0, 6, 7, 20)] rm_L_sharesInFavour [.ref ((X 0) 0), .int p0, .int p1] E sz (OB E X hs w g g2 hg nx ct j) (fun (r : Int32) (u : JT) => r = wfv g p0 p1 ∧ JV u) (fun u => OB E X hs w g g2 hg nx ct u) 1 6 := by
  obtain ⟨g3, co, re, so, gw, q, F, v, ml, n, cp, t⟩ := j
  refine mw_go (by decide) (Nat.le_of_ble_eq_true rfl) ?_
  intro p e s m below meth c A Q ls hx hb hml hown hts hK hZ hDD hA hsz hP hD hl htab hret
  have hS : va_S A s.heap s.heap [] := va_S.rf
  have hP : va_P E.1 vwCl ([coC E (X 0) (X 1) (X 2) (X 3) (X 4) (X 5) (X 6) (X 7) (X 8) w, stC E (X 1) g, stC E (X 2) g2, stC E (X 3) g3, hhC E (X 4) hs hg nx ct, diC E (X 5) co re, grC E (X 6) so gw, prC E (X 7) q F, sbO E (X 8) v ml n, baC E v cp t] : List va_W).flatten s.heap := hP
  have hD : va_D A ([coC E (X 0) (X 1) (X 2) (X 3) (X 4) (X 5) (X 6) (X 7) (X 8) w, stC E (X 1) g, stC E (X 2) g2, stC E (X 3) g3, hhC E (X 4) hs hg nx ct, diC E (X 5) co re, grC E (X 6) so gw, prC E (X 7) q F, sbO E (X 8) v ml n, baC E v cp t] : List va_W).flatten := hD
  have hl : lv_has ls 4 [(0, .ref ((X 0) 0)), (1, .int p0), (2, .int p1)] := hl
  have hmc := hI.mc
  refine lv_aload_n hx hb dL_sharesInFavour_0 rfl (lv_at hl 0 rfl) ?_
  refine lv_iload_n hx hb dL_sharesInFavour_1 rfl (lv_at hl 1 rfl) ?_
  refine lv_iload_n hx hb dL_sharesInFavour_2 rfl (lv_at hl 2 rfl) ?_
  refine run_xi (S := Unit) (SX := Unit) (run_XV (As := [.int p0, .int p1]) (rest := []) (bs := [coC E (X 0) (X 1) (X 2) (X 3) (X 4) (X 5) (X 6) (X 7) (X 8) w, stC E (X 1) g, stC E (X 2) g2, stC E (X 3) g3, hhC E (X 4) hs hg nx ct, diC E (X 5) co re, grC E (X 6) so gw, prC E (X 7) q F, sbO E (X 8) v ml n, baC E v cp t]) (cb := [coC E (X 0) (X 1) (X 2) (X 3) (X 4) (X 5) (X 6) (X 7) (X 8) w, stC E (X 1) g]) hx hb hml hown hts hK hZ hDD hA (c_X5_sharesInFavour l hst E _ (X 0) (X 1) (X 2) (X 3) (X 4) (X 5) (X 6) (X 7) (X 8) w g B hI p0 p1) l_L_97 rfl ⟨⟨rfl, rfl⟩, Nat.le_of_ble_eq_true rfl, Nat.le_of_ble_eq_true rfl⟩ 9 rfl [0, 1] rfl (by decide) rfl hP hD hS hl.1 rfl (Nat.le_of_ble_eq_true rfl) dL_sharesInFavour_3 ⟨Nat.le_of_ble_eq_true rfl, Nat.le_of_ble_eq_true rfl⟩) hA hP hD hS (isC := [0, 1]) rfl [2, 3, 4, 5, 6, 7, 8, 9] [8, 9, 0, 1, 2, 3, 4, 5, 6, 7] (br := [stC E (X 2) g2, stC E (X 3) g3, hhC E (X 4) hs hg nx ct, diC E (X 5) co re, grC E (X 6) so gw, prC E (X 7) q F, sbO E (X 8) v ml n, baC E v cp t]) (bs2 := fun _ => [coC E (X 0) (X 1) (X 2) (X 3) (X 4) (X 5) (X 6) (X 7) (X 8) w, stC E (X 1) g, stC E (X 2) g2, stC E (X 3) g3, hhC E (X 4) hs hg nx ct, diC E (X 5) co re, grC E (X 6) so gw, prC E (X 7) q F, sbO E (X 8) v ml n, baC E v cp t]) (bx2 := fun _ => [coC E (X 0) (X 1) (X 2) (X 3) (X 4) (X 5) (X 6) (X 7) (X 8) w, stC E (X 1) g, stC E (X 2) g2, stC E (X 3) g3, hhC E (X 4) hs hg nx ct, diC E (X 5) co re, grC E (X 6) so gw, prC E (X 7) q F, sbO E (X 8) v ml n, baC E v cp t]) rfl (by decide) (fun _ => rfl) (fun _ => rfl) (by decide) (fun Ex ce q9 ux H locs hw hP hD hS hc1 hc2 hc3 => ?_) (fun r u H locs hw hP hD hS => ?_)
  · skip
    obtain ⟨hf, hE⟩ := hw
    rcases (fM_v : fMot p0 p1 = 0 ∨ fMot p0 p1 = 2) with hv | hv
    · exact absurd hv hf
    · skip
      rw [hv] at hE
      have hE : Ex = IAX := hE
      subst hE
      refine vx_catch (own := RL) (name := IAX) hown [] ⟨0, 6, 7, 20⟩ [] (htab.trans rfl) (fun z hz => absurd hz List.not_mem_nil) rfl (by decide) (hts _ q451) (va_Nw.use rfl (hZ.2.2.1 _ (List.mem_of_getElem? (i := 1) rfl))) hc1 hc2 hc3 ?_
      refine lv_astore_n (lv' := [(3, .ref q9), (0, .ref ((X 0) 0)), (1, .int p0), (2, .int p1)]) hx hb dL_sharesInFavour_7 rfl hl (by decide) rfl (fun ls hl => ?_)
      refine lv_bipush (v := -78) hx hb dL_sharesInFavour_8 (by decide) ?_
      exact hret _ _ (-78 : Int32) (g3, co, re, so, gw, q, F, v, ml, n, cp, t) _ _ _ _ hP hD hS ⟨(if_neg hf).symm, hj⟩ dL_sharesInFavour_10 (by omega) (by omega)
  exact hret _ _ r (g3, co, re, so, gw, q, F, v, ml, n, cp, t) _ _ _ _ hP hD hS ⟨(by rw [hw.2]; exact (if_pos hw.1).symm), hj⟩ dL_sharesInFavour_6 (by omega) (by omega)
abbrev rm_L_spoiltBeat : Room := { frames := 7, cells := 1, slots := 6, locals := 121 }
set_option maxHeartbeats 4000000 in
set_option maxRecDepth 100000 in
theorem c_L_spoiltBeat (l : Launch) (hst : l.stackTraces = false) (E : EE) (sz : Nat) (X hs : Nat → Nat → Nat) (w : Nat → Nat) (g g2 : GG) (B : Nat) (hI : IB B g) (hg : Nat → GG) (nx ct : Nat) (hnx : nx < 8) (hct : ct ≤ 8) (j : JT) (hj : JV j) (p0 : Int32) : MW l yL_spoiltBeat cL_spoiltBeat 3 [(0, 5, 6, 28)] rm_L_spoiltBeat [.ref ((X 0) 0), .int p0] E sz (OB E X hs w g g2 hg nx ct j) (fun (r : Int32) (u : JT) => r = wsp g p0 ∧ JV u) (fun u => OB E X hs w g g2 hg nx ct u) 1 6 := by
  obtain ⟨g3, co, re, so, gw, q, F, v, ml, n, cp, t⟩ := j
  refine mw_go (by decide) (Nat.le_of_ble_eq_true rfl) ?_
  intro p e s m below meth c A Q ls hx hb hml hown hts hK hZ hDD hA hsz hP hD hl htab hret
  have hS : va_S A s.heap s.heap [] := va_S.rf
  have hP : va_P E.1 vwCl ([coC E (X 0) (X 1) (X 2) (X 3) (X 4) (X 5) (X 6) (X 7) (X 8) w, stC E (X 1) g, stC E (X 2) g2, stC E (X 3) g3, hhC E (X 4) hs hg nx ct, diC E (X 5) co re, grC E (X 6) so gw, prC E (X 7) q F, sbO E (X 8) v ml n, baC E v cp t] : List va_W).flatten s.heap := hP
  have hD : va_D A ([coC E (X 0) (X 1) (X 2) (X 3) (X 4) (X 5) (X 6) (X 7) (X 8) w, stC E (X 1) g, stC E (X 2) g2, stC E (X 3) g3, hhC E (X 4) hs hg nx ct, diC E (X 5) co re, grC E (X 6) so gw, prC E (X 7) q F, sbO E (X 8) v ml n, baC E v cp t] : List va_W).flatten := hD
  have hl : lv_has ls 3 [(0, .ref ((X 0) 0)), (1, .int p0)] := hl
  have hmc := hI.mc
  refine lv_aload_n hx hb dL_spoiltBeat_0 rfl (lv_at hl 0 rfl) ?_
  refine lv_iload_n hx hb dL_spoiltBeat_1 rfl (lv_at hl 1 rfl) ?_
  refine run_xi (S := Unit) (SX := Unit) (run_XV (As := [.int p0]) (rest := []) (bs := [coC E (X 0) (X 1) (X 2) (X 3) (X 4) (X 5) (X 6) (X 7) (X 8) w, stC E (X 1) g, stC E (X 2) g2, stC E (X 3) g3, hhC E (X 4) hs hg nx ct, diC E (X 5) co re, grC E (X 6) so gw, prC E (X 7) q F, sbO E (X 8) v ml n, baC E v cp t]) (cb := [coC E (X 0) (X 1) (X 2) (X 3) (X 4) (X 5) (X 6) (X 7) (X 8) w, stC E (X 1) g]) hx hb hml hown hts hK hZ hDD hA (c_X5_spoiltBeat l hst E _ (X 0) (X 1) (X 2) (X 3) (X 4) (X 5) (X 6) (X 7) (X 8) w g B hI p0) l_L_112 rfl ⟨⟨rfl, rfl⟩, Nat.le_of_ble_eq_true rfl, Nat.le_of_ble_eq_true rfl⟩ 9 rfl [0, 1] rfl (by decide) rfl hP hD hS hl.1 rfl (Nat.le_of_ble_eq_true rfl) dL_spoiltBeat_2 ⟨Nat.le_of_ble_eq_true rfl, Nat.le_of_ble_eq_true rfl⟩) hA hP hD hS (isC := [0, 1]) rfl [2, 3, 4, 5, 6, 7, 8, 9] [8, 9, 0, 1, 2, 3, 4, 5, 6, 7] (br := [stC E (X 2) g2, stC E (X 3) g3, hhC E (X 4) hs hg nx ct, diC E (X 5) co re, grC E (X 6) so gw, prC E (X 7) q F, sbO E (X 8) v ml n, baC E v cp t]) (bs2 := fun _ => [coC E (X 0) (X 1) (X 2) (X 3) (X 4) (X 5) (X 6) (X 7) (X 8) w, stC E (X 1) g, stC E (X 2) g2, stC E (X 3) g3, hhC E (X 4) hs hg nx ct, diC E (X 5) co re, grC E (X 6) so gw, prC E (X 7) q F, sbO E (X 8) v ml n, baC E v cp t]) (bx2 := fun _ => [coC E (X 0) (X 1) (X 2) (X 3) (X 4) (X 5) (X 6) (X 7) (X 8) w, stC E (X 1) g, stC E (X 2) g2, stC E (X 3) g3, hhC E (X 4) hs hg nx ct, diC E (X 5) co re, grC E (X 6) so gw, prC E (X 7) q F, sbO E (X 8) v ml n, baC E v cp t]) rfl (by decide) (fun _ => rfl) (fun _ => rfl) (by decide) (fun Ex ce q9 ux H locs hw hP hD hS hc1 hc2 hc3 => ?_) (fun r u H locs hw hP hD hS => ?_)
  · skip
    obtain ⟨hE, hq⟩ := hw
    subst hE
    refine vx_catch (own := RL) (name := IOX) hown [] ⟨0, 5, 6, 28⟩ [] (htab.trans rfl) (fun z hz => absurd hz List.not_mem_nil) rfl (by decide) (hts _ q322) (va_Nw.use rfl (hZ.2.2.1 _ (List.mem_of_getElem? (i := 0) rfl))) hc1 hc2 hc3 ?_
    refine lv_astore_n (lv' := [(2, .ref q9), (0, .ref ((X 0) 0)), (1, .int p0)]) hx hb dL_spoiltBeat_6 rfl hl (by decide) rfl (fun ls hl => ?_)
    refine lv_bipush (v := -77) hx hb dL_spoiltBeat_7 (by decide) ?_
    exact hret _ _ (-77 : Int32) (g3, co, re, so, gw, q, F, v, ml, n, cp, t) _ _ _ _ hP hD hS ⟨(if_neg hq).symm, hj⟩ dL_spoiltBeat_9 (by omega) (by omega)
  exact hret _ _ r (g3, co, re, so, gw, q, F, v, ml, n, cp, t) _ _ _ _ hP hD hS ⟨(by rw [hw.2]; exact (if_pos hw.1).symm), hj⟩ dL_spoiltBeat_5 (by omega) (by omega)
abbrev rm_L_addMember : Room := { frames := 8, cells := 1, slots := 6, locals := 186 }
set_option maxHeartbeats 4000000 in
set_option maxRecDepth 100000 in
theorem c_L_addMember (l : Launch) (hst : l.stackTraces = false) (E : EE) (sz : Nat) (X hs : Nat → Nat → Nat) (w : Nat → Nat) (g g2 : GG) (B : Nat) (hI : IB B g) (hg : Nat → GG) (nx ct : Nat) (hnx : nx < 8) (hct : ct ≤ 8) (j : JT) (hj : JV j) (p0 : Int32) (p1 : Int32) (p2 : Int32) (p3 : Int32) : MW l yL_addMember cL_addMember 6 [(0, 9, 10, 20), (0, 9, 15, 22)] rm_L_addMember [.ref ((X 0) 0), .int p0, .int p1, .int p2, .int p3] E sz (OB E X hs w g g2 hg nx ct j) (fun (r : Int32) (u : Bool × JT) => u.1 = decide (fJoin g p0 p1 p2 p3 = 0) ∧ r = (if fJoin g p0 p1 p2 p3 = 0 then nI (g 8 0) else rfX (fJoin g p0 p1 p2 p3)) ∧ JV u.2) (fun u => OB E X hs w (gN u.1 (joinG g (tn p0) (tn p1) (tn p2) (tn p3)) g) g2 (hgN u.1 hg nx g) (nxN u.1 nx) (ctN u.1 ct) u.2) 1 6 := by
  obtain ⟨g3, co, re, so, gw, q, F, v, ml, n, cp, t⟩ := j
  refine mw_go (by decide) (Nat.le_of_ble_eq_true rfl) ?_
  intro p e s m below meth c A Q ls hx hb hml hown hts hK hZ hDD hA hsz hP hD hl htab hret
  have hS : va_S A s.heap s.heap [] := va_S.rf
  have hP : va_P E.1 vwCl ([coC E (X 0) (X 1) (X 2) (X 3) (X 4) (X 5) (X 6) (X 7) (X 8) w, stC E (X 1) g, stC E (X 2) g2, stC E (X 3) g3, hhC E (X 4) hs hg nx ct, diC E (X 5) co re, grC E (X 6) so gw, prC E (X 7) q F, sbO E (X 8) v ml n, baC E v cp t] : List va_W).flatten s.heap := hP
  have hD : va_D A ([coC E (X 0) (X 1) (X 2) (X 3) (X 4) (X 5) (X 6) (X 7) (X 8) w, stC E (X 1) g, stC E (X 2) g2, stC E (X 3) g3, hhC E (X 4) hs hg nx ct, diC E (X 5) co re, grC E (X 6) so gw, prC E (X 7) q F, sbO E (X 8) v ml n, baC E v cp t] : List va_W).flatten := hD
  have hl : lv_has ls 6 [(0, .ref ((X 0) 0)), (1, .int p0), (2, .int p1), (3, .int p2), (4, .int p3)] := hl
  have hmc := hI.mc
  refine lv_aload_n hx hb dL_addMember_0 rfl (lv_at hl 0 rfl) ?_
  refine lv_iload_n hx hb dL_addMember_1 rfl (lv_at hl 1 rfl) ?_
  refine lv_iload_n hx hb dL_addMember_2 rfl (lv_at hl 2 rfl) ?_
  refine lv_iload_n hx hb dL_addMember_3 rfl (lv_at hl 3 rfl) ?_
  refine lv_iload hx hb dL_addMember_4 (lv_at hl 4 rfl) ?_
  refine run_xi (S := Unit) (SX := Unit) (run_XV (As := [.int p0, .int p1, .int p2, .int p3]) (rest := []) (bs := [coC E (X 0) (X 1) (X 2) (X 3) (X 4) (X 5) (X 6) (X 7) (X 8) w, stC E (X 1) g, stC E (X 2) g2, stC E (X 3) g3, hhC E (X 4) hs hg nx ct, diC E (X 5) co re, grC E (X 6) so gw, prC E (X 7) q F, sbO E (X 8) v ml n, baC E v cp t]) (cb := [coC E (X 0) (X 1) (X 2) (X 3) (X 4) (X 5) (X 6) (X 7) (X 8) w, hhC E (X 4) hs hg nx ct, stC E (X 1) g]) hx hb hml hown hts hK hZ hDD hA (c_X5_addMember l hst E _ (X 0) (X 1) (X 2) (X 3) (X 4) (X 5) (X 6) (X 7) (X 8) w g B hI hs hg nx ct hnx hct p0 p1 p2 p3) l_L_14 rfl ⟨⟨rfl, rfl⟩, Nat.le_of_ble_eq_true rfl, Nat.le_of_ble_eq_true rfl⟩ 9 rfl [0, 4, 1] rfl (by decide) rfl hP hD hS hl.1 rfl (Nat.le_of_ble_eq_true rfl) dL_addMember_6 ⟨Nat.le_of_ble_eq_true rfl, Nat.le_of_ble_eq_true rfl⟩) hA hP hD hS (isC := [0, 4, 1]) rfl [2, 3, 5, 6, 7, 8, 9] [7, 9, 0, 1, 8, 2, 3, 4, 5, 6] (br := [stC E (X 2) g2, stC E (X 3) g3, diC E (X 5) co re, grC E (X 6) so gw, prC E (X 7) q F, sbO E (X 8) v ml n, baC E v cp t]) (bs2 := fun _ => [coC E (X 0) (X 1) (X 2) (X 3) (X 4) (X 5) (X 6) (X 7) (X 8) w, stC E (X 1) (joinG g (tn p0) (tn p1) (tn p2) (tn p3)), stC E (X 2) g2, stC E (X 3) g3, hhC E (X 4) hs (upa hg nx g) ((nx + 1) % 8) (if 8 < ct + 1 then 8 else ct + 1), diC E (X 5) co re, grC E (X 6) so gw, prC E (X 7) q F, sbO E (X 8) v ml n, baC E v cp t]) (bx2 := fun _ => [coC E (X 0) (X 1) (X 2) (X 3) (X 4) (X 5) (X 6) (X 7) (X 8) w, stC E (X 1) g, stC E (X 2) g2, stC E (X 3) g3, hhC E (X 4) hs hg nx ct, diC E (X 5) co re, grC E (X 6) so gw, prC E (X 7) q F, sbO E (X 8) v ml n, baC E v cp t]) rfl (by decide) (fun _ => rfl) (fun _ => rfl) (by decide) (fun Ex ce q9 ux H locs hw hP hD hS hc1 hc2 hc3 => ?_) (fun r u H locs hw hP hD hS => ?_)
  · skip
    obtain ⟨hf, hE⟩ := hw
    rcases (fJ_v : fJoin g p0 p1 p2 p3 = 0 ∨ fJoin g p0 p1 p2 p3 = 2 ∨ fJoin g p0 p1 p2 p3 = 3) with hv | hv | hv
    · exact absurd hv hf
    · skip
      rw [hv] at hE
      have hE : Ex = IAX := hE
      subst hE
      refine vx_catch (own := RL) (name := IAX) hown [] ⟨0, 9, 10, 20⟩ [⟨0, 9, 15, 22⟩] (htab.trans rfl) (fun z hz => absurd hz List.not_mem_nil) rfl (by decide) (hts _ q451) (va_Nw.use rfl (hZ.2.2.1 _ (List.mem_of_getElem? (i := 1) rfl))) hc1 hc2 hc3 ?_
      refine lv_astore (lv' := [(5, .ref q9), (0, .ref ((X 0) 0)), (1, .int p0), (2, .int p1), (3, .int p2), (4, .int p3)]) hx hb dL_addMember_10 hl (by decide) rfl (fun ls hl => ?_)
      refine lv_bipush (v := -78) hx hb dL_addMember_12 (by decide) ?_
      exact hret _ _ (-78 : Int32) (false, (g3, co, re, so, gw, q, F, v, ml, n, cp, t)) _ _ _ _ hP hD hS ⟨(decide_eq_false hf).symm, by rw [if_neg hf, hv]; rfl, hj⟩ dL_addMember_14 (by omega) (by omega)
    · skip
      rw [hv] at hE
      have hE : Ex = ISX := hE
      subst hE
      refine vx_catch (own := RL) (name := ISX) hown [⟨0, 9, 10, 20⟩] ⟨0, 9, 15, 22⟩ [] (htab.trans rfl) (fun z hz => by
          rcases List.mem_cons.mp hz with rfl | hz
          · exact Or.inr ⟨by decide, IAX, hts _ q451, hZ.2.2.2.1 _ (List.mem_of_getElem? (i := 2) rfl)⟩
          · exact absurd hz List.not_mem_nil) rfl (by decide) (hts _ q603) (va_Nw.use rfl (hZ.2.2.1 _ (List.mem_of_getElem? (i := 2) rfl))) hc1 hc2 hc3 ?_
      refine lv_astore (lv' := [(5, .ref q9), (0, .ref ((X 0) 0)), (1, .int p0), (2, .int p1), (3, .int p2), (4, .int p3)]) hx hb dL_addMember_15 hl (by decide) rfl (fun ls hl => ?_)
      refine lv_bipush (v := -79) hx hb dL_addMember_17 (by decide) ?_
      exact hret _ _ (-79 : Int32) (false, (g3, co, re, so, gw, q, F, v, ml, n, cp, t)) _ _ _ _ hP hD hS ⟨(decide_eq_false hf).symm, by rw [if_neg hf, hv]; rfl, hj⟩ dL_addMember_19 (by omega) (by omega)
  exact hret _ _ r (true, (g3, co, re, so, gw, q, F, v, ml, n, cp, t)) _ _ _ _ hP hD hS ⟨(decide_eq_true hw.1).symm, (by rw [hw.2]; exact (if_pos hw.1).symm), hj⟩ dL_addMember_9 (by omega) (by omega)
abbrev rm_L_wind : Room := { frames := 8, cells := 1, slots := 6, locals := 184 }
set_option maxHeartbeats 4000000 in
set_option maxRecDepth 100000 in
theorem c_L_wind (l : Launch) (hst : l.stackTraces = false) (E : EE) (sz : Nat) (X hs : Nat → Nat → Nat) (w : Nat → Nat) (g g2 : GG) (B : Nat) (hI : IB B g) (hg : Nat → GG) (nx ct : Nat) (hnx : nx < 8) (hct : ct ≤ 8) (j : JT) (hj : JV j) (p0 : Int32) (p1 : Int32) : MW l yL_wind cL_wind 4 [(0, 6, 7, 28), (0, 6, 11, 20), (0, 6, 15, 22)] rm_L_wind [.ref ((X 0) 0), .int p0, .int p1] E sz (OB E X hs w g g2 hg nx ct j) (fun (r : Int32) (u : Bool × JT) => u.1 = decide (fWind g p0 p1 = 0) ∧ r = (if fWind g p0 p1 = 0 then nI (g 4 (tn p0) + tn p1) else rfX (fWind g p0 p1)) ∧ JV u.2) (fun u => OB E X hs w (gN u.1 (windG g (tn p0) (tn p1)) g) g2 (hgN u.1 hg nx g) (nxN u.1 nx) (ctN u.1 ct) u.2) 1 6 := by
  obtain ⟨g3, co, re, so, gw, q, F, v, ml, n, cp, t⟩ := j
  refine mw_go (by decide) (Nat.le_of_ble_eq_true rfl) ?_
  intro p e s m below meth c A Q ls hx hb hml hown hts hK hZ hDD hA hsz hP hD hl htab hret
  have hS : va_S A s.heap s.heap [] := va_S.rf
  have hP : va_P E.1 vwCl ([coC E (X 0) (X 1) (X 2) (X 3) (X 4) (X 5) (X 6) (X 7) (X 8) w, stC E (X 1) g, stC E (X 2) g2, stC E (X 3) g3, hhC E (X 4) hs hg nx ct, diC E (X 5) co re, grC E (X 6) so gw, prC E (X 7) q F, sbO E (X 8) v ml n, baC E v cp t] : List va_W).flatten s.heap := hP
  have hD : va_D A ([coC E (X 0) (X 1) (X 2) (X 3) (X 4) (X 5) (X 6) (X 7) (X 8) w, stC E (X 1) g, stC E (X 2) g2, stC E (X 3) g3, hhC E (X 4) hs hg nx ct, diC E (X 5) co re, grC E (X 6) so gw, prC E (X 7) q F, sbO E (X 8) v ml n, baC E v cp t] : List va_W).flatten := hD
  have hl : lv_has ls 4 [(0, .ref ((X 0) 0)), (1, .int p0), (2, .int p1)] := hl
  have hmc := hI.mc
  refine lv_aload_n hx hb dL_wind_0 rfl (lv_at hl 0 rfl) ?_
  refine lv_iload_n hx hb dL_wind_1 rfl (lv_at hl 1 rfl) ?_
  refine lv_iload_n hx hb dL_wind_2 rfl (lv_at hl 2 rfl) ?_
  refine run_xi (S := Unit) (SX := Unit) (run_XV (As := [.int p0, .int p1]) (rest := []) (bs := [coC E (X 0) (X 1) (X 2) (X 3) (X 4) (X 5) (X 6) (X 7) (X 8) w, stC E (X 1) g, stC E (X 2) g2, stC E (X 3) g3, hhC E (X 4) hs hg nx ct, diC E (X 5) co re, grC E (X 6) so gw, prC E (X 7) q F, sbO E (X 8) v ml n, baC E v cp t]) (cb := [coC E (X 0) (X 1) (X 2) (X 3) (X 4) (X 5) (X 6) (X 7) (X 8) w, hhC E (X 4) hs hg nx ct, stC E (X 1) g]) hx hb hml hown hts hK hZ hDD hA (c_X5_wind l hst E _ (X 0) (X 1) (X 2) (X 3) (X 4) (X 5) (X 6) (X 7) (X 8) w g B hI hs hg nx ct hnx hct p0 p1) l_L_24 rfl ⟨⟨rfl, rfl⟩, Nat.le_of_ble_eq_true rfl, Nat.le_of_ble_eq_true rfl⟩ 9 rfl [0, 4, 1] rfl (by decide) rfl hP hD hS hl.1 rfl (Nat.le_of_ble_eq_true rfl) dL_wind_3 ⟨Nat.le_of_ble_eq_true rfl, Nat.le_of_ble_eq_true rfl⟩) hA hP hD hS (isC := [0, 4, 1]) rfl [2, 3, 5, 6, 7, 8, 9] [7, 9, 0, 1, 8, 2, 3, 4, 5, 6] (br := [stC E (X 2) g2, stC E (X 3) g3, diC E (X 5) co re, grC E (X 6) so gw, prC E (X 7) q F, sbO E (X 8) v ml n, baC E v cp t]) (bs2 := fun _ => [coC E (X 0) (X 1) (X 2) (X 3) (X 4) (X 5) (X 6) (X 7) (X 8) w, stC E (X 1) (windG g (tn p0) (tn p1)), stC E (X 2) g2, stC E (X 3) g3, hhC E (X 4) hs (upa hg nx g) ((nx + 1) % 8) (if 8 < ct + 1 then 8 else ct + 1), diC E (X 5) co re, grC E (X 6) so gw, prC E (X 7) q F, sbO E (X 8) v ml n, baC E v cp t]) (bx2 := fun _ => [coC E (X 0) (X 1) (X 2) (X 3) (X 4) (X 5) (X 6) (X 7) (X 8) w, stC E (X 1) g, stC E (X 2) g2, stC E (X 3) g3, hhC E (X 4) hs hg nx ct, diC E (X 5) co re, grC E (X 6) so gw, prC E (X 7) q F, sbO E (X 8) v ml n, baC E v cp t]) rfl (by decide) (fun _ => rfl) (fun _ => rfl) (by decide) (fun Ex ce q9 ux H locs hw hP hD hS hc1 hc2 hc3 => ?_) (fun r u H locs hw hP hD hS => ?_)
  · skip
    obtain ⟨hf, hE⟩ := hw
    rcases (fW_v : fWind g p0 p1 = 0 ∨ fWind g p0 p1 = 1 ∨ fWind g p0 p1 = 2 ∨ fWind g p0 p1 = 3) with hv | hv | hv | hv
    · exact absurd hv hf
    · skip
      rw [hv] at hE
      have hE : Ex = IOX := hE
      subst hE
      refine vx_catch (own := RL) (name := IOX) hown [] ⟨0, 6, 7, 28⟩ [⟨0, 6, 11, 20⟩, ⟨0, 6, 15, 22⟩] (htab.trans rfl) (fun z hz => absurd hz List.not_mem_nil) rfl (by decide) (hts _ q322) (va_Nw.use rfl (hZ.2.2.1 _ (List.mem_of_getElem? (i := 0) rfl))) hc1 hc2 hc3 ?_
      refine lv_astore_n (lv' := [(3, .ref q9), (0, .ref ((X 0) 0)), (1, .int p0), (2, .int p1)]) hx hb dL_wind_7 rfl hl (by decide) rfl (fun ls hl => ?_)
      refine lv_bipush (v := -77) hx hb dL_wind_8 (by decide) ?_
      exact hret _ _ (-77 : Int32) (false, (g3, co, re, so, gw, q, F, v, ml, n, cp, t)) _ _ _ _ hP hD hS ⟨(decide_eq_false hf).symm, by rw [if_neg hf, hv]; rfl, hj⟩ dL_wind_10 (by omega) (by omega)
    · skip
      rw [hv] at hE
      have hE : Ex = IAX := hE
      subst hE
      refine vx_catch (own := RL) (name := IAX) hown [⟨0, 6, 7, 28⟩] ⟨0, 6, 11, 20⟩ [⟨0, 6, 15, 22⟩] (htab.trans rfl) (fun z hz => by
          rcases List.mem_cons.mp hz with rfl | hz
          · exact Or.inr ⟨by decide, IOX, hts _ q322, hZ.2.2.2.1 _ (List.mem_of_getElem? (i := 19) rfl)⟩
          · exact absurd hz List.not_mem_nil) rfl (by decide) (hts _ q451) (va_Nw.use rfl (hZ.2.2.1 _ (List.mem_of_getElem? (i := 1) rfl))) hc1 hc2 hc3 ?_
      refine lv_astore_n (lv' := [(3, .ref q9), (0, .ref ((X 0) 0)), (1, .int p0), (2, .int p1)]) hx hb dL_wind_11 rfl hl (by decide) rfl (fun ls hl => ?_)
      refine lv_bipush (v := -78) hx hb dL_wind_12 (by decide) ?_
      exact hret _ _ (-78 : Int32) (false, (g3, co, re, so, gw, q, F, v, ml, n, cp, t)) _ _ _ _ hP hD hS ⟨(decide_eq_false hf).symm, by rw [if_neg hf, hv]; rfl, hj⟩ dL_wind_14 (by omega) (by omega)
    · skip
      rw [hv] at hE
      have hE : Ex = ISX := hE
      subst hE
      refine vx_catch (own := RL) (name := ISX) hown [⟨0, 6, 7, 28⟩, ⟨0, 6, 11, 20⟩] ⟨0, 6, 15, 22⟩ [] (htab.trans rfl) (fun z hz => by
          rcases List.mem_cons.mp hz with rfl | hz
          · exact Or.inr ⟨by decide, IOX, hts _ q322, hZ.2.2.2.1 _ (List.mem_of_getElem? (i := 20) rfl)⟩
          · rcases List.mem_cons.mp hz with rfl | hz
            · exact Or.inr ⟨by decide, IAX, hts _ q451, hZ.2.2.2.1 _ (List.mem_of_getElem? (i := 2) rfl)⟩
            · exact absurd hz List.not_mem_nil) rfl (by decide) (hts _ q603) (va_Nw.use rfl (hZ.2.2.1 _ (List.mem_of_getElem? (i := 2) rfl))) hc1 hc2 hc3 ?_
      refine lv_astore_n (lv' := [(3, .ref q9), (0, .ref ((X 0) 0)), (1, .int p0), (2, .int p1)]) hx hb dL_wind_15 rfl hl (by decide) rfl (fun ls hl => ?_)
      refine lv_bipush (v := -79) hx hb dL_wind_16 (by decide) ?_
      exact hret _ _ (-79 : Int32) (false, (g3, co, re, so, gw, q, F, v, ml, n, cp, t)) _ _ _ _ hP hD hS ⟨(decide_eq_false hf).symm, by rw [if_neg hf, hv]; rfl, hj⟩ dL_wind_18 (by omega) (by omega)
  exact hret _ _ r (true, (g3, co, re, so, gw, q, F, v, ml, n, cp, t)) _ _ _ _ hP hD hS ⟨(decide_eq_true hw.1).symm, (by rw [hw.2]; exact (if_pos hw.1).symm), hj⟩ dL_wind_6 (by omega) (by omega)
abbrev rm_L_tune : Room := { frames := 8, cells := 1, slots := 6, locals := 184 }
set_option maxHeartbeats 4000000 in
set_option maxRecDepth 100000 in
theorem c_L_tune (l : Launch) (hst : l.stackTraces = false) (E : EE) (sz : Nat) (X hs : Nat → Nat → Nat) (w : Nat → Nat) (g g2 : GG) (B : Nat) (hI : IB B g) (hg : Nat → GG) (nx ct : Nat) (hnx : nx < 8) (hct : ct ≤ 8) (j : JT) (hj : JV j) (p0 : Int32) (p1 : Int32) : MW l yL_tune cL_tune 4 [(0, 6, 7, 28), (0, 6, 11, 20)] rm_L_tune [.ref ((X 0) 0), .int p0, .int p1] E sz (OB E X hs w g g2 hg nx ct j) (fun (r : Int32) (u : Bool × JT) => u.1 = decide (fTune g p0 p1 = 0) ∧ r = (if fTune g p0 p1 = 0 then nI (g 3 (tn p0)) else rfX (fTune g p0 p1)) ∧ JV u.2) (fun u => OB E X hs w (gN u.1 (up2 g 3 (tn p0) (tn p1)) g) g2 (hgN u.1 hg nx g) (nxN u.1 nx) (ctN u.1 ct) u.2) 1 6 := by
  obtain ⟨g3, co, re, so, gw, q, F, v, ml, n, cp, t⟩ := j
  refine mw_go (by decide) (Nat.le_of_ble_eq_true rfl) ?_
  intro p e s m below meth c A Q ls hx hb hml hown hts hK hZ hDD hA hsz hP hD hl htab hret
  have hS : va_S A s.heap s.heap [] := va_S.rf
  have hP : va_P E.1 vwCl ([coC E (X 0) (X 1) (X 2) (X 3) (X 4) (X 5) (X 6) (X 7) (X 8) w, stC E (X 1) g, stC E (X 2) g2, stC E (X 3) g3, hhC E (X 4) hs hg nx ct, diC E (X 5) co re, grC E (X 6) so gw, prC E (X 7) q F, sbO E (X 8) v ml n, baC E v cp t] : List va_W).flatten s.heap := hP
  have hD : va_D A ([coC E (X 0) (X 1) (X 2) (X 3) (X 4) (X 5) (X 6) (X 7) (X 8) w, stC E (X 1) g, stC E (X 2) g2, stC E (X 3) g3, hhC E (X 4) hs hg nx ct, diC E (X 5) co re, grC E (X 6) so gw, prC E (X 7) q F, sbO E (X 8) v ml n, baC E v cp t] : List va_W).flatten := hD
  have hl : lv_has ls 4 [(0, .ref ((X 0) 0)), (1, .int p0), (2, .int p1)] := hl
  have hmc := hI.mc
  refine lv_aload_n hx hb dL_tune_0 rfl (lv_at hl 0 rfl) ?_
  refine lv_iload_n hx hb dL_tune_1 rfl (lv_at hl 1 rfl) ?_
  refine lv_iload_n hx hb dL_tune_2 rfl (lv_at hl 2 rfl) ?_
  refine run_xi (S := Unit) (SX := Unit) (run_XV (As := [.int p0, .int p1]) (rest := []) (bs := [coC E (X 0) (X 1) (X 2) (X 3) (X 4) (X 5) (X 6) (X 7) (X 8) w, stC E (X 1) g, stC E (X 2) g2, stC E (X 3) g3, hhC E (X 4) hs hg nx ct, diC E (X 5) co re, grC E (X 6) so gw, prC E (X 7) q F, sbO E (X 8) v ml n, baC E v cp t]) (cb := [coC E (X 0) (X 1) (X 2) (X 3) (X 4) (X 5) (X 6) (X 7) (X 8) w, hhC E (X 4) hs hg nx ct, stC E (X 1) g]) hx hb hml hown hts hK hZ hDD hA (c_X5_tune l hst E _ (X 0) (X 1) (X 2) (X 3) (X 4) (X 5) (X 6) (X 7) (X 8) w g B hI hs hg nx ct hnx hct p0 p1) l_L_30 rfl ⟨⟨rfl, rfl⟩, Nat.le_of_ble_eq_true rfl, Nat.le_of_ble_eq_true rfl⟩ 9 rfl [0, 4, 1] rfl (by decide) rfl hP hD hS hl.1 rfl (Nat.le_of_ble_eq_true rfl) dL_tune_3 ⟨Nat.le_of_ble_eq_true rfl, Nat.le_of_ble_eq_true rfl⟩) hA hP hD hS (isC := [0, 4, 1]) rfl [2, 3, 5, 6, 7, 8, 9] [7, 9, 0, 1, 8, 2, 3, 4, 5, 6] (br := [stC E (X 2) g2, stC E (X 3) g3, diC E (X 5) co re, grC E (X 6) so gw, prC E (X 7) q F, sbO E (X 8) v ml n, baC E v cp t]) (bs2 := fun _ => [coC E (X 0) (X 1) (X 2) (X 3) (X 4) (X 5) (X 6) (X 7) (X 8) w, stC E (X 1) (up2 g 3 (tn p0) (tn p1)), stC E (X 2) g2, stC E (X 3) g3, hhC E (X 4) hs (upa hg nx g) ((nx + 1) % 8) (if 8 < ct + 1 then 8 else ct + 1), diC E (X 5) co re, grC E (X 6) so gw, prC E (X 7) q F, sbO E (X 8) v ml n, baC E v cp t]) (bx2 := fun _ => [coC E (X 0) (X 1) (X 2) (X 3) (X 4) (X 5) (X 6) (X 7) (X 8) w, stC E (X 1) g, stC E (X 2) g2, stC E (X 3) g3, hhC E (X 4) hs hg nx ct, diC E (X 5) co re, grC E (X 6) so gw, prC E (X 7) q F, sbO E (X 8) v ml n, baC E v cp t]) rfl (by decide) (fun _ => rfl) (fun _ => rfl) (by decide) (fun Ex ce q9 ux H locs hw hP hD hS hc1 hc2 hc3 => ?_) (fun r u H locs hw hP hD hS => ?_)
  · skip
    obtain ⟨hf, hE⟩ := hw
    rcases (fT_v : fTune g p0 p1 = 0 ∨ fTune g p0 p1 = 1 ∨ fTune g p0 p1 = 2) with hv | hv | hv
    · exact absurd hv hf
    · skip
      rw [hv] at hE
      have hE : Ex = IOX := hE
      subst hE
      refine vx_catch (own := RL) (name := IOX) hown [] ⟨0, 6, 7, 28⟩ [⟨0, 6, 11, 20⟩] (htab.trans rfl) (fun z hz => absurd hz List.not_mem_nil) rfl (by decide) (hts _ q322) (va_Nw.use rfl (hZ.2.2.1 _ (List.mem_of_getElem? (i := 0) rfl))) hc1 hc2 hc3 ?_
      refine lv_astore_n (lv' := [(3, .ref q9), (0, .ref ((X 0) 0)), (1, .int p0), (2, .int p1)]) hx hb dL_tune_7 rfl hl (by decide) rfl (fun ls hl => ?_)
      refine lv_bipush (v := -77) hx hb dL_tune_8 (by decide) ?_
      exact hret _ _ (-77 : Int32) (false, (g3, co, re, so, gw, q, F, v, ml, n, cp, t)) _ _ _ _ hP hD hS ⟨(decide_eq_false hf).symm, by rw [if_neg hf, hv]; rfl, hj⟩ dL_tune_10 (by omega) (by omega)
    · skip
      rw [hv] at hE
      have hE : Ex = IAX := hE
      subst hE
      refine vx_catch (own := RL) (name := IAX) hown [⟨0, 6, 7, 28⟩] ⟨0, 6, 11, 20⟩ [] (htab.trans rfl) (fun z hz => by
          rcases List.mem_cons.mp hz with rfl | hz
          · exact Or.inr ⟨by decide, IOX, hts _ q322, hZ.2.2.2.1 _ (List.mem_of_getElem? (i := 19) rfl)⟩
          · exact absurd hz List.not_mem_nil) rfl (by decide) (hts _ q451) (va_Nw.use rfl (hZ.2.2.1 _ (List.mem_of_getElem? (i := 1) rfl))) hc1 hc2 hc3 ?_
      refine lv_astore_n (lv' := [(3, .ref q9), (0, .ref ((X 0) 0)), (1, .int p0), (2, .int p1)]) hx hb dL_tune_11 rfl hl (by decide) rfl (fun ls hl => ?_)
      refine lv_bipush (v := -78) hx hb dL_tune_12 (by decide) ?_
      exact hret _ _ (-78 : Int32) (false, (g3, co, re, so, gw, q, F, v, ml, n, cp, t)) _ _ _ _ hP hD hS ⟨(decide_eq_false hf).symm, by rw [if_neg hf, hv]; rfl, hj⟩ dL_tune_14 (by omega) (by omega)
  exact hret _ _ r (true, (g3, co, re, so, gw, q, F, v, ml, n, cp, t)) _ _ _ _ hP hD hS ⟨(decide_eq_true hw.1).symm, (by rw [hw.2]; exact (if_pos hw.1).symm), hj⟩ dL_tune_6 (by omega) (by omega)
abbrev rm_L_buyShares : Room := { frames := 8, cells := 1, slots := 6, locals := 184 }
set_option maxHeartbeats 4000000 in
set_option maxRecDepth 100000 in
theorem c_L_buyShares (l : Launch) (hst : l.stackTraces = false) (E : EE) (sz : Nat) (X hs : Nat → Nat → Nat) (w : Nat → Nat) (g g2 : GG) (B : Nat) (hI : IB B g) (hg : Nat → GG) (nx ct : Nat) (hnx : nx < 8) (hct : ct ≤ 8) (j : JT) (hj : JV j) (p0 : Int32) (p1 : Int32) : MW l yL_buyShares cL_buyShares 4 [(0, 6, 7, 28), (0, 6, 11, 20), (0, 6, 15, 22), (0, 6, 19, 36)] rm_L_buyShares [.ref ((X 0) 0), .int p0, .int p1] E sz (OB E X hs w g g2 hg nx ct j) (fun (r : Int32) (u : Bool × JT) => u.1 = decide (fBuy g p0 p1 = 0) ∧ r = (if fBuy g p0 p1 = 0 then nI (g 0 (tn p0) + tn p1) else rfX (fBuy g p0 p1)) ∧ JV u.2) (fun u => OB E X hs w (gN u.1 (buyG g (tn p0) (tn p1)) g) g2 (hgN u.1 hg nx g) (nxN u.1 nx) (ctN u.1 ct) u.2) 1 6 := by
  obtain ⟨g3, co, re, so, gw, q, F, v, ml, n, cp, t⟩ := j
  refine mw_go (by decide) (Nat.le_of_ble_eq_true rfl) ?_
  intro p e s m below meth c A Q ls hx hb hml hown hts hK hZ hDD hA hsz hP hD hl htab hret
  have hS : va_S A s.heap s.heap [] := va_S.rf
  have hP : va_P E.1 vwCl ([coC E (X 0) (X 1) (X 2) (X 3) (X 4) (X 5) (X 6) (X 7) (X 8) w, stC E (X 1) g, stC E (X 2) g2, stC E (X 3) g3, hhC E (X 4) hs hg nx ct, diC E (X 5) co re, grC E (X 6) so gw, prC E (X 7) q F, sbO E (X 8) v ml n, baC E v cp t] : List va_W).flatten s.heap := hP
  have hD : va_D A ([coC E (X 0) (X 1) (X 2) (X 3) (X 4) (X 5) (X 6) (X 7) (X 8) w, stC E (X 1) g, stC E (X 2) g2, stC E (X 3) g3, hhC E (X 4) hs hg nx ct, diC E (X 5) co re, grC E (X 6) so gw, prC E (X 7) q F, sbO E (X 8) v ml n, baC E v cp t] : List va_W).flatten := hD
  have hl : lv_has ls 4 [(0, .ref ((X 0) 0)), (1, .int p0), (2, .int p1)] := hl
  have hmc := hI.mc
  refine lv_aload_n hx hb dL_buyShares_0 rfl (lv_at hl 0 rfl) ?_
  refine lv_iload_n hx hb dL_buyShares_1 rfl (lv_at hl 1 rfl) ?_
  refine lv_iload_n hx hb dL_buyShares_2 rfl (lv_at hl 2 rfl) ?_
  refine run_xi (S := Unit) (SX := Unit) (run_XV (As := [.int p0, .int p1]) (rest := []) (bs := [coC E (X 0) (X 1) (X 2) (X 3) (X 4) (X 5) (X 6) (X 7) (X 8) w, stC E (X 1) g, stC E (X 2) g2, stC E (X 3) g3, hhC E (X 4) hs hg nx ct, diC E (X 5) co re, grC E (X 6) so gw, prC E (X 7) q F, sbO E (X 8) v ml n, baC E v cp t]) (cb := [coC E (X 0) (X 1) (X 2) (X 3) (X 4) (X 5) (X 6) (X 7) (X 8) w, hhC E (X 4) hs hg nx ct, stC E (X 1) g]) hx hb hml hown hts hK hZ hDD hA (c_X5_buyShares l hst E _ (X 0) (X 1) (X 2) (X 3) (X 4) (X 5) (X 6) (X 7) (X 8) w g B hI hs hg nx ct hnx hct p0 p1) l_L_33 rfl ⟨⟨rfl, rfl⟩, Nat.le_of_ble_eq_true rfl, Nat.le_of_ble_eq_true rfl⟩ 9 rfl [0, 4, 1] rfl (by decide) rfl hP hD hS hl.1 rfl (Nat.le_of_ble_eq_true rfl) dL_buyShares_3 ⟨Nat.le_of_ble_eq_true rfl, Nat.le_of_ble_eq_true rfl⟩) hA hP hD hS (isC := [0, 4, 1]) rfl [2, 3, 5, 6, 7, 8, 9] [7, 9, 0, 1, 8, 2, 3, 4, 5, 6] (br := [stC E (X 2) g2, stC E (X 3) g3, diC E (X 5) co re, grC E (X 6) so gw, prC E (X 7) q F, sbO E (X 8) v ml n, baC E v cp t]) (bs2 := fun _ => [coC E (X 0) (X 1) (X 2) (X 3) (X 4) (X 5) (X 6) (X 7) (X 8) w, stC E (X 1) (buyG g (tn p0) (tn p1)), stC E (X 2) g2, stC E (X 3) g3, hhC E (X 4) hs (upa hg nx g) ((nx + 1) % 8) (if 8 < ct + 1 then 8 else ct + 1), diC E (X 5) co re, grC E (X 6) so gw, prC E (X 7) q F, sbO E (X 8) v ml n, baC E v cp t]) (bx2 := fun _ => [coC E (X 0) (X 1) (X 2) (X 3) (X 4) (X 5) (X 6) (X 7) (X 8) w, stC E (X 1) g, stC E (X 2) g2, stC E (X 3) g3, hhC E (X 4) hs hg nx ct, diC E (X 5) co re, grC E (X 6) so gw, prC E (X 7) q F, sbO E (X 8) v ml n, baC E v cp t]) rfl (by decide) (fun _ => rfl) (fun _ => rfl) (by decide) (fun Ex ce q9 ux H locs hw hP hD hS hc1 hc2 hc3 => ?_) (fun r u H locs hw hP hD hS => ?_)
  · skip
    obtain ⟨hf, hE⟩ := hw
    rcases (fB_v : fBuy g p0 p1 = 0 ∨ fBuy g p0 p1 = 1 ∨ fBuy g p0 p1 = 2 ∨ fBuy g p0 p1 = 3 ∨ fBuy g p0 p1 = 4) with hv | hv | hv | hv | hv
    · exact absurd hv hf
    · skip
      rw [hv] at hE
      have hE : Ex = IOX := hE
      subst hE
      refine vx_catch (own := RL) (name := IOX) hown [] ⟨0, 6, 7, 28⟩ [⟨0, 6, 11, 20⟩, ⟨0, 6, 15, 22⟩, ⟨0, 6, 19, 36⟩] (htab.trans rfl) (fun z hz => absurd hz List.not_mem_nil) rfl (by decide) (hts _ q322) (va_Nw.use rfl (hZ.2.2.1 _ (List.mem_of_getElem? (i := 0) rfl))) hc1 hc2 hc3 ?_
      refine lv_astore_n (lv' := [(3, .ref q9), (0, .ref ((X 0) 0)), (1, .int p0), (2, .int p1)]) hx hb dL_buyShares_7 rfl hl (by decide) rfl (fun ls hl => ?_)
      refine lv_bipush (v := -77) hx hb dL_buyShares_8 (by decide) ?_
      exact hret _ _ (-77 : Int32) (false, (g3, co, re, so, gw, q, F, v, ml, n, cp, t)) _ _ _ _ hP hD hS ⟨(decide_eq_false hf).symm, by rw [if_neg hf, hv]; rfl, hj⟩ dL_buyShares_10 (by omega) (by omega)
    · skip
      rw [hv] at hE
      have hE : Ex = IAX := hE
      subst hE
      refine vx_catch (own := RL) (name := IAX) hown [⟨0, 6, 7, 28⟩] ⟨0, 6, 11, 20⟩ [⟨0, 6, 15, 22⟩, ⟨0, 6, 19, 36⟩] (htab.trans rfl) (fun z hz => by
          rcases List.mem_cons.mp hz with rfl | hz
          · exact Or.inr ⟨by decide, IOX, hts _ q322, hZ.2.2.2.1 _ (List.mem_of_getElem? (i := 19) rfl)⟩
          · exact absurd hz List.not_mem_nil) rfl (by decide) (hts _ q451) (va_Nw.use rfl (hZ.2.2.1 _ (List.mem_of_getElem? (i := 1) rfl))) hc1 hc2 hc3 ?_
      refine lv_astore_n (lv' := [(3, .ref q9), (0, .ref ((X 0) 0)), (1, .int p0), (2, .int p1)]) hx hb dL_buyShares_11 rfl hl (by decide) rfl (fun ls hl => ?_)
      refine lv_bipush (v := -78) hx hb dL_buyShares_12 (by decide) ?_
      exact hret _ _ (-78 : Int32) (false, (g3, co, re, so, gw, q, F, v, ml, n, cp, t)) _ _ _ _ hP hD hS ⟨(decide_eq_false hf).symm, by rw [if_neg hf, hv]; rfl, hj⟩ dL_buyShares_14 (by omega) (by omega)
    · skip
      rw [hv] at hE
      have hE : Ex = ISX := hE
      subst hE
      refine vx_catch (own := RL) (name := ISX) hown [⟨0, 6, 7, 28⟩, ⟨0, 6, 11, 20⟩] ⟨0, 6, 15, 22⟩ [⟨0, 6, 19, 36⟩] (htab.trans rfl) (fun z hz => by
          rcases List.mem_cons.mp hz with rfl | hz
          · exact Or.inr ⟨by decide, IOX, hts _ q322, hZ.2.2.2.1 _ (List.mem_of_getElem? (i := 20) rfl)⟩
          · rcases List.mem_cons.mp hz with rfl | hz
            · exact Or.inr ⟨by decide, IAX, hts _ q451, hZ.2.2.2.1 _ (List.mem_of_getElem? (i := 2) rfl)⟩
            · exact absurd hz List.not_mem_nil) rfl (by decide) (hts _ q603) (va_Nw.use rfl (hZ.2.2.1 _ (List.mem_of_getElem? (i := 2) rfl))) hc1 hc2 hc3 ?_
      refine lv_astore_n (lv' := [(3, .ref q9), (0, .ref ((X 0) 0)), (1, .int p0), (2, .int p1)]) hx hb dL_buyShares_15 rfl hl (by decide) rfl (fun ls hl => ?_)
      refine lv_bipush (v := -79) hx hb dL_buyShares_16 (by decide) ?_
      exact hret _ _ (-79 : Int32) (false, (g3, co, re, so, gw, q, F, v, ml, n, cp, t)) _ _ _ _ hP hD hS ⟨(decide_eq_false hf).symm, by rw [if_neg hf, hv]; rfl, hj⟩ dL_buyShares_18 (by omega) (by omega)
    · skip
      rw [hv] at hE
      have hE : Ex = UOX := hE
      subst hE
      refine vx_catch (own := RL) (name := UOX) hown [⟨0, 6, 7, 28⟩, ⟨0, 6, 11, 20⟩, ⟨0, 6, 15, 22⟩] ⟨0, 6, 19, 36⟩ [] (htab.trans rfl) (fun z hz => by
          rcases List.mem_cons.mp hz with rfl | hz
          · exact Or.inr ⟨by decide, IOX, hts _ q322, hZ.2.2.2.1 _ (List.mem_of_getElem? (i := 21) rfl)⟩
          · rcases List.mem_cons.mp hz with rfl | hz
            · exact Or.inr ⟨by decide, IAX, hts _ q451, hZ.2.2.2.1 _ (List.mem_of_getElem? (i := 3) rfl)⟩
            · rcases List.mem_cons.mp hz with rfl | hz
              · exact Or.inr ⟨by decide, ISX, hts _ q603, hZ.2.2.2.1 _ (List.mem_of_getElem? (i := 12) rfl)⟩
              · exact absurd hz List.not_mem_nil) rfl (by decide) (hts _ q656) (va_Nw.use rfl (hZ.2.2.1 _ (List.mem_of_getElem? (i := 3) rfl))) hc1 hc2 hc3 ?_
      refine lv_astore_n (lv' := [(3, .ref q9), (0, .ref ((X 0) 0)), (1, .int p0), (2, .int p1)]) hx hb dL_buyShares_19 rfl hl (by decide) rfl (fun ls hl => ?_)
      refine lv_bipush (v := -76) hx hb dL_buyShares_20 (by decide) ?_
      exact hret _ _ (-76 : Int32) (false, (g3, co, re, so, gw, q, F, v, ml, n, cp, t)) _ _ _ _ hP hD hS ⟨(decide_eq_false hf).symm, by rw [if_neg hf, hv]; rfl, hj⟩ dL_buyShares_22 (by omega) (by omega)
  exact hret _ _ r (true, (g3, co, re, so, gw, q, F, v, ml, n, cp, t)) _ _ _ _ hP hD hS ⟨(decide_eq_true hw.1).symm, (by rw [hw.2]; exact (if_pos hw.1).symm), hj⟩ dL_buyShares_6 (by omega) (by omega)
abbrev rm_L_passBeats : Room := { frames := 8, cells := 1, slots := 6, locals := 183 }
set_option maxHeartbeats 4000000 in
set_option maxRecDepth 100000 in
theorem c_L_passBeats (l : Launch) (hst : l.stackTraces = false) (E : EE) (sz : Nat) (X hs : Nat → Nat → Nat) (w : Nat → Nat) (g g2 : GG) (B : Nat) (hI : IB B g) (hg : Nat → GG) (nx ct : Nat) (hnx : nx < 8) (hct : ct ≤ 8) (j : JT) (hj : JV j) (hB60 : B + 60 ≤ 300000) (p0 : Int32) : MW l yL_passBeats cL_passBeats 3 [(0, 5, 6, 20)] rm_L_passBeats [.ref ((X 0) 0), .int p0] E sz (OB E X hs w g g2 hg nx ct j) (fun (r : Int32) (u : Bool × JT) => u.1 = decide (fPass p0 = 0) ∧ r = (if fPass p0 = 0 then nI (passN g (tn p0)) else rfX (fPass p0)) ∧ JV u.2) (fun u => OB E X hs w (gN u.1 (passG g (tn p0)) g) g2 (hgN u.1 hg nx g) (nxN u.1 nx) (ctN u.1 ct) u.2) 1 6 := by
  obtain ⟨g3, co, re, so, gw, q, F, v, ml, n, cp, t⟩ := j
  refine mw_go (by decide) (Nat.le_of_ble_eq_true rfl) ?_
  intro p e s m below meth c A Q ls hx hb hml hown hts hK hZ hDD hA hsz hP hD hl htab hret
  have hS : va_S A s.heap s.heap [] := va_S.rf
  have hP : va_P E.1 vwCl ([coC E (X 0) (X 1) (X 2) (X 3) (X 4) (X 5) (X 6) (X 7) (X 8) w, stC E (X 1) g, stC E (X 2) g2, stC E (X 3) g3, hhC E (X 4) hs hg nx ct, diC E (X 5) co re, grC E (X 6) so gw, prC E (X 7) q F, sbO E (X 8) v ml n, baC E v cp t] : List va_W).flatten s.heap := hP
  have hD : va_D A ([coC E (X 0) (X 1) (X 2) (X 3) (X 4) (X 5) (X 6) (X 7) (X 8) w, stC E (X 1) g, stC E (X 2) g2, stC E (X 3) g3, hhC E (X 4) hs hg nx ct, diC E (X 5) co re, grC E (X 6) so gw, prC E (X 7) q F, sbO E (X 8) v ml n, baC E v cp t] : List va_W).flatten := hD
  have hl : lv_has ls 3 [(0, .ref ((X 0) 0)), (1, .int p0)] := hl
  have hmc := hI.mc
  refine lv_aload_n hx hb dL_passBeats_0 rfl (lv_at hl 0 rfl) ?_
  refine lv_iload_n hx hb dL_passBeats_1 rfl (lv_at hl 1 rfl) ?_
  refine run_xi (S := Unit) (SX := Unit) (run_XV (As := [.int p0]) (rest := []) (bs := [coC E (X 0) (X 1) (X 2) (X 3) (X 4) (X 5) (X 6) (X 7) (X 8) w, stC E (X 1) g, stC E (X 2) g2, stC E (X 3) g3, hhC E (X 4) hs hg nx ct, diC E (X 5) co re, grC E (X 6) so gw, prC E (X 7) q F, sbO E (X 8) v ml n, baC E v cp t]) (cb := [coC E (X 0) (X 1) (X 2) (X 3) (X 4) (X 5) (X 6) (X 7) (X 8) w, hhC E (X 4) hs hg nx ct, stC E (X 1) g]) hx hb hml hown hts hK hZ hDD hA (c_X5_passBeats l hst E _ (X 0) (X 1) (X 2) (X 3) (X 4) (X 5) (X 6) (X 7) (X 8) w g B hI hs hg nx ct hnx hct hB60 p0) l_L_38 rfl ⟨⟨rfl, rfl⟩, Nat.le_of_ble_eq_true rfl, Nat.le_of_ble_eq_true rfl⟩ 9 rfl [0, 4, 1] rfl (by decide) rfl hP hD hS hl.1 rfl (Nat.le_of_ble_eq_true rfl) dL_passBeats_2 ⟨Nat.le_of_ble_eq_true rfl, Nat.le_of_ble_eq_true rfl⟩) hA hP hD hS (isC := [0, 4, 1]) rfl [2, 3, 5, 6, 7, 8, 9] [7, 9, 0, 1, 8, 2, 3, 4, 5, 6] (br := [stC E (X 2) g2, stC E (X 3) g3, diC E (X 5) co re, grC E (X 6) so gw, prC E (X 7) q F, sbO E (X 8) v ml n, baC E v cp t]) (bs2 := fun _ => [coC E (X 0) (X 1) (X 2) (X 3) (X 4) (X 5) (X 6) (X 7) (X 8) w, stC E (X 1) (passG g (tn p0)), stC E (X 2) g2, stC E (X 3) g3, hhC E (X 4) hs (upa hg nx g) ((nx + 1) % 8) (if 8 < ct + 1 then 8 else ct + 1), diC E (X 5) co re, grC E (X 6) so gw, prC E (X 7) q F, sbO E (X 8) v ml n, baC E v cp t]) (bx2 := fun _ => [coC E (X 0) (X 1) (X 2) (X 3) (X 4) (X 5) (X 6) (X 7) (X 8) w, stC E (X 1) g, stC E (X 2) g2, stC E (X 3) g3, hhC E (X 4) hs hg nx ct, diC E (X 5) co re, grC E (X 6) so gw, prC E (X 7) q F, sbO E (X 8) v ml n, baC E v cp t]) rfl (by decide) (fun _ => rfl) (fun _ => rfl) (by decide) (fun Ex ce q9 ux H locs hw hP hD hS hc1 hc2 hc3 => ?_) (fun r u H locs hw hP hD hS => ?_)
  · skip
    obtain ⟨hf, hE⟩ := hw
    rcases (fP_v : fPass p0 = 0 ∨ fPass p0 = 2) with hv | hv
    · exact absurd hv hf
    · skip
      rw [hv] at hE
      have hE : Ex = IAX := hE
      subst hE
      refine vx_catch (own := RL) (name := IAX) hown [] ⟨0, 5, 6, 20⟩ [] (htab.trans rfl) (fun z hz => absurd hz List.not_mem_nil) rfl (by decide) (hts _ q451) (va_Nw.use rfl (hZ.2.2.1 _ (List.mem_of_getElem? (i := 1) rfl))) hc1 hc2 hc3 ?_
      refine lv_astore_n (lv' := [(2, .ref q9), (0, .ref ((X 0) 0)), (1, .int p0)]) hx hb dL_passBeats_6 rfl hl (by decide) rfl (fun ls hl => ?_)
      refine lv_bipush (v := -78) hx hb dL_passBeats_7 (by decide) ?_
      exact hret _ _ (-78 : Int32) (false, (g3, co, re, so, gw, q, F, v, ml, n, cp, t)) _ _ _ _ hP hD hS ⟨(decide_eq_false hf).symm, by rw [if_neg hf, hv]; rfl, hj⟩ dL_passBeats_9 (by omega) (by omega)
  exact hret _ _ r (true, (g3, co, re, so, gw, q, F, v, ml, n, cp, t)) _ _ _ _ hP hD hS ⟨(decide_eq_true hw.1).symm, (by rw [hw.2]; exact (if_pos hw.1).symm), hj⟩ dL_passBeats_5 (by omega) (by omega)
abbrev rm_L_endQuarter : Room := { frames := 8, cells := 1, slots := 6, locals := 213 }
set_option maxHeartbeats 4000000 in
set_option maxRecDepth 100000 in
theorem c_L_endQuarter (l : Launch) (hst : l.stackTraces = false) (E : EE) (sz : Nat) (X hs : Nat → Nat → Nat) (w : Nat → Nat) (g g2 : GG) (B : Nat) (hI : IB B g) (hg : Nat → GG) (nx ct : Nat) (hnx : nx < 8) (hct : ct ≤ 8) (j : JT) (hj : JV j)  : MW l yL_endQuarter cL_endQuarter 2 [(0, 4, 5, 22)] rm_L_endQuarter [.ref ((X 0) 0)] E sz (OB E X hs w g g2 hg nx ct j) (fun (r : Int32) (u : Bool × JT) => u.1 = decide (fPay g = 0) ∧ r = (if fPay g = 0 then nI (g 8 2) else rfX (fPay g)) ∧ JV u.2) (fun u => OB E X hs w (gN u.1 (payG g) g) g2 (hgN u.1 hg nx g) (nxN u.1 nx) (ctN u.1 ct) u.2) 1 6 := by
  obtain ⟨g3, co, re, so, gw, q, F, v, ml, n, cp, t⟩ := j
  refine mw_go (by decide) (Nat.le_of_ble_eq_true rfl) ?_
  intro p e s m below meth c A Q ls hx hb hml hown hts hK hZ hDD hA hsz hP hD hl htab hret
  have hS : va_S A s.heap s.heap [] := va_S.rf
  have hP : va_P E.1 vwCl ([coC E (X 0) (X 1) (X 2) (X 3) (X 4) (X 5) (X 6) (X 7) (X 8) w, stC E (X 1) g, stC E (X 2) g2, stC E (X 3) g3, hhC E (X 4) hs hg nx ct, diC E (X 5) co re, grC E (X 6) so gw, prC E (X 7) q F, sbO E (X 8) v ml n, baC E v cp t] : List va_W).flatten s.heap := hP
  have hD : va_D A ([coC E (X 0) (X 1) (X 2) (X 3) (X 4) (X 5) (X 6) (X 7) (X 8) w, stC E (X 1) g, stC E (X 2) g2, stC E (X 3) g3, hhC E (X 4) hs hg nx ct, diC E (X 5) co re, grC E (X 6) so gw, prC E (X 7) q F, sbO E (X 8) v ml n, baC E v cp t] : List va_W).flatten := hD
  have hl : lv_has ls 2 [(0, .ref ((X 0) 0))] := hl
  have hmc := hI.mc
  refine lv_aload_n hx hb dL_endQuarter_0 rfl (lv_at hl 0 rfl) ?_
  refine run_xi (S := (Nat → Nat) × (Nat → Nat)) (SX := Unit) (run_XV (As := []) (rest := []) (bs := [coC E (X 0) (X 1) (X 2) (X 3) (X 4) (X 5) (X 6) (X 7) (X 8) w, stC E (X 1) g, stC E (X 2) g2, stC E (X 3) g3, hhC E (X 4) hs hg nx ct, diC E (X 5) co re, grC E (X 6) so gw, prC E (X 7) q F, sbO E (X 8) v ml n, baC E v cp t]) (cb := [coC E (X 0) (X 1) (X 2) (X 3) (X 4) (X 5) (X 6) (X 7) (X 8) w, hhC E (X 4) hs hg nx ct, stC E (X 1) g, diC E (X 5) co re]) hx hb hml hown hts hK hZ hDD hA (c_X5_endQuarter l hst E _ (X 0) (X 1) (X 2) (X 3) (X 4) (X 5) (X 6) (X 7) (X 8) w g B hI hs hg nx ct hnx hct co re) l_L_42 rfl ⟨⟨rfl, rfl⟩, Nat.le_of_ble_eq_true rfl, Nat.le_of_ble_eq_true rfl⟩ 9 rfl [0, 4, 1, 5] rfl (by decide) rfl hP hD hS hl.1 rfl (Nat.le_of_ble_eq_true rfl) dL_endQuarter_1 ⟨Nat.le_of_ble_eq_true rfl, Nat.le_of_ble_eq_true rfl⟩) hA hP hD hS (isC := [0, 4, 1, 5]) rfl [2, 3, 6, 7, 8, 9] [6, 8, 0, 1, 7, 9, 2, 3, 4, 5] (br := [stC E (X 2) g2, stC E (X 3) g3, grC E (X 6) so gw, prC E (X 7) q F, sbO E (X 8) v ml n, baC E v cp t]) (bs2 := fun u => [coC E (X 0) (X 1) (X 2) (X 3) (X 4) (X 5) (X 6) (X 7) (X 8) w, stC E (X 1) (payG g), stC E (X 2) g2, stC E (X 3) g3, hhC E (X 4) hs (upa hg nx g) ((nx + 1) % 8) (if 8 < ct + 1 then 8 else ct + 1), diC E (X 5) u.1 u.2, grC E (X 6) so gw, prC E (X 7) q F, sbO E (X 8) v ml n, baC E v cp t]) (bx2 := fun _ => [coC E (X 0) (X 1) (X 2) (X 3) (X 4) (X 5) (X 6) (X 7) (X 8) w, stC E (X 1) g, stC E (X 2) g2, stC E (X 3) g3, hhC E (X 4) hs hg nx ct, diC E (X 5) co re, grC E (X 6) so gw, prC E (X 7) q F, sbO E (X 8) v ml n, baC E v cp t]) rfl (by decide) (fun _ => rfl) (fun _ => rfl) (by decide) (fun Ex ce q9 ux H locs hw hP hD hS hc1 hc2 hc3 => ?_) (fun r u H locs hw hP hD hS => ?_)
  · skip
    obtain ⟨hf, hE⟩ := hw
    rcases (fQ_v : fPay g = 0 ∨ fPay g = 3) with hv | hv
    · exact absurd hv hf
    · skip
      rw [hv] at hE
      have hE : Ex = ISX := hE
      subst hE
      refine vx_catch (own := RL) (name := ISX) hown [] ⟨0, 4, 5, 22⟩ [] (htab.trans rfl) (fun z hz => absurd hz List.not_mem_nil) rfl (by decide) (hts _ q603) (va_Nw.use rfl (hZ.2.2.1 _ (List.mem_of_getElem? (i := 2) rfl))) hc1 hc2 hc3 ?_
      refine lv_astore_n (lv' := [(1, .ref q9), (0, .ref ((X 0) 0))]) hx hb dL_endQuarter_5 rfl hl (by decide) rfl (fun ls hl => ?_)
      refine lv_bipush (v := -79) hx hb dL_endQuarter_6 (by decide) ?_
      exact hret _ _ (-79 : Int32) (false, (g3, co, re, so, gw, q, F, v, ml, n, cp, t)) _ _ _ _ hP hD hS ⟨(decide_eq_false hf).symm, by rw [if_neg hf, hv]; rfl, hj⟩ dL_endQuarter_8 (by omega) (by omega)
  exact hret _ _ r (true, (g3, u.1, u.2, so, gw, q, F, v, ml, n, cp, t)) _ _ _ _ hP hD hS ⟨(decide_eq_true hw.1).symm, (by rw [hw.2]; exact (if_pos hw.1).symm), hj⟩ dL_endQuarter_4 (by omega) (by omega)
abbrev rm_L_vote : Room := { frames := 8, cells := 1, slots := 6, locals := 185 }
set_option maxHeartbeats 4000000 in
set_option maxRecDepth 100000 in
theorem c_L_vote (l : Launch) (hst : l.stackTraces = false) (E : EE) (sz : Nat) (X hs : Nat → Nat → Nat) (w : Nat → Nat) (g g2 : GG) (B : Nat) (hI : IB B g) (hg : Nat → GG) (nx ct : Nat) (hnx : nx < 8) (hct : ct ≤ 8) (j : JT) (hj : JV j) (p0 : Int32) (p1 : Int32) : MW l yL_vote cL_vote 4 [(0, 14, 15, 20)] rm_L_vote [.ref ((X 0) 0), .int p0, .int p1] E sz (OB E X hs w g g2 hg nx ct j) (fun (r : Int32) (u : Bool × JT) => u.1 = decide (fMot p0 p1 = 0) ∧ r = (if fMot p0 p1 = 0 then bI (decide (quo g ≤ favN g (tn p0) (tn p1))) else rfX (fMot p0 p1)) ∧ JV u.2) (fun u => OB E X hs w (gN u.1 (voteG g (tn p0) (tn p1)) g) g2 (hgN u.1 hg nx g) (nxN u.1 nx) (ctN u.1 ct) u.2) 1 6 := by
  obtain ⟨g3, co, re, so, gw, q, F, v, ml, n, cp, t⟩ := j
  refine mw_go (by decide) (Nat.le_of_ble_eq_true rfl) ?_
  intro p e s m below meth c A Q ls hx hb hml hown hts hK hZ hDD hA hsz hP hD hl htab hret
  have hS : va_S A s.heap s.heap [] := va_S.rf
  have hP : va_P E.1 vwCl ([coC E (X 0) (X 1) (X 2) (X 3) (X 4) (X 5) (X 6) (X 7) (X 8) w, stC E (X 1) g, stC E (X 2) g2, stC E (X 3) g3, hhC E (X 4) hs hg nx ct, diC E (X 5) co re, grC E (X 6) so gw, prC E (X 7) q F, sbO E (X 8) v ml n, baC E v cp t] : List va_W).flatten s.heap := hP
  have hD : va_D A ([coC E (X 0) (X 1) (X 2) (X 3) (X 4) (X 5) (X 6) (X 7) (X 8) w, stC E (X 1) g, stC E (X 2) g2, stC E (X 3) g3, hhC E (X 4) hs hg nx ct, diC E (X 5) co re, grC E (X 6) so gw, prC E (X 7) q F, sbO E (X 8) v ml n, baC E v cp t] : List va_W).flatten := hD
  have hl : lv_has ls 4 [(0, .ref ((X 0) 0)), (1, .int p0), (2, .int p1)] := hl
  have hmc := hI.mc
  refine lv_aload_n hx hb dL_vote_0 rfl (lv_at hl 0 rfl) ?_
  refine lv_iload_n hx hb dL_vote_1 rfl (lv_at hl 1 rfl) ?_
  refine lv_iload_n hx hb dL_vote_2 rfl (lv_at hl 2 rfl) ?_
  refine run_xi (S := Unit) (SX := Unit) (run_XV (As := [.int p0, .int p1]) (rest := []) (bs := [coC E (X 0) (X 1) (X 2) (X 3) (X 4) (X 5) (X 6) (X 7) (X 8) w, stC E (X 1) g, stC E (X 2) g2, stC E (X 3) g3, hhC E (X 4) hs hg nx ct, diC E (X 5) co re, grC E (X 6) so gw, prC E (X 7) q F, sbO E (X 8) v ml n, baC E v cp t]) (cb := [coC E (X 0) (X 1) (X 2) (X 3) (X 4) (X 5) (X 6) (X 7) (X 8) w, hhC E (X 4) hs hg nx ct, stC E (X 1) g]) hx hb hml hown hts hK hZ hDD hA (c_X5_vote l hst E _ (X 0) (X 1) (X 2) (X 3) (X 4) (X 5) (X 6) (X 7) (X 8) w g B hI hs hg nx ct hnx hct p0 p1) l_L_46 rfl ⟨⟨rfl, rfl⟩, Nat.le_of_ble_eq_true rfl, Nat.le_of_ble_eq_true rfl⟩ 9 rfl [0, 4, 1] rfl (by decide) rfl hP hD hS hl.1 rfl (Nat.le_of_ble_eq_true rfl) dL_vote_3 ⟨Nat.le_of_ble_eq_true rfl, Nat.le_of_ble_eq_true rfl⟩) hA hP hD hS (isC := [0, 4, 1]) rfl [2, 3, 5, 6, 7, 8, 9] [7, 9, 0, 1, 8, 2, 3, 4, 5, 6] (br := [stC E (X 2) g2, stC E (X 3) g3, diC E (X 5) co re, grC E (X 6) so gw, prC E (X 7) q F, sbO E (X 8) v ml n, baC E v cp t]) (bs2 := fun _ => [coC E (X 0) (X 1) (X 2) (X 3) (X 4) (X 5) (X 6) (X 7) (X 8) w, stC E (X 1) (voteG g (tn p0) (tn p1)), stC E (X 2) g2, stC E (X 3) g3, hhC E (X 4) hs (upa hg nx g) ((nx + 1) % 8) (if 8 < ct + 1 then 8 else ct + 1), diC E (X 5) co re, grC E (X 6) so gw, prC E (X 7) q F, sbO E (X 8) v ml n, baC E v cp t]) (bx2 := fun _ => [coC E (X 0) (X 1) (X 2) (X 3) (X 4) (X 5) (X 6) (X 7) (X 8) w, stC E (X 1) g, stC E (X 2) g2, stC E (X 3) g3, hhC E (X 4) hs hg nx ct, diC E (X 5) co re, grC E (X 6) so gw, prC E (X 7) q F, sbO E (X 8) v ml n, baC E v cp t]) rfl (by decide) (fun _ => rfl) (fun _ => rfl) (by decide) (fun Ex ce q9 ux H locs hw hP hD hS hc1 hc2 hc3 => ?_) (fun r u H locs hw hP hD hS => ?_)
  · skip
    obtain ⟨hf, hE⟩ := hw
    rcases (fM_v : fMot p0 p1 = 0 ∨ fMot p0 p1 = 2) with hv | hv
    · exact absurd hv hf
    · skip
      rw [hv] at hE
      have hE : Ex = IAX := hE
      subst hE
      refine vx_catch (own := RL) (name := IAX) hown [] ⟨0, 14, 15, 20⟩ [] (htab.trans rfl) (fun z hz => absurd hz List.not_mem_nil) rfl (by decide) (hts _ q451) (va_Nw.use rfl (hZ.2.2.1 _ (List.mem_of_getElem? (i := 1) rfl))) hc1 hc2 hc3 ?_
      refine lv_astore_n (lv' := [(3, .ref q9), (0, .ref ((X 0) 0)), (1, .int p0), (2, .int p1)]) hx hb dL_vote_15 rfl hl (by decide) rfl (fun ls hl => ?_)
      refine lv_bipush (v := -78) hx hb dL_vote_16 (by decide) ?_
      exact hret _ _ (-78 : Int32) (false, (g3, co, re, so, gw, q, F, v, ml, n, cp, t)) _ _ _ _ hP hD hS ⟨(decide_eq_false hf).symm, by rw [if_neg hf, hv]; rfl, hj⟩ dL_vote_18 (by omega) (by omega)
  obtain ⟨hf, rfl⟩ := hw
  refine bv_if_eq hx hb (tgt := 13) dL_vote_6 (by decide) (fun c_1 => ?_) (fun c_1 => ?_)
  · skip
    refine lv_iconst (v := nI 0) hx hb dL_vote_13 (by decide) ?_
    exact hret _ _ (nI 0) (true, (g3, co, re, so, gw, q, F, v, ml, n, cp, t)) _ _ _ _ hP hD hS ⟨(decide_eq_true hf).symm, (by rw [if_pos hf]; first | (rw [show decide (quo g ≤ favN g (tn p0) (tn p1)) = true by assumption]; rfl) | (rw [show decide (quo g ≤ favN g (tn p0) (tn p1)) = false by assumption]; rfl)), hj⟩ dL_vote_14 (by omega) (by omega)
  · skip
    refine lv_iconst (v := nI 1) hx hb dL_vote_9 (by decide) ?_
    refine lv_goto (tgt := 14) hx hb dL_vote_10 (by decide) ?_
    exact hret _ _ (nI 1) (true, (g3, co, re, so, gw, q, F, v, ml, n, cp, t)) _ _ _ _ hP hD hS ⟨(decide_eq_true hf).symm, (by rw [if_pos hf]; first | (rw [show decide (quo g ≤ favN g (tn p0) (tn p1)) = true by assumption]; rfl) | (rw [show decide (quo g ≤ favN g (tn p0) (tn p1)) = false by assumption]; rfl)), hj⟩ dL_vote_14 (by omega) (by omega)
abbrev rm_L_append : Room := { frames := 7, cells := 1, slots := 6, locals := 121 }
set_option maxHeartbeats 4000000 in
set_option maxRecDepth 100000 in
theorem c_L_append (l : Launch) (hst : l.stackTraces = false) (E : EE) (sz : Nat) (X hs : Nat → Nat → Nat) (w : Nat → Nat) (g g2 : GG) (B : Nat) (hI : IB B g) (hg : Nat → GG) (nx ct : Nat) (hnx : nx < 8) (hct : ct ≤ 8) (j : JT) (hj : JV j) (n0 : Nat) (hn0 : n0 < 65536) : MW l yL_append cL_append 3 [(0, 5, 6, 22)] rm_L_append [.ref ((X 0) 0), .int (nI n0)] E sz (OB E X hs w g g2 hg nx ct j) (fun (r : Int32) (u : JT) => JV u) (fun u => OB E X hs w g g2 hg nx ct u) 1 6 := by
  obtain ⟨g3, co, re, so, gw, q, F, v, ml, n, cp, t⟩ := j
  refine mw_go (by decide) (Nat.le_of_ble_eq_true rfl) ?_
  intro p e s m below meth c A Q ls hx hb hml hown hts hK hZ hDD hA hsz hP hD hl htab hret
  have hS : va_S A s.heap s.heap [] := va_S.rf
  have hP : va_P E.1 vwCl ([coC E (X 0) (X 1) (X 2) (X 3) (X 4) (X 5) (X 6) (X 7) (X 8) w, stC E (X 1) g, stC E (X 2) g2, stC E (X 3) g3, hhC E (X 4) hs hg nx ct, diC E (X 5) co re, grC E (X 6) so gw, prC E (X 7) q F, sbO E (X 8) v ml n, baC E v cp t] : List va_W).flatten s.heap := hP
  have hD : va_D A ([coC E (X 0) (X 1) (X 2) (X 3) (X 4) (X 5) (X 6) (X 7) (X 8) w, stC E (X 1) g, stC E (X 2) g2, stC E (X 3) g3, hhC E (X 4) hs hg nx ct, diC E (X 5) co re, grC E (X 6) so gw, prC E (X 7) q F, sbO E (X 8) v ml n, baC E v cp t] : List va_W).flatten := hD
  have hl : lv_has ls 3 [(0, .ref ((X 0) 0)), (1, .int (nI n0))] := hl
  have hmc := hI.mc
  refine lv_aload_n hx hb dL_append_0 rfl (lv_at hl 0 rfl) ?_
  refine lv_iload_n hx hb dL_append_1 rfl (lv_at hl 1 rfl) ?_
  refine run_xi (S := Unit) (SX := Unit) (run_XV (As := [.int (nI n0)]) (rest := []) (bs := [coC E (X 0) (X 1) (X 2) (X 3) (X 4) (X 5) (X 6) (X 7) (X 8) w, stC E (X 1) g, stC E (X 2) g2, stC E (X 3) g3, hhC E (X 4) hs hg nx ct, diC E (X 5) co re, grC E (X 6) so gw, prC E (X 7) q F, sbO E (X 8) v ml n, baC E v cp t]) (cb := [coC E (X 0) (X 1) (X 2) (X 3) (X 4) (X 5) (X 6) (X 7) (X 8) w, prC E (X 7) q F]) hx hb hml hown hts hK hZ hDD hA (c_X5_append l hst E _ (X 0) (X 1) (X 2) (X 3) (X 4) (X 5) (X 6) (X 7) (X 8) w q F n0 hn0 hj.1.1) l_L_128 rfl ⟨⟨rfl, rfl⟩, Nat.le_of_ble_eq_true rfl, Nat.le_of_ble_eq_true rfl⟩ 9 rfl [0, 7] rfl (by decide) rfl hP hD hS hl.1 rfl (Nat.le_of_ble_eq_true rfl) dL_append_2 ⟨Nat.le_of_ble_eq_true rfl, Nat.le_of_ble_eq_true rfl⟩) hA hP hD hS (isC := [0, 7]) rfl [1, 2, 3, 4, 5, 6, 8, 9] [8, 0, 1, 2, 3, 4, 5, 9, 6, 7] (br := [stC E (X 1) g, stC E (X 2) g2, stC E (X 3) g3, hhC E (X 4) hs hg nx ct, diC E (X 5) co re, grC E (X 6) so gw, sbO E (X 8) v ml n, baC E v cp t]) (bs2 := fun _ => [coC E (X 0) (X 1) (X 2) (X 3) (X 4) (X 5) (X 6) (X 7) (X 8) w, stC E (X 1) g, stC E (X 2) g2, stC E (X 3) g3, hhC E (X 4) hs hg nx ct, diC E (X 5) co re, grC E (X 6) so gw, prC E (X 7) (upn q 0 (q 0 + 1)) (upr F 0 (upn (F 0) (q 0) n0)), sbO E (X 8) v ml n, baC E v cp t]) (bx2 := fun _ => [coC E (X 0) (X 1) (X 2) (X 3) (X 4) (X 5) (X 6) (X 7) (X 8) w, stC E (X 1) g, stC E (X 2) g2, stC E (X 3) g3, hhC E (X 4) hs hg nx ct, diC E (X 5) co re, grC E (X 6) so gw, prC E (X 7) q F, sbO E (X 8) v ml n, baC E v cp t]) rfl (by decide) (fun _ => rfl) (fun _ => rfl) (by decide) (fun Ex ce q9 ux H locs hw hP hD hS hc1 hc2 hc3 => ?_) (fun r u H locs hw hP hD hS => ?_)
  · skip
    obtain ⟨hE, hq⟩ := hw
    subst hE
    refine vx_catch (own := RL) (name := ISX) hown [] ⟨0, 5, 6, 22⟩ [] (htab.trans rfl) (fun z hz => absurd hz List.not_mem_nil) rfl (by decide) (hts _ q603) (va_Nw.use rfl (hZ.2.2.1 _ (List.mem_of_getElem? (i := 2) rfl))) hc1 hc2 hc3 ?_
    refine lv_astore_n (lv' := [(2, .ref q9), (0, .ref ((X 0) 0)), (1, .int (nI n0))]) hx hb dL_append_6 rfl hl (by decide) rfl (fun ls hl => ?_)
    refine lv_bipush (v := -79) hx hb dL_append_7 (by decide) ?_
    exact hret _ _ (-79 : Int32) (g3, co, re, so, gw, q, F, v, ml, n, cp, t) _ _ _ _ hP hD hS hj dL_append_9 (by omega) (by omega)
  exact hret _ _ r (g3, co, re, so, gw, (upn q 0 (q 0 + 1)), (upr F 0 (upn (F 0) (q 0) n0)), v, ml, n, cp, t) _ _ _ _ hP hD hS (JV_app hj hw.1 hn0) dL_append_5 (by omega) (by omega)
abbrev rm_L_run : Room := { frames := 8, cells := 2, slots := 12, locals := 259 }
set_option maxHeartbeats 4000000 in
set_option maxRecDepth 100000 in
theorem c_L_run (l : Launch) (hst : l.stackTraces = false) (E : EE) (sz : Nat) (X hs : Nat → Nat → Nat) (w : Nat → Nat) (g g2 : GG) (B : Nat) (hI : IB B g) (hg : Nat → GG) (nx ct : Nat) (hnx : nx < 8) (hct : ct ≤ 8) (j : JT) (hj : JV j) (hB420 : B + 420 ≤ 300000)  : MW l yL_run cL_run 2 [(0, 4, 5, 20), (0, 4, 9, 36)] rm_L_run [.ref ((X 0) 0)] E sz (OB E X hs w g g2 hg nx ct j) (fun (r : Int32) (u : Bool × (Nat → Nat) × GG × JT) => JV u.2.2.2 ∧ u.2.1 0 = w 0 ∧ (u.1 = true → RUNP g u.2.2.1 r) ∧ (u.1 = false → u.2.2.1 = g ∧ (r = -78 ∨ r = -76))) (fun u => OB E X hs u.2.1 u.2.2.1 g2 (hgN u.1 hg nx g) (nxN u.1 nx) (ctN u.1 ct) u.2.2.2) 2 12 := by
  obtain ⟨g3, co, re, so, gw, q, F, v, ml, n, cp, t⟩ := j
  refine mw_go (by decide) (Nat.le_of_ble_eq_true rfl) ?_
  intro p e s m below meth c A Q ls hx hb hml hown hts hK hZ hDD hA hsz hP hD hl htab hret
  have hS : va_S A s.heap s.heap [] := va_S.rf
  have hP : va_P E.1 vwCl ([coC E (X 0) (X 1) (X 2) (X 3) (X 4) (X 5) (X 6) (X 7) (X 8) w, stC E (X 1) g, stC E (X 2) g2, stC E (X 3) g3, hhC E (X 4) hs hg nx ct, diC E (X 5) co re, grC E (X 6) so gw, prC E (X 7) q F, sbO E (X 8) v ml n, baC E v cp t] : List va_W).flatten s.heap := hP
  have hD : va_D A ([coC E (X 0) (X 1) (X 2) (X 3) (X 4) (X 5) (X 6) (X 7) (X 8) w, stC E (X 1) g, stC E (X 2) g2, stC E (X 3) g3, hhC E (X 4) hs hg nx ct, diC E (X 5) co re, grC E (X 6) so gw, prC E (X 7) q F, sbO E (X 8) v ml n, baC E v cp t] : List va_W).flatten := hD
  have hl : lv_has ls 2 [(0, .ref ((X 0) 0))] := hl
  have hmc := hI.mc
  refine lv_aload_n hx hb dL_run_0 rfl (lv_at hl 0 rfl) ?_
  refine run_xi (S := (Nat → Nat) × GG × (Nat → Nat) × GG × (Nat → Nat) × (Nat → Nat)) (SX := (Nat → Nat) × GG × (Nat → Nat) × GG × (Nat → Nat) × (Nat → Nat)) (run_XV (As := []) (rest := []) (bs := [coC E (X 0) (X 1) (X 2) (X 3) (X 4) (X 5) (X 6) (X 7) (X 8) w, stC E (X 1) g, stC E (X 2) g2, stC E (X 3) g3, hhC E (X 4) hs hg nx ct, diC E (X 5) co re, grC E (X 6) so gw, prC E (X 7) q F, sbO E (X 8) v ml n, baC E v cp t]) (cb := [coC E (X 0) (X 1) (X 2) (X 3) (X 4) (X 5) (X 6) (X 7) (X 8) w, stC E (X 1) g, stC E (X 3) g3, hhC E (X 4) hs hg nx ct, prC E (X 7) q F, diC E (X 5) co re]) hx hb hml hown hts hK hZ hDD hA (c_X5_run l hst E _ (X 0) (X 1) (X 2) (X 3) (X 4) (X 5) (X 6) (X 7) (X 8) w g B hI hs hg nx ct hnx hct g3 q F co re hj.1.1 hj.1.2 hB420 t) l_L_132 rfl ⟨⟨rfl, rfl⟩, Nat.le_of_ble_eq_true rfl, Nat.le_of_ble_eq_true rfl⟩ 9 rfl [0, 1, 3, 4, 7, 5] rfl (by decide) rfl hP hD hS hl.1 rfl (Nat.le_of_ble_eq_true rfl) dL_run_1 ⟨Nat.le_of_ble_eq_true rfl, Nat.le_of_ble_eq_true rfl⟩) hA hP hD hS (isC := [0, 1, 3, 4, 7, 5]) rfl [2, 6, 8, 9] [4, 5, 0, 6, 7, 9, 1, 8, 2, 3] (br := [stC E (X 2) g2, grC E (X 6) so gw, sbO E (X 8) v ml n, baC E v cp t]) (bs2 := fun u => [coC E (X 0) (X 1) (X 2) (X 3) (X 4) (X 5) (X 6) (X 7) (X 8) w, stC E (X 1) (exG g (prgR (F 0) (q 0) 20 0 0 t).2.2.2 (prgR (F 0) (q 0) 20 0 0 t).1), stC E (X 2) g2, stC E (X 3) u.2.1, hhC E (X 4) hs (upa hg nx g) ((nx + 1) % 8) (if 8 < ct + 1 then 8 else ct + 1), diC E (X 5) u.2.2.2.2.1 u.2.2.2.2.2, grC E (X 6) so gw, prC E (X 7) u.2.2.1 u.2.2.2.1, sbO E (X 8) v ml n, baC E v cp t]) (bx2 := fun ux => [coC E (X 0) (X 1) (X 2) (X 3) (X 4) (X 5) (X 6) (X 7) (X 8) ux.1, stC E (X 1) g, stC E (X 2) g2, stC E (X 3) ux.2.1, hhC E (X 4) hs hg nx ct, diC E (X 5) ux.2.2.2.2.1 ux.2.2.2.2.2, grC E (X 6) so gw, prC E (X 7) ux.2.2.1 ux.2.2.2.1, sbO E (X 8) v ml n, baC E v cp t]) rfl (by decide) (fun _ => rfl) (fun _ => rfl) (by decide) (fun Ex ce q9 ux H locs hw hP hD hS hc1 hc2 hc3 => ?_) (fun r u H locs hw hP hD hS => ?_)
  · skip
    obtain ⟨⟨h9, h8⟩, hw⟩ := hw
    have hj9 : JV (ux.2.1, ux.2.2.2.2.1, ux.2.2.2.2.2, so, gw, ux.2.2.1, ux.2.2.2.1, v, ml, n, cp, t) := ⟨⟨by show ux.2.2.1 0 ≤ 60; omega, by show ∀ i, ux.2.2.2.1 0 i < 65536; rw [h8]; exact hj.1.2⟩, hj.2⟩
    rcases hw with ⟨hE, hq, h7⟩ | ⟨hE, hq, h6, h7⟩
    · skip
      subst hE
      refine vx_catch (own := RL) (name := IAX) hown [] ⟨0, 4, 5, 20⟩ [⟨0, 4, 9, 36⟩] (htab.trans rfl) (fun z hz => absurd hz List.not_mem_nil) rfl (by decide) (hts _ q451) (va_Nw.use rfl (hZ.2.2.1 _ (List.mem_of_getElem? (i := 1) rfl))) hc1 hc2 hc3 ?_
      refine lv_astore_n (lv' := [(1, .ref q9), (0, .ref ((X 0) 0))]) hx hb dL_run_5 rfl hl (by decide) rfl (fun ls hl => ?_)
      refine lv_bipush (v := -78) hx hb dL_run_6 (by decide) ?_
      exact hret _ _ (-78 : Int32) (false, ux.1, g, (ux.2.1, ux.2.2.2.2.1, ux.2.2.2.2.2, so, gw, ux.2.2.1, ux.2.2.2.1, v, ml, n, cp, t)) _ _ _ _ hP hD hS ⟨hj9, by show ux.1 0 = w 0; rw [h7]; exact upn_n (by decide), (fun h => absurd h Bool.false_ne_true), fun _ => ⟨rfl, Or.inl rfl⟩⟩ dL_run_8 (by omega) (by omega)
    · skip
      subst hE
      refine vx_catch (own := RL) (name := UOX) hown [⟨0, 4, 5, 20⟩] ⟨0, 4, 9, 36⟩ [] (htab.trans rfl) (fun z hz => by
          rcases List.mem_cons.mp hz with rfl | hz
          · exact Or.inr ⟨by decide, IAX, hts _ q451, hZ.2.2.2.1 _ (List.mem_of_getElem? (i := 3) rfl)⟩
          · exact absurd hz List.not_mem_nil) rfl (by decide) (hts _ q656) (va_Nw.use rfl (hZ.2.2.1 _ (List.mem_of_getElem? (i := 3) rfl))) hc1 hc2 hc3 ?_
      refine lv_astore_n (lv' := [(1, .ref q9), (0, .ref ((X 0) 0))]) hx hb dL_run_9 rfl hl (by decide) rfl (fun ls hl => ?_)
      refine lv_bipush (v := -76) hx hb dL_run_10 (by decide) ?_
      exact hret _ _ (-76 : Int32) (false, ux.1, g, (ux.2.1, ux.2.2.2.2.1, ux.2.2.2.2.2, so, gw, ux.2.2.1, ux.2.2.2.1, v, ml, n, cp, t)) _ _ _ _ hP hD hS ⟨hj9, by show ux.1 0 = w 0; rw [h7]; exact upn_n (by decide), (fun h => absurd h Bool.false_ne_true), fun _ => ⟨rfl, Or.inr rfl⟩⟩ dL_run_12 (by omega) (by omega)
  exact hret _ _ r (true, w, (exG g (prgR (F 0) (q 0) 20 0 0 t).2.2.2 (prgR (F 0) (q 0) 20 0 0 t).1), (u.2.1, u.2.2.2.2.1, u.2.2.2.2.2, so, gw, u.2.2.1, u.2.2.2.1, v, ml, n, cp, t)) _ _ _ _ hP hD hS ⟨⟨⟨by have := hw.1.1; show u.2.2.1 0 ≤ 60; omega, by show ∀ i, u.2.2.2.1 0 i < 65536; rw [hw.1.2]; exact hj.1.2⟩, hj.2⟩, rfl, fun _ => RUNP_of hj.1.1 hw.2.1.1 hw.2.2.1 hw.2.2.2, (fun h => absurd h.symm Bool.false_ne_true)⟩ dL_run_4 (by omega) (by omega)
abbrev rm_L_tone : Room := { frames := 8, cells := 1, slots := 6, locals := 142 }
set_option maxHeartbeats 4000000 in
set_option maxRecDepth 100000 in
theorem c_L_tone (l : Launch) (hst : l.stackTraces = false) (E : EE) (sz : Nat) (X hs : Nat → Nat → Nat) (w : Nat → Nat) (g g2 : GG) (B : Nat) (hI : IB B g) (hg : Nat → GG) (nx ct : Nat) (hnx : nx < 8) (hct : ct ≤ 8) (j : JT) (hj : JV j) (p0 : Int32) : MW l yL_tone cL_tone 3 [(0, 5, 6, 28)] rm_L_tone [.ref ((X 0) 0), .int p0] E sz (OB E X hs w g g2 hg nx ct j) (fun (r : Int32) (u : JT) => r = wf g (g 3) p0 ∧ JV u) (fun u => OB E X hs w g g2 hg nx ct u) 1 6 := by
  obtain ⟨g3, co, re, so, gw, q, F, v, ml, n, cp, t⟩ := j
  refine mw_go (by decide) (Nat.le_of_ble_eq_true rfl) ?_
  intro p e s m below meth c A Q ls hx hb hml hown hts hK hZ hDD hA hsz hP hD hl htab hret
  have hS : va_S A s.heap s.heap [] := va_S.rf
  have hP : va_P E.1 vwCl ([coC E (X 0) (X 1) (X 2) (X 3) (X 4) (X 5) (X 6) (X 7) (X 8) w, stC E (X 1) g, stC E (X 2) g2, stC E (X 3) g3, hhC E (X 4) hs hg nx ct, diC E (X 5) co re, grC E (X 6) so gw, prC E (X 7) q F, sbO E (X 8) v ml n, baC E v cp t] : List va_W).flatten s.heap := hP
  have hD : va_D A ([coC E (X 0) (X 1) (X 2) (X 3) (X 4) (X 5) (X 6) (X 7) (X 8) w, stC E (X 1) g, stC E (X 2) g2, stC E (X 3) g3, hhC E (X 4) hs hg nx ct, diC E (X 5) co re, grC E (X 6) so gw, prC E (X 7) q F, sbO E (X 8) v ml n, baC E v cp t] : List va_W).flatten := hD
  have hl : lv_has ls 3 [(0, .ref ((X 0) 0)), (1, .int p0)] := hl
  have hmc := hI.mc
  refine lv_aload_n hx hb dL_tone_0 rfl (lv_at hl 0 rfl) ?_
  refine lv_iload_n hx hb dL_tone_1 rfl (lv_at hl 1 rfl) ?_
  refine run_xi (S := Unit) (SX := Unit) (run_XV (As := [.int p0]) (rest := []) (bs := [coC E (X 0) (X 1) (X 2) (X 3) (X 4) (X 5) (X 6) (X 7) (X 8) w, stC E (X 1) g, stC E (X 2) g2, stC E (X 3) g3, hhC E (X 4) hs hg nx ct, diC E (X 5) co re, grC E (X 6) so gw, prC E (X 7) q F, sbO E (X 8) v ml n, baC E v cp t]) (cb := [coC E (X 0) (X 1) (X 2) (X 3) (X 4) (X 5) (X 6) (X 7) (X 8) w, stC E (X 1) g]) hx hb hml hown hts hK hZ hDD hA (c_X5_tone l hst E _ (X 0) (X 1) (X 2) (X 3) (X 4) (X 5) (X 6) (X 7) (X 8) w g B hI p0) l_L_56 rfl ⟨⟨rfl, rfl⟩, Nat.le_of_ble_eq_true rfl, Nat.le_of_ble_eq_true rfl⟩ 9 rfl [0, 1] rfl (by decide) rfl hP hD hS hl.1 rfl (Nat.le_of_ble_eq_true rfl) dL_tone_2 ⟨Nat.le_of_ble_eq_true rfl, Nat.le_of_ble_eq_true rfl⟩) hA hP hD hS (isC := [0, 1]) rfl [2, 3, 4, 5, 6, 7, 8, 9] [8, 9, 0, 1, 2, 3, 4, 5, 6, 7] (br := [stC E (X 2) g2, stC E (X 3) g3, hhC E (X 4) hs hg nx ct, diC E (X 5) co re, grC E (X 6) so gw, prC E (X 7) q F, sbO E (X 8) v ml n, baC E v cp t]) (bs2 := fun _ => [coC E (X 0) (X 1) (X 2) (X 3) (X 4) (X 5) (X 6) (X 7) (X 8) w, stC E (X 1) g, stC E (X 2) g2, stC E (X 3) g3, hhC E (X 4) hs hg nx ct, diC E (X 5) co re, grC E (X 6) so gw, prC E (X 7) q F, sbO E (X 8) v ml n, baC E v cp t]) (bx2 := fun _ => [coC E (X 0) (X 1) (X 2) (X 3) (X 4) (X 5) (X 6) (X 7) (X 8) w, stC E (X 1) g, stC E (X 2) g2, stC E (X 3) g3, hhC E (X 4) hs hg nx ct, diC E (X 5) co re, grC E (X 6) so gw, prC E (X 7) q F, sbO E (X 8) v ml n, baC E v cp t]) rfl (by decide) (fun _ => rfl) (fun _ => rfl) (by decide) (fun Ex ce q9 ux H locs hw hP hD hS hc1 hc2 hc3 => ?_) (fun r u H locs hw hP hD hS => ?_)
  · skip
    obtain ⟨hE, hq⟩ := hw
    subst hE
    refine vx_catch (own := RL) (name := IOX) hown [] ⟨0, 5, 6, 28⟩ [] (htab.trans rfl) (fun z hz => absurd hz List.not_mem_nil) rfl (by decide) (hts _ q322) (va_Nw.use rfl (hZ.2.2.1 _ (List.mem_of_getElem? (i := 0) rfl))) hc1 hc2 hc3 ?_
    refine lv_astore_n (lv' := [(2, .ref q9), (0, .ref ((X 0) 0)), (1, .int p0)]) hx hb dL_tone_6 rfl hl (by decide) rfl (fun ls hl => ?_)
    refine lv_bipush (v := -77) hx hb dL_tone_7 (by decide) ?_
    exact hret _ _ (-77 : Int32) (g3, co, re, so, gw, q, F, v, ml, n, cp, t) _ _ _ _ hP hD hS ⟨(if_neg (by rw [hq]; decide)).symm, hj⟩ dL_tone_9 (by omega) (by omega)
  exact hret _ _ r (g3, co, re, so, gw, q, F, v, ml, n, cp, t) _ _ _ _ hP hD hS ⟨(by rw [hw.2]; exact (if_pos hw.1).symm), hj⟩ dL_tone_5 (by omega) (by omega)
abbrev rm_L_dueBeats : Room := { frames := 8, cells := 1, slots := 6, locals := 142 }
set_option maxHeartbeats 4000000 in
set_option maxRecDepth 100000 in
theorem c_L_dueBeats (l : Launch) (hst : l.stackTraces = false) (E : EE) (sz : Nat) (X hs : Nat → Nat → Nat) (w : Nat → Nat) (g g2 : GG) (B : Nat) (hI : IB B g) (hg : Nat → GG) (nx ct : Nat) (hnx : nx < 8) (hct : ct ≤ 8) (j : JT) (hj : JV j) (p0 : Int32) : MWL l yL_dueBeats cL_dueBeats 3 [(0, 5, 6, 28)] rm_L_dueBeats [.ref ((X 0) 0), .int p0] E sz (OB E X hs w g g2 hg nx ct j) (fun (r : Int64) (u : JT) => r = wl g p0 ∧ JV u) (fun u => OB E X hs w g g2 hg nx ct u) 1 6 := by
  obtain ⟨g3, co, re, so, gw, q, F, v, ml, n, cp, t⟩ := j
  refine mwl_go (by decide) (Nat.le_of_ble_eq_true rfl) ?_
  intro p e s m below meth c A Q ls hx hb hml hown hts hK hZ hDD hA hsz hP hD hl htab hret
  have hS : va_S A s.heap s.heap [] := va_S.rf
  have hP : va_P E.1 vwCl ([coC E (X 0) (X 1) (X 2) (X 3) (X 4) (X 5) (X 6) (X 7) (X 8) w, stC E (X 1) g, stC E (X 2) g2, stC E (X 3) g3, hhC E (X 4) hs hg nx ct, diC E (X 5) co re, grC E (X 6) so gw, prC E (X 7) q F, sbO E (X 8) v ml n, baC E v cp t] : List va_W).flatten s.heap := hP
  have hD : va_D A ([coC E (X 0) (X 1) (X 2) (X 3) (X 4) (X 5) (X 6) (X 7) (X 8) w, stC E (X 1) g, stC E (X 2) g2, stC E (X 3) g3, hhC E (X 4) hs hg nx ct, diC E (X 5) co re, grC E (X 6) so gw, prC E (X 7) q F, sbO E (X 8) v ml n, baC E v cp t] : List va_W).flatten := hD
  have hl : lv_has ls 3 [(0, .ref ((X 0) 0)), (1, .int p0)] := hl
  have hmc := hI.mc
  refine lv_aload_n hx hb dL_dueBeats_0 rfl (lv_at hl 0 rfl) ?_
  refine lv_iload_n hx hb dL_dueBeats_1 rfl (lv_at hl 1 rfl) ?_
  refine run_xl (S := Unit) (SX := Unit) (run_XV (As := [.int p0]) (rest := []) (bs := [coC E (X 0) (X 1) (X 2) (X 3) (X 4) (X 5) (X 6) (X 7) (X 8) w, stC E (X 1) g, stC E (X 2) g2, stC E (X 3) g3, hhC E (X 4) hs hg nx ct, diC E (X 5) co re, grC E (X 6) so gw, prC E (X 7) q F, sbO E (X 8) v ml n, baC E v cp t]) (cb := [coC E (X 0) (X 1) (X 2) (X 3) (X 4) (X 5) (X 6) (X 7) (X 8) w, stC E (X 1) g]) hx hb hml hown hts hK hZ hDD hA (c_X5_dueBeats l hst E _ (X 0) (X 1) (X 2) (X 3) (X 4) (X 5) (X 6) (X 7) (X 8) w g B hI p0) l_L_73 rfl ⟨⟨rfl, rfl⟩, Nat.le_of_ble_eq_true rfl, Nat.le_of_ble_eq_true rfl⟩ 9 rfl [0, 1] rfl (by decide) rfl hP hD hS hl.1 rfl (Nat.le_of_ble_eq_true rfl) dL_dueBeats_2 ⟨Nat.le_of_ble_eq_true rfl, Nat.le_of_ble_eq_true rfl⟩) hA hP hD hS (isC := [0, 1]) rfl [2, 3, 4, 5, 6, 7, 8, 9] [8, 9, 0, 1, 2, 3, 4, 5, 6, 7] (br := [stC E (X 2) g2, stC E (X 3) g3, hhC E (X 4) hs hg nx ct, diC E (X 5) co re, grC E (X 6) so gw, prC E (X 7) q F, sbO E (X 8) v ml n, baC E v cp t]) (bs2 := fun _ => [coC E (X 0) (X 1) (X 2) (X 3) (X 4) (X 5) (X 6) (X 7) (X 8) w, stC E (X 1) g, stC E (X 2) g2, stC E (X 3) g3, hhC E (X 4) hs hg nx ct, diC E (X 5) co re, grC E (X 6) so gw, prC E (X 7) q F, sbO E (X 8) v ml n, baC E v cp t]) (bx2 := fun _ => [coC E (X 0) (X 1) (X 2) (X 3) (X 4) (X 5) (X 6) (X 7) (X 8) w, stC E (X 1) g, stC E (X 2) g2, stC E (X 3) g3, hhC E (X 4) hs hg nx ct, diC E (X 5) co re, grC E (X 6) so gw, prC E (X 7) q F, sbO E (X 8) v ml n, baC E v cp t]) rfl (by decide) (fun _ => rfl) (fun _ => rfl) (by decide) (fun Ex ce q9 ux H locs hw hP hD hS hc1 hc2 hc3 => ?_) (fun r u H locs hw hP hD hS => ?_)
  · skip
    obtain ⟨hE, hq⟩ := hw
    subst hE
    refine vx_catch (own := RL) (name := IOX) hown [] ⟨0, 5, 6, 28⟩ [] (htab.trans rfl) (fun z hz => absurd hz List.not_mem_nil) rfl (by decide) (hts _ q322) (va_Nw.use rfl (hZ.2.2.1 _ (List.mem_of_getElem? (i := 0) rfl))) hc1 hc2 hc3 ?_
    refine lv_astore_n (lv' := [(2, .ref q9), (0, .ref ((X 0) 0)), (1, .int p0)]) hx hb dL_dueBeats_6 rfl hl (by decide) rfl (fun ls hl => ?_)
    refine lv_ldc2 (v := (-77 : Int64)) hx hb (own := RL) (index := 77) hown (hts _ qc1069) dL_dueBeats_7 ?_
    exact hret _ _ (-77 : Int64) (g3, co, re, so, gw, q, F, v, ml, n, cp, t) _ _ _ _ hP hD hS ⟨(if_neg (by rw [hq]; decide)).symm, hj⟩ dL_dueBeats_10 (by omega) (by omega)
  exact hret _ _ r (g3, co, re, so, gw, q, F, v, ml, n, cp, t) _ _ _ _ hP hD hS ⟨(by rw [hw.2]; exact (if_pos hw.1).symm), hj⟩ dL_dueBeats_5 (by omega) (by omega)
abbrev rm_L_power : Room := { frames := 8, cells := 1, slots := 6, locals := 148 }
set_option maxHeartbeats 4000000 in
set_option maxRecDepth 100000 in
theorem c_L_power (l : Launch) (hst : l.stackTraces = false) (E : EE) (sz : Nat) (X hs : Nat → Nat → Nat) (w : Nat → Nat) (g g2 : GG) (B : Nat) (hI : IB B g) (hg : Nat → GG) (nx ct : Nat) (hnx : nx < 8) (hct : ct ≤ 8) (j : JT) (hj : JV j) (p0 : Int32) : MW l yL_power cL_power 3 [(0, 5, 6, 28)] rm_L_power [.ref ((X 0) 0), .int p0] E sz (OB E X hs w g g2 hg nx ct j) (fun (r : Int32) (u : JT) => r = wf g (powN g) p0 ∧ JV u) (fun u => OB E X hs w g g2 hg nx ct u) 1 6 := by
  obtain ⟨g3, co, re, so, gw, q, F, v, ml, n, cp, t⟩ := j
  refine mw_go (by decide) (Nat.le_of_ble_eq_true rfl) ?_
  intro p e s m below meth c A Q ls hx hb hml hown hts hK hZ hDD hA hsz hP hD hl htab hret
  have hS : va_S A s.heap s.heap [] := va_S.rf
  have hP : va_P E.1 vwCl ([coC E (X 0) (X 1) (X 2) (X 3) (X 4) (X 5) (X 6) (X 7) (X 8) w, stC E (X 1) g, stC E (X 2) g2, stC E (X 3) g3, hhC E (X 4) hs hg nx ct, diC E (X 5) co re, grC E (X 6) so gw, prC E (X 7) q F, sbO E (X 8) v ml n, baC E v cp t] : List va_W).flatten s.heap := hP
  have hD : va_D A ([coC E (X 0) (X 1) (X 2) (X 3) (X 4) (X 5) (X 6) (X 7) (X 8) w, stC E (X 1) g, stC E (X 2) g2, stC E (X 3) g3, hhC E (X 4) hs hg nx ct, diC E (X 5) co re, grC E (X 6) so gw, prC E (X 7) q F, sbO E (X 8) v ml n, baC E v cp t] : List va_W).flatten := hD
  have hl : lv_has ls 3 [(0, .ref ((X 0) 0)), (1, .int p0)] := hl
  have hmc := hI.mc
  refine lv_aload_n hx hb dL_power_0 rfl (lv_at hl 0 rfl) ?_
  refine lv_iload_n hx hb dL_power_1 rfl (lv_at hl 1 rfl) ?_
  refine run_xi (S := (Nat → Nat) × (Nat → Nat)) (SX := Unit) (run_XV (As := [.int p0]) (rest := []) (bs := [coC E (X 0) (X 1) (X 2) (X 3) (X 4) (X 5) (X 6) (X 7) (X 8) w, stC E (X 1) g, stC E (X 2) g2, stC E (X 3) g3, hhC E (X 4) hs hg nx ct, diC E (X 5) co re, grC E (X 6) so gw, prC E (X 7) q F, sbO E (X 8) v ml n, baC E v cp t]) (cb := [coC E (X 0) (X 1) (X 2) (X 3) (X 4) (X 5) (X 6) (X 7) (X 8) w, stC E (X 1) g, grC E (X 6) so gw]) hx hb hml hown hts hK hZ hDD hA (c_X5_power l hst E _ (X 0) (X 1) (X 2) (X 3) (X 4) (X 5) (X 6) (X 7) (X 8) w g B hI so gw p0) l_L_103 rfl ⟨⟨rfl, rfl⟩, Nat.le_of_ble_eq_true rfl, Nat.le_of_ble_eq_true rfl⟩ 9 rfl [0, 1, 6] rfl (by decide) rfl hP hD hS hl.1 rfl (Nat.le_of_ble_eq_true rfl) dL_power_2 ⟨Nat.le_of_ble_eq_true rfl, Nat.le_of_ble_eq_true rfl⟩) hA hP hD hS (isC := [0, 1, 6]) rfl [2, 3, 4, 5, 7, 8, 9] [7, 8, 0, 1, 2, 3, 9, 4, 5, 6] (br := [stC E (X 2) g2, stC E (X 3) g3, hhC E (X 4) hs hg nx ct, diC E (X 5) co re, prC E (X 7) q F, sbO E (X 8) v ml n, baC E v cp t]) (bs2 := fun u => [coC E (X 0) (X 1) (X 2) (X 3) (X 4) (X 5) (X 6) (X 7) (X 8) w, stC E (X 1) g, stC E (X 2) g2, stC E (X 3) g3, hhC E (X 4) hs hg nx ct, diC E (X 5) co re, grC E (X 6) u.1 u.2, prC E (X 7) q F, sbO E (X 8) v ml n, baC E v cp t]) (bx2 := fun _ => [coC E (X 0) (X 1) (X 2) (X 3) (X 4) (X 5) (X 6) (X 7) (X 8) w, stC E (X 1) g, stC E (X 2) g2, stC E (X 3) g3, hhC E (X 4) hs hg nx ct, diC E (X 5) co re, grC E (X 6) so gw, prC E (X 7) q F, sbO E (X 8) v ml n, baC E v cp t]) rfl (by decide) (fun _ => rfl) (fun _ => rfl) (by decide) (fun Ex ce q9 ux H locs hw hP hD hS hc1 hc2 hc3 => ?_) (fun r u H locs hw hP hD hS => ?_)
  · skip
    obtain ⟨hE, hq⟩ := hw
    subst hE
    refine vx_catch (own := RL) (name := IOX) hown [] ⟨0, 5, 6, 28⟩ [] (htab.trans rfl) (fun z hz => absurd hz List.not_mem_nil) rfl (by decide) (hts _ q322) (va_Nw.use rfl (hZ.2.2.1 _ (List.mem_of_getElem? (i := 0) rfl))) hc1 hc2 hc3 ?_
    refine lv_astore_n (lv' := [(2, .ref q9), (0, .ref ((X 0) 0)), (1, .int p0)]) hx hb dL_power_6 rfl hl (by decide) rfl (fun ls hl => ?_)
    refine lv_bipush (v := -77) hx hb dL_power_7 (by decide) ?_
    exact hret _ _ (-77 : Int32) (g3, co, re, so, gw, q, F, v, ml, n, cp, t) _ _ _ _ hP hD hS ⟨(if_neg (by rw [hq]; decide)).symm, hj⟩ dL_power_9 (by omega) (by omega)
  exact hret _ _ r (g3, co, re, u.1, u.2, q, F, v, ml, n, cp, t) _ _ _ _ hP hD hS ⟨(by rw [hw.2]; exact (if_pos hw.1).symm), hj⟩ dL_power_5 (by omega) (by omega)
abbrev rm_L_interval : Room := { frames := 8, cells := 2, slots := 12, locals := 143 }
set_option maxHeartbeats 4000000 in
set_option maxRecDepth 100000 in
theorem c_L_interval (l : Launch) (hst : l.stackTraces = false) (E : EE) (sz : Nat) (X hs : Nat → Nat → Nat) (w : Nat → Nat) (g g2 : GG) (B : Nat) (hI : IB B g) (hg : Nat → GG) (nx ct : Nat) (hnx : nx < 8) (hct : ct ≤ 8) (j : JT) (hj : JV j) (p0 : Int32) (p1 : Int32) : MW l yL_interval cL_interval 4 [(0, 6, 7, 28)] rm_L_interval [.ref ((X 0) 0), .int p0, .int p1] E sz (OB E X hs w g g2 hg nx ct j) (fun (r : Int32) (u : JT) => r = wf2 g (apG g) p0 p1 ∧ JV u) (fun u => OB E X hs w g g2 hg nx ct u) 2 12 := by
  obtain ⟨g3, co, re, so, gw, q, F, v, ml, n, cp, t⟩ := j
  refine mw_go (by decide) (Nat.le_of_ble_eq_true rfl) ?_
  intro p e s m below meth c A Q ls hx hb hml hown hts hK hZ hDD hA hsz hP hD hl htab hret
  have hS : va_S A s.heap s.heap [] := va_S.rf
  have hP : va_P E.1 vwCl ([coC E (X 0) (X 1) (X 2) (X 3) (X 4) (X 5) (X 6) (X 7) (X 8) w, stC E (X 1) g, stC E (X 2) g2, stC E (X 3) g3, hhC E (X 4) hs hg nx ct, diC E (X 5) co re, grC E (X 6) so gw, prC E (X 7) q F, sbO E (X 8) v ml n, baC E v cp t] : List va_W).flatten s.heap := hP
  have hD : va_D A ([coC E (X 0) (X 1) (X 2) (X 3) (X 4) (X 5) (X 6) (X 7) (X 8) w, stC E (X 1) g, stC E (X 2) g2, stC E (X 3) g3, hhC E (X 4) hs hg nx ct, diC E (X 5) co re, grC E (X 6) so gw, prC E (X 7) q F, sbO E (X 8) v ml n, baC E v cp t] : List va_W).flatten := hD
  have hl : lv_has ls 4 [(0, .ref ((X 0) 0)), (1, .int p0), (2, .int p1)] := hl
  have hmc := hI.mc
  refine lv_aload_n hx hb dL_interval_0 rfl (lv_at hl 0 rfl) ?_
  refine lv_iload_n hx hb dL_interval_1 rfl (lv_at hl 1 rfl) ?_
  refine lv_iload_n hx hb dL_interval_2 rfl (lv_at hl 2 rfl) ?_
  refine run_xi (S := Unit) (SX := Unit) (run_XV (As := [.int p0, .int p1]) (rest := []) (bs := [coC E (X 0) (X 1) (X 2) (X 3) (X 4) (X 5) (X 6) (X 7) (X 8) w, stC E (X 1) g, stC E (X 2) g2, stC E (X 3) g3, hhC E (X 4) hs hg nx ct, diC E (X 5) co re, grC E (X 6) so gw, prC E (X 7) q F, sbO E (X 8) v ml n, baC E v cp t]) (cb := [coC E (X 0) (X 1) (X 2) (X 3) (X 4) (X 5) (X 6) (X 7) (X 8) w, stC E (X 1) g]) hx hb hml hown hts hK hZ hDD hA (c_X5_interval l hst E _ (X 0) (X 1) (X 2) (X 3) (X 4) (X 5) (X 6) (X 7) (X 8) w g B hI p0 p1) l_L_65 rfl ⟨⟨rfl, rfl⟩, Nat.le_of_ble_eq_true rfl, Nat.le_of_ble_eq_true rfl⟩ 9 rfl [0, 1] rfl (by decide) rfl hP hD hS hl.1 rfl (Nat.le_of_ble_eq_true rfl) dL_interval_3 ⟨Nat.le_of_ble_eq_true rfl, Nat.le_of_ble_eq_true rfl⟩) hA hP hD hS (isC := [0, 1]) rfl [2, 3, 4, 5, 6, 7, 8, 9] [8, 9, 0, 1, 2, 3, 4, 5, 6, 7] (br := [stC E (X 2) g2, stC E (X 3) g3, hhC E (X 4) hs hg nx ct, diC E (X 5) co re, grC E (X 6) so gw, prC E (X 7) q F, sbO E (X 8) v ml n, baC E v cp t]) (bs2 := fun _ => [coC E (X 0) (X 1) (X 2) (X 3) (X 4) (X 5) (X 6) (X 7) (X 8) w, stC E (X 1) g, stC E (X 2) g2, stC E (X 3) g3, hhC E (X 4) hs hg nx ct, diC E (X 5) co re, grC E (X 6) so gw, prC E (X 7) q F, sbO E (X 8) v ml n, baC E v cp t]) (bx2 := fun _ => [coC E (X 0) (X 1) (X 2) (X 3) (X 4) (X 5) (X 6) (X 7) (X 8) w, stC E (X 1) g, stC E (X 2) g2, stC E (X 3) g3, hhC E (X 4) hs hg nx ct, diC E (X 5) co re, grC E (X 6) so gw, prC E (X 7) q F, sbO E (X 8) v ml n, baC E v cp t]) rfl (by decide) (fun _ => rfl) (fun _ => rfl) (by decide) (fun Ex ce q9 ux H locs hw hP hD hS hc1 hc2 hc3 => ?_) (fun r u H locs hw hP hD hS => ?_)
  · skip
    obtain ⟨hE, hq⟩ := hw
    subst hE
    refine vx_catch (own := RL) (name := IOX) hown [] ⟨0, 6, 7, 28⟩ [] (htab.trans rfl) (fun z hz => absurd hz List.not_mem_nil) rfl (by decide) (hts _ q322) (va_Nw.use rfl (hZ.2.2.1 _ (List.mem_of_getElem? (i := 0) rfl))) hc1 hc2 hc3 ?_
    refine lv_astore_n (lv' := [(3, .ref q9), (0, .ref ((X 0) 0)), (1, .int p0), (2, .int p1)]) hx hb dL_interval_7 rfl hl (by decide) rfl (fun ls hl => ?_)
    refine lv_bipush (v := -77) hx hb dL_interval_8 (by decide) ?_
    exact hret _ _ (-77 : Int32) (g3, co, re, so, gw, q, F, v, ml, n, cp, t) _ _ _ _ hP hD hS ⟨(if_neg (by rw [hq]; decide)).symm, hj⟩ dL_interval_10 (by omega) (by omega)
  exact hret _ _ r (g3, co, re, so, gw, q, F, v, ml, n, cp, t) _ _ _ _ hP hD hS ⟨(by rw [hw.2]; exact (if_pos hw.1).symm), hj⟩ dL_interval_6 (by omega) (by omega)
abbrev rm_L_commonBeats : Room := { frames := 8, cells := 2, slots := 12, locals := 143 }
set_option maxHeartbeats 4000000 in
set_option maxRecDepth 100000 in
theorem c_L_commonBeats (l : Launch) (hst : l.stackTraces = false) (E : EE) (sz : Nat) (X hs : Nat → Nat → Nat) (w : Nat → Nat) (g g2 : GG) (B : Nat) (hI : IB B g) (hg : Nat → GG) (nx ct : Nat) (hnx : nx < 8) (hct : ct ≤ 8) (j : JT) (hj : JV j) (p0 : Int32) (p1 : Int32) : MW l yL_commonBeats cL_commonBeats 4 [(0, 6, 7, 28)] rm_L_commonBeats [.ref ((X 0) 0), .int p0, .int p1] E sz (OB E X hs w g g2 hg nx ct j) (fun (r : Int32) (u : JT) => r = wf2 g (cmC g) p0 p1 ∧ JV u) (fun u => OB E X hs w g g2 hg nx ct u) 2 12 := by
  obtain ⟨g3, co, re, so, gw, q, F, v, ml, n, cp, t⟩ := j
  refine mw_go (by decide) (Nat.le_of_ble_eq_true rfl) ?_
  intro p e s m below meth c A Q ls hx hb hml hown hts hK hZ hDD hA hsz hP hD hl htab hret
  have hS : va_S A s.heap s.heap [] := va_S.rf
  have hP : va_P E.1 vwCl ([coC E (X 0) (X 1) (X 2) (X 3) (X 4) (X 5) (X 6) (X 7) (X 8) w, stC E (X 1) g, stC E (X 2) g2, stC E (X 3) g3, hhC E (X 4) hs hg nx ct, diC E (X 5) co re, grC E (X 6) so gw, prC E (X 7) q F, sbO E (X 8) v ml n, baC E v cp t] : List va_W).flatten s.heap := hP
  have hD : va_D A ([coC E (X 0) (X 1) (X 2) (X 3) (X 4) (X 5) (X 6) (X 7) (X 8) w, stC E (X 1) g, stC E (X 2) g2, stC E (X 3) g3, hhC E (X 4) hs hg nx ct, diC E (X 5) co re, grC E (X 6) so gw, prC E (X 7) q F, sbO E (X 8) v ml n, baC E v cp t] : List va_W).flatten := hD
  have hl : lv_has ls 4 [(0, .ref ((X 0) 0)), (1, .int p0), (2, .int p1)] := hl
  have hmc := hI.mc
  refine lv_aload_n hx hb dL_commonBeats_0 rfl (lv_at hl 0 rfl) ?_
  refine lv_iload_n hx hb dL_commonBeats_1 rfl (lv_at hl 1 rfl) ?_
  refine lv_iload_n hx hb dL_commonBeats_2 rfl (lv_at hl 2 rfl) ?_
  refine run_xi (S := Unit) (SX := Unit) (run_XV (As := [.int p0, .int p1]) (rest := []) (bs := [coC E (X 0) (X 1) (X 2) (X 3) (X 4) (X 5) (X 6) (X 7) (X 8) w, stC E (X 1) g, stC E (X 2) g2, stC E (X 3) g3, hhC E (X 4) hs hg nx ct, diC E (X 5) co re, grC E (X 6) so gw, prC E (X 7) q F, sbO E (X 8) v ml n, baC E v cp t]) (cb := [coC E (X 0) (X 1) (X 2) (X 3) (X 4) (X 5) (X 6) (X 7) (X 8) w, stC E (X 1) g]) hx hb hml hown hts hK hZ hDD hA (c_X5_commonBeats l hst E _ (X 0) (X 1) (X 2) (X 3) (X 4) (X 5) (X 6) (X 7) (X 8) w g B hI p0 p1) l_L_82 rfl ⟨⟨rfl, rfl⟩, Nat.le_of_ble_eq_true rfl, Nat.le_of_ble_eq_true rfl⟩ 9 rfl [0, 1] rfl (by decide) rfl hP hD hS hl.1 rfl (Nat.le_of_ble_eq_true rfl) dL_commonBeats_3 ⟨Nat.le_of_ble_eq_true rfl, Nat.le_of_ble_eq_true rfl⟩) hA hP hD hS (isC := [0, 1]) rfl [2, 3, 4, 5, 6, 7, 8, 9] [8, 9, 0, 1, 2, 3, 4, 5, 6, 7] (br := [stC E (X 2) g2, stC E (X 3) g3, hhC E (X 4) hs hg nx ct, diC E (X 5) co re, grC E (X 6) so gw, prC E (X 7) q F, sbO E (X 8) v ml n, baC E v cp t]) (bs2 := fun _ => [coC E (X 0) (X 1) (X 2) (X 3) (X 4) (X 5) (X 6) (X 7) (X 8) w, stC E (X 1) g, stC E (X 2) g2, stC E (X 3) g3, hhC E (X 4) hs hg nx ct, diC E (X 5) co re, grC E (X 6) so gw, prC E (X 7) q F, sbO E (X 8) v ml n, baC E v cp t]) (bx2 := fun _ => [coC E (X 0) (X 1) (X 2) (X 3) (X 4) (X 5) (X 6) (X 7) (X 8) w, stC E (X 1) g, stC E (X 2) g2, stC E (X 3) g3, hhC E (X 4) hs hg nx ct, diC E (X 5) co re, grC E (X 6) so gw, prC E (X 7) q F, sbO E (X 8) v ml n, baC E v cp t]) rfl (by decide) (fun _ => rfl) (fun _ => rfl) (by decide) (fun Ex ce q9 ux H locs hw hP hD hS hc1 hc2 hc3 => ?_) (fun r u H locs hw hP hD hS => ?_)
  · skip
    obtain ⟨hE, hq⟩ := hw
    subst hE
    refine vx_catch (own := RL) (name := IOX) hown [] ⟨0, 6, 7, 28⟩ [] (htab.trans rfl) (fun z hz => absurd hz List.not_mem_nil) rfl (by decide) (hts _ q322) (va_Nw.use rfl (hZ.2.2.1 _ (List.mem_of_getElem? (i := 0) rfl))) hc1 hc2 hc3 ?_
    refine lv_astore_n (lv' := [(3, .ref q9), (0, .ref ((X 0) 0)), (1, .int p0), (2, .int p1)]) hx hb dL_commonBeats_7 rfl hl (by decide) rfl (fun ls hl => ?_)
    refine lv_bipush (v := -77) hx hb dL_commonBeats_8 (by decide) ?_
    exact hret _ _ (-77 : Int32) (g3, co, re, so, gw, q, F, v, ml, n, cp, t) _ _ _ _ hP hD hS ⟨(if_neg (by rw [hq]; decide)).symm, hj⟩ dL_commonBeats_10 (by omega) (by omega)
  exact hret _ _ r (g3, co, re, so, gw, q, F, v, ml, n, cp, t) _ _ _ _ hP hD hS ⟨(by rw [hw.2]; exact (if_pos hw.1).symm), hj⟩ dL_commonBeats_6 (by omega) (by omega)
abbrev rm_L_dividendByCounting : Room := { frames := 8, cells := 1, slots := 6, locals := 156 }
set_option maxHeartbeats 4000000 in
set_option maxRecDepth 100000 in
theorem c_L_dividendByCounting (l : Launch) (hst : l.stackTraces = false) (E : EE) (sz : Nat) (X hs : Nat → Nat → Nat) (w : Nat → Nat) (g g2 : GG) (B : Nat) (hI : IB B g) (hg : Nat → GG) (nx ct : Nat) (hnx : nx < 8) (hct : ct ≤ 8) (j : JT) (hj : JV j) (p0 : Int32) : MW l yL_dividendByCounting cL_dividendByCounting 3 [(0, 5, 6, 28)] rm_L_dividendByCounting [.ref ((X 0) 0), .int p0] E sz (OB E X hs w g g2 hg nx ct j) (fun (r : Int32) (u : JT) => r = wf g (dv g) p0 ∧ JV u) (fun u => OB E X hs w g g2 hg nx ct u) 1 6 := by
  obtain ⟨g3, co, re, so, gw, q, F, v, ml, n, cp, t⟩ := j
  refine mw_go (by decide) (Nat.le_of_ble_eq_true rfl) ?_
  intro p e s m below meth c A Q ls hx hb hml hown hts hK hZ hDD hA hsz hP hD hl htab hret
  have hS : va_S A s.heap s.heap [] := va_S.rf
  have hP : va_P E.1 vwCl ([coC E (X 0) (X 1) (X 2) (X 3) (X 4) (X 5) (X 6) (X 7) (X 8) w, stC E (X 1) g, stC E (X 2) g2, stC E (X 3) g3, hhC E (X 4) hs hg nx ct, diC E (X 5) co re, grC E (X 6) so gw, prC E (X 7) q F, sbO E (X 8) v ml n, baC E v cp t] : List va_W).flatten s.heap := hP
  have hD : va_D A ([coC E (X 0) (X 1) (X 2) (X 3) (X 4) (X 5) (X 6) (X 7) (X 8) w, stC E (X 1) g, stC E (X 2) g2, stC E (X 3) g3, hhC E (X 4) hs hg nx ct, diC E (X 5) co re, grC E (X 6) so gw, prC E (X 7) q F, sbO E (X 8) v ml n, baC E v cp t] : List va_W).flatten := hD
  have hl : lv_has ls 3 [(0, .ref ((X 0) 0)), (1, .int p0)] := hl
  have hmc := hI.mc
  refine lv_aload_n hx hb dL_dividendByCounting_0 rfl (lv_at hl 0 rfl) ?_
  refine lv_iload_n hx hb dL_dividendByCounting_1 rfl (lv_at hl 1 rfl) ?_
  refine run_xi (S := (Nat → Nat) × (Nat → Nat)) (SX := Unit) (run_XV (As := [.int p0]) (rest := []) (bs := [coC E (X 0) (X 1) (X 2) (X 3) (X 4) (X 5) (X 6) (X 7) (X 8) w, stC E (X 1) g, stC E (X 2) g2, stC E (X 3) g3, hhC E (X 4) hs hg nx ct, diC E (X 5) co re, grC E (X 6) so gw, prC E (X 7) q F, sbO E (X 8) v ml n, baC E v cp t]) (cb := [coC E (X 0) (X 1) (X 2) (X 3) (X 4) (X 5) (X 6) (X 7) (X 8) w, stC E (X 1) g, diC E (X 5) co re]) hx hb hml hown hts hK hZ hDD hA (c_X5_dividendByCounting l hst E _ (X 0) (X 1) (X 2) (X 3) (X 4) (X 5) (X 6) (X 7) (X 8) w g B hI co re p0) l_L_94 rfl ⟨⟨rfl, rfl⟩, Nat.le_of_ble_eq_true rfl, Nat.le_of_ble_eq_true rfl⟩ 9 rfl [0, 1, 5] rfl (by decide) rfl hP hD hS hl.1 rfl (Nat.le_of_ble_eq_true rfl) dL_dividendByCounting_2 ⟨Nat.le_of_ble_eq_true rfl, Nat.le_of_ble_eq_true rfl⟩) hA hP hD hS (isC := [0, 1, 5]) rfl [2, 3, 4, 6, 7, 8, 9] [7, 8, 0, 1, 2, 9, 3, 4, 5, 6] (br := [stC E (X 2) g2, stC E (X 3) g3, hhC E (X 4) hs hg nx ct, grC E (X 6) so gw, prC E (X 7) q F, sbO E (X 8) v ml n, baC E v cp t]) (bs2 := fun u => [coC E (X 0) (X 1) (X 2) (X 3) (X 4) (X 5) (X 6) (X 7) (X 8) w, stC E (X 1) g, stC E (X 2) g2, stC E (X 3) g3, hhC E (X 4) hs hg nx ct, diC E (X 5) u.1 u.2, grC E (X 6) so gw, prC E (X 7) q F, sbO E (X 8) v ml n, baC E v cp t]) (bx2 := fun _ => [coC E (X 0) (X 1) (X 2) (X 3) (X 4) (X 5) (X 6) (X 7) (X 8) w, stC E (X 1) g, stC E (X 2) g2, stC E (X 3) g3, hhC E (X 4) hs hg nx ct, diC E (X 5) co re, grC E (X 6) so gw, prC E (X 7) q F, sbO E (X 8) v ml n, baC E v cp t]) rfl (by decide) (fun _ => rfl) (fun _ => rfl) (by decide) (fun Ex ce q9 ux H locs hw hP hD hS hc1 hc2 hc3 => ?_) (fun r u H locs hw hP hD hS => ?_)
  · skip
    obtain ⟨hE, hq⟩ := hw
    subst hE
    refine vx_catch (own := RL) (name := IOX) hown [] ⟨0, 5, 6, 28⟩ [] (htab.trans rfl) (fun z hz => absurd hz List.not_mem_nil) rfl (by decide) (hts _ q322) (va_Nw.use rfl (hZ.2.2.1 _ (List.mem_of_getElem? (i := 0) rfl))) hc1 hc2 hc3 ?_
    refine lv_astore_n (lv' := [(2, .ref q9), (0, .ref ((X 0) 0)), (1, .int p0)]) hx hb dL_dividendByCounting_6 rfl hl (by decide) rfl (fun ls hl => ?_)
    refine lv_bipush (v := -77) hx hb dL_dividendByCounting_7 (by decide) ?_
    exact hret _ _ (-77 : Int32) (g3, co, re, so, gw, q, F, v, ml, n, cp, t) _ _ _ _ hP hD hS ⟨(if_neg (by rw [hq]; decide)).symm, hj⟩ dL_dividendByCounting_9 (by omega) (by omega)
  exact hret _ _ r (g3, u.1, u.2, so, gw, q, F, v, ml, n, cp, t) _ _ _ _ hP hD hS ⟨(by rw [hw.2]; exact (if_pos hw.1).symm), hj⟩ dL_dividendByCounting_5 (by omega) (by omega)
abbrev rm_L_powerByTable : Room := { frames := 8, cells := 1, slots := 6, locals := 154 }
set_option maxHeartbeats 4000000 in
set_option maxRecDepth 100000 in
theorem c_L_powerByTable (l : Launch) (hst : l.stackTraces = false) (E : EE) (sz : Nat) (X hs : Nat → Nat → Nat) (w : Nat → Nat) (g g2 : GG) (B : Nat) (hI : IB B g) (hg : Nat → GG) (nx ct : Nat) (hnx : nx < 8) (hct : ct ≤ 8) (j : JT) (hj : JV j) (p0 : Int32) : MW l yL_powerByTable cL_powerByTable 3 [(0, 5, 6, 28)] rm_L_powerByTable [.ref ((X 0) 0), .int p0] E sz (OB E X hs w g g2 hg nx ct j) (fun (r : Int32) (u : JT) => r = wf g (powN g) p0 ∧ JV u) (fun u => OB E X hs w g g2 hg nx ct u) 1 6 := by
  obtain ⟨g3, co, re, so, gw, q, F, v, ml, n, cp, t⟩ := j
  refine mw_go (by decide) (Nat.le_of_ble_eq_true rfl) ?_
  intro p e s m below meth c A Q ls hx hb hml hown hts hK hZ hDD hA hsz hP hD hl htab hret
  have hS : va_S A s.heap s.heap [] := va_S.rf
  have hP : va_P E.1 vwCl ([coC E (X 0) (X 1) (X 2) (X 3) (X 4) (X 5) (X 6) (X 7) (X 8) w, stC E (X 1) g, stC E (X 2) g2, stC E (X 3) g3, hhC E (X 4) hs hg nx ct, diC E (X 5) co re, grC E (X 6) so gw, prC E (X 7) q F, sbO E (X 8) v ml n, baC E v cp t] : List va_W).flatten s.heap := hP
  have hD : va_D A ([coC E (X 0) (X 1) (X 2) (X 3) (X 4) (X 5) (X 6) (X 7) (X 8) w, stC E (X 1) g, stC E (X 2) g2, stC E (X 3) g3, hhC E (X 4) hs hg nx ct, diC E (X 5) co re, grC E (X 6) so gw, prC E (X 7) q F, sbO E (X 8) v ml n, baC E v cp t] : List va_W).flatten := hD
  have hl : lv_has ls 3 [(0, .ref ((X 0) 0)), (1, .int p0)] := hl
  have hmc := hI.mc
  refine lv_aload_n hx hb dL_powerByTable_0 rfl (lv_at hl 0 rfl) ?_
  refine lv_iload_n hx hb dL_powerByTable_1 rfl (lv_at hl 1 rfl) ?_
  refine run_xi (S := (Nat → Nat) × (Nat → Nat)) (SX := Unit) (run_XV (As := [.int p0]) (rest := []) (bs := [coC E (X 0) (X 1) (X 2) (X 3) (X 4) (X 5) (X 6) (X 7) (X 8) w, stC E (X 1) g, stC E (X 2) g2, stC E (X 3) g3, hhC E (X 4) hs hg nx ct, diC E (X 5) co re, grC E (X 6) so gw, prC E (X 7) q F, sbO E (X 8) v ml n, baC E v cp t]) (cb := [coC E (X 0) (X 1) (X 2) (X 3) (X 4) (X 5) (X 6) (X 7) (X 8) w, stC E (X 1) g, grC E (X 6) so gw]) hx hb hml hown hts hK hZ hDD hA (c_X5_powerByTable l hst E _ (X 0) (X 1) (X 2) (X 3) (X 4) (X 5) (X 6) (X 7) (X 8) w g B hI so gw p0) l_L_106 rfl ⟨⟨rfl, rfl⟩, Nat.le_of_ble_eq_true rfl, Nat.le_of_ble_eq_true rfl⟩ 9 rfl [0, 1, 6] rfl (by decide) rfl hP hD hS hl.1 rfl (Nat.le_of_ble_eq_true rfl) dL_powerByTable_2 ⟨Nat.le_of_ble_eq_true rfl, Nat.le_of_ble_eq_true rfl⟩) hA hP hD hS (isC := [0, 1, 6]) rfl [2, 3, 4, 5, 7, 8, 9] [7, 8, 0, 1, 2, 3, 9, 4, 5, 6] (br := [stC E (X 2) g2, stC E (X 3) g3, hhC E (X 4) hs hg nx ct, diC E (X 5) co re, prC E (X 7) q F, sbO E (X 8) v ml n, baC E v cp t]) (bs2 := fun u => [coC E (X 0) (X 1) (X 2) (X 3) (X 4) (X 5) (X 6) (X 7) (X 8) w, stC E (X 1) g, stC E (X 2) g2, stC E (X 3) g3, hhC E (X 4) hs hg nx ct, diC E (X 5) co re, grC E (X 6) u.1 u.2, prC E (X 7) q F, sbO E (X 8) v ml n, baC E v cp t]) (bx2 := fun _ => [coC E (X 0) (X 1) (X 2) (X 3) (X 4) (X 5) (X 6) (X 7) (X 8) w, stC E (X 1) g, stC E (X 2) g2, stC E (X 3) g3, hhC E (X 4) hs hg nx ct, diC E (X 5) co re, grC E (X 6) so gw, prC E (X 7) q F, sbO E (X 8) v ml n, baC E v cp t]) rfl (by decide) (fun _ => rfl) (fun _ => rfl) (by decide) (fun Ex ce q9 ux H locs hw hP hD hS hc1 hc2 hc3 => ?_) (fun r u H locs hw hP hD hS => ?_)
  · skip
    obtain ⟨hE, hq⟩ := hw
    subst hE
    refine vx_catch (own := RL) (name := IOX) hown [] ⟨0, 5, 6, 28⟩ [] (htab.trans rfl) (fun z hz => absurd hz List.not_mem_nil) rfl (by decide) (hts _ q322) (va_Nw.use rfl (hZ.2.2.1 _ (List.mem_of_getElem? (i := 0) rfl))) hc1 hc2 hc3 ?_
    refine lv_astore_n (lv' := [(2, .ref q9), (0, .ref ((X 0) 0)), (1, .int p0)]) hx hb dL_powerByTable_6 rfl hl (by decide) rfl (fun ls hl => ?_)
    refine lv_bipush (v := -77) hx hb dL_powerByTable_7 (by decide) ?_
    exact hret _ _ (-77 : Int32) (g3, co, re, so, gw, q, F, v, ml, n, cp, t) _ _ _ _ hP hD hS ⟨(if_neg (by rw [hq]; decide)).symm, hj⟩ dL_powerByTable_9 (by omega) (by omega)
  exact hret _ _ r (g3, co, re, u.1, u.2, q, F, v, ml, n, cp, t) _ _ _ _ hP hD hS ⟨(by rw [hw.2]; exact (if_pos hw.1).symm), hj⟩ dL_powerByTable_5 (by omega) (by omega)
abbrev rm_L_powerShare : Room := { frames := 8, cells := 1, slots := 6, locals := 205 }
set_option maxHeartbeats 4000000 in
set_option maxRecDepth 100000 in
theorem c_L_powerShare (l : Launch) (hst : l.stackTraces = false) (E : EE) (sz : Nat) (X hs : Nat → Nat → Nat) (w : Nat → Nat) (g g2 : GG) (B : Nat) (hI : IB B g) (hg : Nat → GG) (nx ct : Nat) (hnx : nx < 8) (hct : ct ≤ 8) (j : JT) (hj : JV j) (p0 : Int32) : MWF l yL_powerShare cL_powerShare 3 [(0, 5, 6, 28)] rm_L_powerShare [.ref ((X 0) 0), .int p0] E sz (OB E X hs w g g2 hg nx ct j) (fun (r : UInt32) (u : JT) => r = wps g p0 ∧ JV u) (fun u => OB E X hs w g g2 hg nx ct u) 1 6 := by
  obtain ⟨g3, co, re, so, gw, q, F, v, ml, n, cp, t⟩ := j
  refine mwf_go (by decide) (Nat.le_of_ble_eq_true rfl) ?_
  intro p e s m below meth c A Q ls hx hb hml hown hts hK hZ hDD hA hsz hP hD hl htab hret
  have hS : va_S A s.heap s.heap [] := va_S.rf
  have hP : va_P E.1 vwCl ([coC E (X 0) (X 1) (X 2) (X 3) (X 4) (X 5) (X 6) (X 7) (X 8) w, stC E (X 1) g, stC E (X 2) g2, stC E (X 3) g3, hhC E (X 4) hs hg nx ct, diC E (X 5) co re, grC E (X 6) so gw, prC E (X 7) q F, sbO E (X 8) v ml n, baC E v cp t] : List va_W).flatten s.heap := hP
  have hD : va_D A ([coC E (X 0) (X 1) (X 2) (X 3) (X 4) (X 5) (X 6) (X 7) (X 8) w, stC E (X 1) g, stC E (X 2) g2, stC E (X 3) g3, hhC E (X 4) hs hg nx ct, diC E (X 5) co re, grC E (X 6) so gw, prC E (X 7) q F, sbO E (X 8) v ml n, baC E v cp t] : List va_W).flatten := hD
  have hl : lv_has ls 3 [(0, .ref ((X 0) 0)), (1, .int p0)] := hl
  have hmc := hI.mc
  refine lv_aload_n hx hb dL_powerShare_0 rfl (lv_at hl 0 rfl) ?_
  refine lv_iload_n hx hb dL_powerShare_1 rfl (lv_at hl 1 rfl) ?_
  refine run_xf (S := (Nat → Nat) × (Nat → Nat)) (SX := Unit) (run_XV (As := [.int p0]) (rest := []) (bs := [coC E (X 0) (X 1) (X 2) (X 3) (X 4) (X 5) (X 6) (X 7) (X 8) w, stC E (X 1) g, stC E (X 2) g2, stC E (X 3) g3, hhC E (X 4) hs hg nx ct, diC E (X 5) co re, grC E (X 6) so gw, prC E (X 7) q F, sbO E (X 8) v ml n, baC E v cp t]) (cb := [coC E (X 0) (X 1) (X 2) (X 3) (X 4) (X 5) (X 6) (X 7) (X 8) w, stC E (X 1) g, grC E (X 6) so gw]) hx hb hml hown hts hK hZ hDD hA (c_X5_powerShare l hst E _ (X 0) (X 1) (X 2) (X 3) (X 4) (X 5) (X 6) (X 7) (X 8) w g B hI so gw p0) l_L_123 rfl ⟨⟨rfl, rfl⟩, Nat.le_of_ble_eq_true rfl, Nat.le_of_ble_eq_true rfl⟩ 9 rfl [0, 1, 6] rfl (by decide) rfl hP hD hS hl.1 rfl (Nat.le_of_ble_eq_true rfl) dL_powerShare_2 ⟨Nat.le_of_ble_eq_true rfl, Nat.le_of_ble_eq_true rfl⟩) hA hP hD hS (isC := [0, 1, 6]) rfl [2, 3, 4, 5, 7, 8, 9] [7, 8, 0, 1, 2, 3, 9, 4, 5, 6] (br := [stC E (X 2) g2, stC E (X 3) g3, hhC E (X 4) hs hg nx ct, diC E (X 5) co re, prC E (X 7) q F, sbO E (X 8) v ml n, baC E v cp t]) (bs2 := fun u => [coC E (X 0) (X 1) (X 2) (X 3) (X 4) (X 5) (X 6) (X 7) (X 8) w, stC E (X 1) g, stC E (X 2) g2, stC E (X 3) g3, hhC E (X 4) hs hg nx ct, diC E (X 5) co re, grC E (X 6) u.1 u.2, prC E (X 7) q F, sbO E (X 8) v ml n, baC E v cp t]) (bx2 := fun _ => [coC E (X 0) (X 1) (X 2) (X 3) (X 4) (X 5) (X 6) (X 7) (X 8) w, stC E (X 1) g, stC E (X 2) g2, stC E (X 3) g3, hhC E (X 4) hs hg nx ct, diC E (X 5) co re, grC E (X 6) so gw, prC E (X 7) q F, sbO E (X 8) v ml n, baC E v cp t]) rfl (by decide) (fun _ => rfl) (fun _ => rfl) (by decide) (fun Ex ce q9 ux H locs hw hP hD hS hc1 hc2 hc3 => ?_) (fun r u H locs hw hP hD hS => ?_)
  · skip
    obtain ⟨hE, hq⟩ := hw
    subst hE
    refine vx_catch (own := RL) (name := IOX) hown [] ⟨0, 5, 6, 28⟩ [] (htab.trans rfl) (fun z hz => absurd hz List.not_mem_nil) rfl (by decide) (hts _ q322) (va_Nw.use rfl (hZ.2.2.1 _ (List.mem_of_getElem? (i := 0) rfl))) hc1 hc2 hc3 ?_
    refine lv_astore_n (lv' := [(2, .ref q9), (0, .ref ((X 0) 0)), (1, .int p0)]) hx hb dL_powerShare_6 rfl hl (by decide) rfl (fun ls hl => ?_)
    refine lv_ldcf (v := (3264872448 : UInt32)) hx hb (own := RL) (index := 127) hown (hts _ qc1162) dL_powerShare_7 ?_
    exact hret _ _ (3264872448 : UInt32) (g3, co, re, so, gw, q, F, v, ml, n, cp, t) _ _ _ _ hP hD hS ⟨(if_neg (by rw [hq]; decide)).symm, hj⟩ dL_powerShare_9 (by omega) (by omega)
  exact hret _ _ r (g3, co, re, u.1, u.2, q, F, v, ml, n, cp, t) _ _ _ _ hP hD hS ⟨(by rw [hw.2]; exact (if_pos hw.1).symm), hj⟩ dL_powerShare_5 (by omega) (by omega)
abbrev rm_L_writeMember : Room := { frames := 8, cells := 13, slots := 414, locals := 229 }
set_option maxHeartbeats 4000000 in
set_option maxRecDepth 100000 in
theorem c_L_writeMember (l : Launch) (hst : l.stackTraces = false) (E : EE) (sz : Nat) (X hs : Nat → Nat → Nat) (w : Nat → Nat) (g g2 : GG) (B : Nat) (hI : IB B g) (hg : Nat → GG) (nx ct : Nat) (hnx : nx < 8) (hct : ct ≤ 8) (j : JT) (hj : JV j) (p0 : Int32) : MW l yL_writeMember cL_writeMember 3 [(0, 5, 6, 28)] rm_L_writeMember [.ref ((X 0) 0), .int p0] E sz (OB E X hs w g g2 hg nx ct j) (fun (r : Int32) (u : JT) => r = wf g (lnG g) p0 ∧ JV u) (fun u => OB E X hs w g g2 hg nx ct u) 13 414 := by
  obtain ⟨g3, co, re, so, gw, q, F, v, ml, n, cp, t⟩ := j
  refine mw_go (by decide) (Nat.le_of_ble_eq_true rfl) ?_
  intro p e s m below meth c A Q ls hx hb hml hown hts hK hZ hDD hA hsz hP hD hl htab hret
  have hS : va_S A s.heap s.heap [] := va_S.rf
  have hP : va_P E.1 vwCl ([coC E (X 0) (X 1) (X 2) (X 3) (X 4) (X 5) (X 6) (X 7) (X 8) w, stC E (X 1) g, stC E (X 2) g2, stC E (X 3) g3, hhC E (X 4) hs hg nx ct, diC E (X 5) co re, grC E (X 6) so gw, prC E (X 7) q F, sbO E (X 8) v ml n, baC E v cp t] : List va_W).flatten s.heap := hP
  have hD : va_D A ([coC E (X 0) (X 1) (X 2) (X 3) (X 4) (X 5) (X 6) (X 7) (X 8) w, stC E (X 1) g, stC E (X 2) g2, stC E (X 3) g3, hhC E (X 4) hs hg nx ct, diC E (X 5) co re, grC E (X 6) so gw, prC E (X 7) q F, sbO E (X 8) v ml n, baC E v cp t] : List va_W).flatten := hD
  have hl : lv_has ls 3 [(0, .ref ((X 0) 0)), (1, .int p0)] := hl
  have hmc := hI.mc
  refine lv_aload_n hx hb dL_writeMember_0 rfl (lv_at hl 0 rfl) ?_
  refine lv_iload_n hx hb dL_writeMember_1 rfl (lv_at hl 1 rfl) ?_
  refine run_xi (S := Nat × Nat × Nat × (Nat → Nat)) (SX := Unit) (run_XV (As := [.int p0]) (rest := []) (bs := [coC E (X 0) (X 1) (X 2) (X 3) (X 4) (X 5) (X 6) (X 7) (X 8) w, stC E (X 1) g, stC E (X 2) g2, stC E (X 3) g3, hhC E (X 4) hs hg nx ct, diC E (X 5) co re, grC E (X 6) so gw, prC E (X 7) q F, sbO E (X 8) v ml n, baC E v cp t]) (cb := [coC E (X 0) (X 1) (X 2) (X 3) (X 4) (X 5) (X 6) (X 7) (X 8) w, stC E (X 1) g, sbO E (X 8) v ml n, baC E v cp t]) hx hb hml hown hts hK hZ hDD hA (c_X5_writeMember l hst E _ (X 0) (X 1) (X 2) (X 3) (X 4) (X 5) (X 6) (X 7) (X 8) w g B hI v ml n cp t hj.2.2.2 hj.2.2.1 (by have h8 : n ≤ cp := hj.2.1; have h9 : cp = 16 ∨ cp = 34 := hj.2.2.1; omega) p0) l_L_141 rfl ⟨⟨rfl, rfl⟩, Nat.le_of_ble_eq_true rfl, Nat.le_of_ble_eq_true rfl⟩ 9 rfl [0, 1, 8, 9] rfl (by decide) rfl hP hD hS hl.1 rfl (Nat.le_of_ble_eq_true rfl) dL_writeMember_2 ⟨Nat.le_of_ble_eq_true rfl, Nat.le_of_ble_eq_true rfl⟩) hA hP hD hS (isC := [0, 1, 8, 9]) rfl [2, 3, 4, 5, 6, 7] [6, 7, 0, 1, 2, 3, 4, 5, 8, 9] (br := [stC E (X 2) g2, stC E (X 3) g3, hhC E (X 4) hs hg nx ct, diC E (X 5) co re, grC E (X 6) so gw, prC E (X 7) q F]) (bs2 := fun u => [coC E (X 0) (X 1) (X 2) (X 3) (X 4) (X 5) (X 6) (X 7) (X 8) w, stC E (X 1) g, stC E (X 2) g2, stC E (X 3) g3, hhC E (X 4) hs hg nx ct, diC E (X 5) co re, grC E (X 6) so gw, prC E (X 7) q F, sbO E (X 8) u.1 u.2.1 (memL g (tn p0)).length, baC E u.1 u.2.2.1 u.2.2.2]) (bx2 := fun _ => [coC E (X 0) (X 1) (X 2) (X 3) (X 4) (X 5) (X 6) (X 7) (X 8) w, stC E (X 1) g, stC E (X 2) g2, stC E (X 3) g3, hhC E (X 4) hs hg nx ct, diC E (X 5) co re, grC E (X 6) so gw, prC E (X 7) q F, sbO E (X 8) v ml n, baC E v cp t]) rfl (by decide) (fun _ => rfl) (fun _ => rfl) (by decide) (fun Ex ce q9 ux H locs hw hP hD hS hc1 hc2 hc3 => ?_) (fun r u H locs hw hP hD hS => ?_)
  · skip
    obtain ⟨hE, hq⟩ := hw
    subst hE
    refine vx_catch (own := RL) (name := IOX) hown [] ⟨0, 5, 6, 28⟩ [] (htab.trans rfl) (fun z hz => absurd hz List.not_mem_nil) rfl (by decide) (hts _ q322) (va_Nw.use rfl (hZ.2.2.1 _ (List.mem_of_getElem? (i := 0) rfl))) hc1 hc2 hc3 ?_
    refine lv_astore_n (lv' := [(2, .ref q9), (0, .ref ((X 0) 0)), (1, .int p0)]) hx hb dL_writeMember_6 rfl hl (by decide) rfl (fun ls hl => ?_)
    refine lv_bipush (v := -77) hx hb dL_writeMember_7 (by decide) ?_
    exact hret _ _ (-77 : Int32) (g3, co, re, so, gw, q, F, v, ml, n, cp, t) _ _ _ _ hP hD hS ⟨(if_neg (by rw [hq]; decide)).symm, hj⟩ dL_writeMember_9 (by omega) (by omega)
  exact hret _ _ r (g3, co, re, so, gw, q, F, u.1, u.2.1, (memL g (tn p0)).length, u.2.2.1, u.2.2.2) _ _ _ _ hP hD hS ⟨(by rw [hw.2.1]; exact (if_pos hw.1).symm), ⟨hj.1, hw.2.2.2.1, hw.2.2.2.2.1, hw.2.2.2.2.2⟩⟩ dL_writeMember_5 (by omega) (by omega)
abbrev rm_L_dueBeatsByDoubling : Room := { frames := 8, cells := 1, slots := 6, locals := 142 }
set_option maxHeartbeats 4000000 in
set_option maxRecDepth 100000 in
theorem c_L_dueBeatsByDoubling (l : Launch) (hst : l.stackTraces = false) (E : EE) (sz : Nat) (X hs : Nat → Nat → Nat) (w : Nat → Nat) (g g2 : GG) (B : Nat) (hI : IB B g) (hg : Nat → GG) (nx ct : Nat) (hnx : nx < 8) (hct : ct ≤ 8) (j : JT) (hj : JV j) (p0 : Int32) : MWL l yL_dueBeatsByDoubling cL_dueBeatsByDoubling 3 [(0, 5, 6, 28)] rm_L_dueBeatsByDoubling [.ref ((X 0) 0), .int p0] E sz (OB E X hs w g g2 hg nx ct j) (fun (r : Int64) (u : JT) => r = wl g p0 ∧ JV u) (fun u => OB E X hs w g g2 hg nx ct u) 1 6 := by
  obtain ⟨g3, co, re, so, gw, q, F, v, ml, n, cp, t⟩ := j
  refine mwl_go (by decide) (Nat.le_of_ble_eq_true rfl) ?_
  intro p e s m below meth c A Q ls hx hb hml hown hts hK hZ hDD hA hsz hP hD hl htab hret
  have hS : va_S A s.heap s.heap [] := va_S.rf
  have hP : va_P E.1 vwCl ([coC E (X 0) (X 1) (X 2) (X 3) (X 4) (X 5) (X 6) (X 7) (X 8) w, stC E (X 1) g, stC E (X 2) g2, stC E (X 3) g3, hhC E (X 4) hs hg nx ct, diC E (X 5) co re, grC E (X 6) so gw, prC E (X 7) q F, sbO E (X 8) v ml n, baC E v cp t] : List va_W).flatten s.heap := hP
  have hD : va_D A ([coC E (X 0) (X 1) (X 2) (X 3) (X 4) (X 5) (X 6) (X 7) (X 8) w, stC E (X 1) g, stC E (X 2) g2, stC E (X 3) g3, hhC E (X 4) hs hg nx ct, diC E (X 5) co re, grC E (X 6) so gw, prC E (X 7) q F, sbO E (X 8) v ml n, baC E v cp t] : List va_W).flatten := hD
  have hl : lv_has ls 3 [(0, .ref ((X 0) 0)), (1, .int p0)] := hl
  have hmc := hI.mc
  refine lv_aload_n hx hb dL_dueBeatsByDoubling_0 rfl (lv_at hl 0 rfl) ?_
  refine lv_iload_n hx hb dL_dueBeatsByDoubling_1 rfl (lv_at hl 1 rfl) ?_
  refine run_xl (S := Unit) (SX := Unit) (run_XV (As := [.int p0]) (rest := []) (bs := [coC E (X 0) (X 1) (X 2) (X 3) (X 4) (X 5) (X 6) (X 7) (X 8) w, stC E (X 1) g, stC E (X 2) g2, stC E (X 3) g3, hhC E (X 4) hs hg nx ct, diC E (X 5) co re, grC E (X 6) so gw, prC E (X 7) q F, sbO E (X 8) v ml n, baC E v cp t]) (cb := [coC E (X 0) (X 1) (X 2) (X 3) (X 4) (X 5) (X 6) (X 7) (X 8) w, stC E (X 1) g]) hx hb hml hown hts hK hZ hDD hA (c_X5_dueBeatsByDoubling l hst E _ (X 0) (X 1) (X 2) (X 3) (X 4) (X 5) (X 6) (X 7) (X 8) w g B hI p0) l_L_79 rfl ⟨⟨rfl, rfl⟩, Nat.le_of_ble_eq_true rfl, Nat.le_of_ble_eq_true rfl⟩ 9 rfl [0, 1] rfl (by decide) rfl hP hD hS hl.1 rfl (Nat.le_of_ble_eq_true rfl) dL_dueBeatsByDoubling_2 ⟨Nat.le_of_ble_eq_true rfl, Nat.le_of_ble_eq_true rfl⟩) hA hP hD hS (isC := [0, 1]) rfl [2, 3, 4, 5, 6, 7, 8, 9] [8, 9, 0, 1, 2, 3, 4, 5, 6, 7] (br := [stC E (X 2) g2, stC E (X 3) g3, hhC E (X 4) hs hg nx ct, diC E (X 5) co re, grC E (X 6) so gw, prC E (X 7) q F, sbO E (X 8) v ml n, baC E v cp t]) (bs2 := fun _ => [coC E (X 0) (X 1) (X 2) (X 3) (X 4) (X 5) (X 6) (X 7) (X 8) w, stC E (X 1) g, stC E (X 2) g2, stC E (X 3) g3, hhC E (X 4) hs hg nx ct, diC E (X 5) co re, grC E (X 6) so gw, prC E (X 7) q F, sbO E (X 8) v ml n, baC E v cp t]) (bx2 := fun _ => [coC E (X 0) (X 1) (X 2) (X 3) (X 4) (X 5) (X 6) (X 7) (X 8) w, stC E (X 1) g, stC E (X 2) g2, stC E (X 3) g3, hhC E (X 4) hs hg nx ct, diC E (X 5) co re, grC E (X 6) so gw, prC E (X 7) q F, sbO E (X 8) v ml n, baC E v cp t]) rfl (by decide) (fun _ => rfl) (fun _ => rfl) (by decide) (fun Ex ce q9 ux H locs hw hP hD hS hc1 hc2 hc3 => ?_) (fun r u H locs hw hP hD hS => ?_)
  · skip
    obtain ⟨hE, hq⟩ := hw
    subst hE
    refine vx_catch (own := RL) (name := IOX) hown [] ⟨0, 5, 6, 28⟩ [] (htab.trans rfl) (fun z hz => absurd hz List.not_mem_nil) rfl (by decide) (hts _ q322) (va_Nw.use rfl (hZ.2.2.1 _ (List.mem_of_getElem? (i := 0) rfl))) hc1 hc2 hc3 ?_
    refine lv_astore_n (lv' := [(2, .ref q9), (0, .ref ((X 0) 0)), (1, .int p0)]) hx hb dL_dueBeatsByDoubling_6 rfl hl (by decide) rfl (fun ls hl => ?_)
    refine lv_ldc2 (v := (-77 : Int64)) hx hb (own := RL) (index := 77) hown (hts _ qc1069) dL_dueBeatsByDoubling_7 ?_
    exact hret _ _ (-77 : Int64) (g3, co, re, so, gw, q, F, v, ml, n, cp, t) _ _ _ _ hP hD hS ⟨(if_neg (by rw [hq]; decide)).symm, hj⟩ dL_dueBeatsByDoubling_10 (by omega) (by omega)
  exact hret _ _ r (g3, co, re, so, gw, q, F, v, ml, n, cp, t) _ _ _ _ hP hD hS ⟨(by rw [hw.2]; exact (if_pos hw.1).symm), hj⟩ dL_dueBeatsByDoubling_5 (by omega) (by omega)
abbrev rm_L_memberAtRank : Room := { frames := 7, cells := 1, slots := 6, locals := 122 }
set_option maxHeartbeats 4000000 in
set_option maxRecDepth 100000 in
theorem c_L_memberAtRank (l : Launch) (hst : l.stackTraces = false) (E : EE) (sz : Nat) (X hs : Nat → Nat → Nat) (w : Nat → Nat) (g g2 : GG) (B : Nat) (hI : IB B g) (hg : Nat → GG) (nx ct : Nat) (hnx : nx < 8) (hct : ct ≤ 8) (j : JT) (hj : JV j) (p0 : Int32) : MW l yL_memberAtRank cL_memberAtRank 3 [(0, 5, 6, 71)] rm_L_memberAtRank [.ref ((X 0) 0), .int p0] E sz (OB E X hs w g g2 hg nx ct j) (fun (r : Int32) (u : JT) => r = wrk g p0 ∧ JV u) (fun u => OB E X hs w g g2 hg nx ct u) 1 6 := by
  obtain ⟨g3, co, re, so, gw, q, F, v, ml, n, cp, t⟩ := j
  refine mw_go (by decide) (Nat.le_of_ble_eq_true rfl) ?_
  intro p e s m below meth c A Q ls hx hb hml hown hts hK hZ hDD hA hsz hP hD hl htab hret
  have hS : va_S A s.heap s.heap [] := va_S.rf
  have hP : va_P E.1 vwCl ([coC E (X 0) (X 1) (X 2) (X 3) (X 4) (X 5) (X 6) (X 7) (X 8) w, stC E (X 1) g, stC E (X 2) g2, stC E (X 3) g3, hhC E (X 4) hs hg nx ct, diC E (X 5) co re, grC E (X 6) so gw, prC E (X 7) q F, sbO E (X 8) v ml n, baC E v cp t] : List va_W).flatten s.heap := hP
  have hD : va_D A ([coC E (X 0) (X 1) (X 2) (X 3) (X 4) (X 5) (X 6) (X 7) (X 8) w, stC E (X 1) g, stC E (X 2) g2, stC E (X 3) g3, hhC E (X 4) hs hg nx ct, diC E (X 5) co re, grC E (X 6) so gw, prC E (X 7) q F, sbO E (X 8) v ml n, baC E v cp t] : List va_W).flatten := hD
  have hl : lv_has ls 3 [(0, .ref ((X 0) 0)), (1, .int p0)] := hl
  have hmc := hI.mc
  refine lv_aload_n hx hb dL_memberAtRank_0 rfl (lv_at hl 0 rfl) ?_
  refine lv_iload_n hx hb dL_memberAtRank_1 rfl (lv_at hl 1 rfl) ?_
  refine run_xi (S := Unit) (SX := Unit) (run_XV (As := [.int p0]) (rest := []) (bs := [coC E (X 0) (X 1) (X 2) (X 3) (X 4) (X 5) (X 6) (X 7) (X 8) w, stC E (X 1) g, stC E (X 2) g2, stC E (X 3) g3, hhC E (X 4) hs hg nx ct, diC E (X 5) co re, grC E (X 6) so gw, prC E (X 7) q F, sbO E (X 8) v ml n, baC E v cp t]) (cb := [coC E (X 0) (X 1) (X 2) (X 3) (X 4) (X 5) (X 6) (X 7) (X 8) w, stC E (X 1) g]) hx hb hml hown hts hK hZ hDD hA (c_X5_memberAtRank l hst E _ (X 0) (X 1) (X 2) (X 3) (X 4) (X 5) (X 6) (X 7) (X 8) w g B hI p0) l_L_68 rfl ⟨⟨rfl, rfl⟩, Nat.le_of_ble_eq_true rfl, Nat.le_of_ble_eq_true rfl⟩ 9 rfl [0, 1] rfl (by decide) rfl hP hD hS hl.1 rfl (Nat.le_of_ble_eq_true rfl) dL_memberAtRank_2 ⟨Nat.le_of_ble_eq_true rfl, Nat.le_of_ble_eq_true rfl⟩) hA hP hD hS (isC := [0, 1]) rfl [2, 3, 4, 5, 6, 7, 8, 9] [8, 9, 0, 1, 2, 3, 4, 5, 6, 7] (br := [stC E (X 2) g2, stC E (X 3) g3, hhC E (X 4) hs hg nx ct, diC E (X 5) co re, grC E (X 6) so gw, prC E (X 7) q F, sbO E (X 8) v ml n, baC E v cp t]) (bs2 := fun _ => [coC E (X 0) (X 1) (X 2) (X 3) (X 4) (X 5) (X 6) (X 7) (X 8) w, stC E (X 1) g, stC E (X 2) g2, stC E (X 3) g3, hhC E (X 4) hs hg nx ct, diC E (X 5) co re, grC E (X 6) so gw, prC E (X 7) q F, sbO E (X 8) v ml n, baC E v cp t]) (bx2 := fun _ => [coC E (X 0) (X 1) (X 2) (X 3) (X 4) (X 5) (X 6) (X 7) (X 8) w, stC E (X 1) g, stC E (X 2) g2, stC E (X 3) g3, hhC E (X 4) hs hg nx ct, diC E (X 5) co re, grC E (X 6) so gw, prC E (X 7) q F, sbO E (X 8) v ml n, baC E v cp t]) rfl (by decide) (fun _ => rfl) (fun _ => rfl) (by decide) (fun Ex ce q9 ux H locs hw hP hD hS hc1 hc2 hc3 => ?_) (fun r u H locs hw hP hD hS => ?_)
  · skip
    obtain ⟨hE, hq⟩ := hw
    subst hE
    refine vx_catch (own := RL) (name := NSE) hown [] ⟨0, 5, 6, 71⟩ [] (htab.trans rfl) (fun z hz => absurd hz List.not_mem_nil) rfl (by decide) (hts _ q1255) (va_Nw.use rfl (hZ.2.2.1 _ (List.mem_of_getElem? (i := 5) rfl))) hc1 hc2 hc3 ?_
    refine lv_astore_n (lv' := [(2, .ref q9), (0, .ref ((X 0) 0)), (1, .int p0)]) hx hb dL_memberAtRank_6 rfl hl (by decide) rfl (fun ls hl => ?_)
    refine lv_bipush (v := -75) hx hb dL_memberAtRank_7 (by decide) ?_
    exact hret _ _ (-75 : Int32) (g3, co, re, so, gw, q, F, v, ml, n, cp, t) _ _ _ _ hP hD hS ⟨(if_neg hq).symm, hj⟩ dL_memberAtRank_9 (by omega) (by omega)
  exact hret _ _ r (g3, co, re, so, gw, q, F, v, ml, n, cp, t) _ _ _ _ hP hD hS ⟨(by rw [hw.2]; exact (if_pos hw.1).symm), hj⟩ dL_memberAtRank_5 (by omega) (by omega)
abbrev rm_L_beatsUntilChorus : Room := { frames := 7, cells := 1, slots := 6, locals := 121 }
set_option maxHeartbeats 4000000 in
set_option maxRecDepth 100000 in
theorem c_L_beatsUntilChorus (l : Launch) (hst : l.stackTraces = false) (E : EE) (sz : Nat) (X hs : Nat → Nat → Nat) (w : Nat → Nat) (g g2 : GG) (B : Nat) (hI : IB B g) (hg : Nat → GG) (nx ct : Nat) (hnx : nx < 8) (hct : ct ≤ 8) (j : JT) (hj : JV j)  : MW l yL_beatsUntilChorus cL_beatsUntilChorus 2 [(0, 4, 5, 71)] rm_L_beatsUntilChorus [.ref ((X 0) 0)] E sz (OB E X hs w g g2 hg nx ct j) (fun (r : Int32) (u : JT) => r = wch g ∧ JV u) (fun u => OB E X hs w g g2 hg nx ct u) 1 6 := by
  obtain ⟨g3, co, re, so, gw, q, F, v, ml, n, cp, t⟩ := j
  refine mw_go (by decide) (Nat.le_of_ble_eq_true rfl) ?_
  intro p e s m below meth c A Q ls hx hb hml hown hts hK hZ hDD hA hsz hP hD hl htab hret
  have hS : va_S A s.heap s.heap [] := va_S.rf
  have hP : va_P E.1 vwCl ([coC E (X 0) (X 1) (X 2) (X 3) (X 4) (X 5) (X 6) (X 7) (X 8) w, stC E (X 1) g, stC E (X 2) g2, stC E (X 3) g3, hhC E (X 4) hs hg nx ct, diC E (X 5) co re, grC E (X 6) so gw, prC E (X 7) q F, sbO E (X 8) v ml n, baC E v cp t] : List va_W).flatten s.heap := hP
  have hD : va_D A ([coC E (X 0) (X 1) (X 2) (X 3) (X 4) (X 5) (X 6) (X 7) (X 8) w, stC E (X 1) g, stC E (X 2) g2, stC E (X 3) g3, hhC E (X 4) hs hg nx ct, diC E (X 5) co re, grC E (X 6) so gw, prC E (X 7) q F, sbO E (X 8) v ml n, baC E v cp t] : List va_W).flatten := hD
  have hl : lv_has ls 2 [(0, .ref ((X 0) 0))] := hl
  have hmc := hI.mc
  refine lv_aload_n hx hb dL_beatsUntilChorus_0 rfl (lv_at hl 0 rfl) ?_
  refine run_xi (S := Unit) (SX := Unit) (run_XV (As := []) (rest := []) (bs := [coC E (X 0) (X 1) (X 2) (X 3) (X 4) (X 5) (X 6) (X 7) (X 8) w, stC E (X 1) g, stC E (X 2) g2, stC E (X 3) g3, hhC E (X 4) hs hg nx ct, diC E (X 5) co re, grC E (X 6) so gw, prC E (X 7) q F, sbO E (X 8) v ml n, baC E v cp t]) (cb := [coC E (X 0) (X 1) (X 2) (X 3) (X 4) (X 5) (X 6) (X 7) (X 8) w, stC E (X 1) g]) hx hb hml hown hts hK hZ hDD hA (c_X5_beatsUntilChorus l hst E _ (X 0) (X 1) (X 2) (X 3) (X 4) (X 5) (X 6) (X 7) (X 8) w g B hI) l_L_85 rfl ⟨⟨rfl, rfl⟩, Nat.le_of_ble_eq_true rfl, Nat.le_of_ble_eq_true rfl⟩ 9 rfl [0, 1] rfl (by decide) rfl hP hD hS hl.1 rfl (Nat.le_of_ble_eq_true rfl) dL_beatsUntilChorus_1 ⟨Nat.le_of_ble_eq_true rfl, Nat.le_of_ble_eq_true rfl⟩) hA hP hD hS (isC := [0, 1]) rfl [2, 3, 4, 5, 6, 7, 8, 9] [8, 9, 0, 1, 2, 3, 4, 5, 6, 7] (br := [stC E (X 2) g2, stC E (X 3) g3, hhC E (X 4) hs hg nx ct, diC E (X 5) co re, grC E (X 6) so gw, prC E (X 7) q F, sbO E (X 8) v ml n, baC E v cp t]) (bs2 := fun _ => [coC E (X 0) (X 1) (X 2) (X 3) (X 4) (X 5) (X 6) (X 7) (X 8) w, stC E (X 1) g, stC E (X 2) g2, stC E (X 3) g3, hhC E (X 4) hs hg nx ct, diC E (X 5) co re, grC E (X 6) so gw, prC E (X 7) q F, sbO E (X 8) v ml n, baC E v cp t]) (bx2 := fun _ => [coC E (X 0) (X 1) (X 2) (X 3) (X 4) (X 5) (X 6) (X 7) (X 8) w, stC E (X 1) g, stC E (X 2) g2, stC E (X 3) g3, hhC E (X 4) hs hg nx ct, diC E (X 5) co re, grC E (X 6) so gw, prC E (X 7) q F, sbO E (X 8) v ml n, baC E v cp t]) rfl (by decide) (fun _ => rfl) (fun _ => rfl) (by decide) (fun Ex ce q9 ux H locs hw hP hD hS hc1 hc2 hc3 => ?_) (fun r u H locs hw hP hD hS => ?_)
  · skip
    obtain ⟨hE, hq⟩ := hw
    subst hE
    refine vx_catch (own := RL) (name := NSE) hown [] ⟨0, 4, 5, 71⟩ [] (htab.trans rfl) (fun z hz => absurd hz List.not_mem_nil) rfl (by decide) (hts _ q1255) (va_Nw.use rfl (hZ.2.2.1 _ (List.mem_of_getElem? (i := 5) rfl))) hc1 hc2 hc3 ?_
    refine lv_astore_n (lv' := [(1, .ref q9), (0, .ref ((X 0) 0))]) hx hb dL_beatsUntilChorus_5 rfl hl (by decide) rfl (fun ls hl => ?_)
    refine lv_bipush (v := -75) hx hb dL_beatsUntilChorus_6 (by decide) ?_
    exact hret _ _ (-75 : Int32) (g3, co, re, so, gw, q, F, v, ml, n, cp, t) _ _ _ _ hP hD hS ⟨(if_neg hq).symm, hj⟩ dL_beatsUntilChorus_8 (by omega) (by omega)
  exact hret _ _ r (g3, co, re, so, gw, q, F, v, ml, n, cp, t) _ _ _ _ hP hD hS ⟨(by rw [hw.2]; exact (if_pos hw.1).symm), hj⟩ dL_beatsUntilChorus_4 (by omega) (by omega)
abbrev rm_L_carriedTone : Room := { frames := 8, cells := 2, slots := 12, locals := 142 }
set_option maxHeartbeats 4000000 in
set_option maxRecDepth 100000 in
theorem c_L_carriedTone (l : Launch) (hst : l.stackTraces = false) (E : EE) (sz : Nat) (X hs : Nat → Nat → Nat) (w : Nat → Nat) (g g2 : GG) (B : Nat) (hI : IB B g) (hg : Nat → GG) (nx ct : Nat) (hnx : nx < 8) (hct : ct ≤ 8) (j : JT) (hj : JV j) (p0 : Int32) : MW l yL_carriedTone cL_carriedTone 3 [(0, 5, 6, 20), (0, 5, 10, 71)] rm_L_carriedTone [.ref ((X 0) 0), .int p0] E sz (OB E X hs w g g2 hg nx ct j) (fun (r : Int32) (u : JT) => r = wct g p0 ∧ JV u) (fun u => OB E X hs w g g2 hg nx ct u) 2 12 := by
  obtain ⟨g3, co, re, so, gw, q, F, v, ml, n, cp, t⟩ := j
  refine mw_go (by decide) (Nat.le_of_ble_eq_true rfl) ?_
  intro p e s m below meth c A Q ls hx hb hml hown hts hK hZ hDD hA hsz hP hD hl htab hret
  have hS : va_S A s.heap s.heap [] := va_S.rf
  have hP : va_P E.1 vwCl ([coC E (X 0) (X 1) (X 2) (X 3) (X 4) (X 5) (X 6) (X 7) (X 8) w, stC E (X 1) g, stC E (X 2) g2, stC E (X 3) g3, hhC E (X 4) hs hg nx ct, diC E (X 5) co re, grC E (X 6) so gw, prC E (X 7) q F, sbO E (X 8) v ml n, baC E v cp t] : List va_W).flatten s.heap := hP
  have hD : va_D A ([coC E (X 0) (X 1) (X 2) (X 3) (X 4) (X 5) (X 6) (X 7) (X 8) w, stC E (X 1) g, stC E (X 2) g2, stC E (X 3) g3, hhC E (X 4) hs hg nx ct, diC E (X 5) co re, grC E (X 6) so gw, prC E (X 7) q F, sbO E (X 8) v ml n, baC E v cp t] : List va_W).flatten := hD
  have hl : lv_has ls 3 [(0, .ref ((X 0) 0)), (1, .int p0)] := hl
  have hmc := hI.mc
  refine lv_aload_n hx hb dL_carriedTone_0 rfl (lv_at hl 0 rfl) ?_
  refine lv_iload_n hx hb dL_carriedTone_1 rfl (lv_at hl 1 rfl) ?_
  refine run_xi (S := Unit) (SX := Unit) (run_XV (As := [.int p0]) (rest := []) (bs := [coC E (X 0) (X 1) (X 2) (X 3) (X 4) (X 5) (X 6) (X 7) (X 8) w, stC E (X 1) g, stC E (X 2) g2, stC E (X 3) g3, hhC E (X 4) hs hg nx ct, diC E (X 5) co re, grC E (X 6) so gw, prC E (X 7) q F, sbO E (X 8) v ml n, baC E v cp t]) (cb := [coC E (X 0) (X 1) (X 2) (X 3) (X 4) (X 5) (X 6) (X 7) (X 8) w, stC E (X 1) g]) hx hb hml hown hts hK hZ hDD hA (c_X5_carriedTone l hst E _ (X 0) (X 1) (X 2) (X 3) (X 4) (X 5) (X 6) (X 7) (X 8) w g B hI p0) l_L_100 rfl ⟨⟨rfl, rfl⟩, Nat.le_of_ble_eq_true rfl, Nat.le_of_ble_eq_true rfl⟩ 9 rfl [0, 1] rfl (by decide) rfl hP hD hS hl.1 rfl (Nat.le_of_ble_eq_true rfl) dL_carriedTone_2 ⟨Nat.le_of_ble_eq_true rfl, Nat.le_of_ble_eq_true rfl⟩) hA hP hD hS (isC := [0, 1]) rfl [2, 3, 4, 5, 6, 7, 8, 9] [8, 9, 0, 1, 2, 3, 4, 5, 6, 7] (br := [stC E (X 2) g2, stC E (X 3) g3, hhC E (X 4) hs hg nx ct, diC E (X 5) co re, grC E (X 6) so gw, prC E (X 7) q F, sbO E (X 8) v ml n, baC E v cp t]) (bs2 := fun _ => [coC E (X 0) (X 1) (X 2) (X 3) (X 4) (X 5) (X 6) (X 7) (X 8) w, stC E (X 1) g, stC E (X 2) g2, stC E (X 3) g3, hhC E (X 4) hs hg nx ct, diC E (X 5) co re, grC E (X 6) so gw, prC E (X 7) q F, sbO E (X 8) v ml n, baC E v cp t]) (bx2 := fun _ => [coC E (X 0) (X 1) (X 2) (X 3) (X 4) (X 5) (X 6) (X 7) (X 8) w, stC E (X 1) g, stC E (X 2) g2, stC E (X 3) g3, hhC E (X 4) hs hg nx ct, diC E (X 5) co re, grC E (X 6) so gw, prC E (X 7) q F, sbO E (X 8) v ml n, baC E v cp t]) rfl (by decide) (fun _ => rfl) (fun _ => rfl) (by decide) (fun Ex ce q9 ux H locs hw hP hD hS hc1 hc2 hc3 => ?_) (fun r u H locs hw hP hD hS => ?_)
  · skip
    rcases hw with ⟨hE, hq⟩ | ⟨hE, hq⟩
    · skip
      subst hE
      refine vx_catch (own := RL) (name := IAX) hown [] ⟨0, 5, 6, 20⟩ [⟨0, 5, 10, 71⟩] (htab.trans rfl) (fun z hz => absurd hz List.not_mem_nil) rfl (by decide) (hts _ q451) (va_Nw.use rfl (hZ.2.2.1 _ (List.mem_of_getElem? (i := 1) rfl))) hc1 hc2 hc3 ?_
      refine lv_astore_n (lv' := [(2, .ref q9), (0, .ref ((X 0) 0)), (1, .int p0)]) hx hb dL_carriedTone_6 rfl hl (by decide) rfl (fun ls hl => ?_)
      refine lv_bipush (v := -78) hx hb dL_carriedTone_7 (by decide) ?_
      exact hret _ _ (-78 : Int32) (g3, co, re, so, gw, q, F, v, ml, n, cp, t) _ _ _ _ hP hD hS ⟨(if_neg hq).symm, hj⟩ dL_carriedTone_9 (by omega) (by omega)
    · skip
      subst hE
      refine vx_catch (own := RL) (name := NSE) hown [⟨0, 5, 6, 20⟩] ⟨0, 5, 10, 71⟩ [] (htab.trans rfl) (fun z hz => by
          rcases List.mem_cons.mp hz with rfl | hz
          · exact Or.inr ⟨by decide, IAX, hts _ q451, hZ.2.2.2.1 _ (List.mem_of_getElem? (i := 5) rfl)⟩
          · exact absurd hz List.not_mem_nil) rfl (by decide) (hts _ q1255) (va_Nw.use rfl (hZ.2.2.1 _ (List.mem_of_getElem? (i := 5) rfl))) hc1 hc2 hc3 ?_
      refine lv_astore_n (lv' := [(2, .ref q9), (0, .ref ((X 0) 0)), (1, .int p0)]) hx hb dL_carriedTone_10 rfl hl (by decide) rfl (fun ls hl => ?_)
      refine lv_bipush (v := -75) hx hb dL_carriedTone_11 (by decide) ?_
      exact hret _ _ (-75 : Int32) (g3, co, re, so, gw, q, F, v, ml, n, cp, t) _ _ _ _ hP hD hS ⟨((if_pos hq.1).trans (if_neg hq.2)).symm, hj⟩ dL_carriedTone_13 (by omega) (by omega)
  exact hret _ _ r (g3, co, re, so, gw, q, F, v, ml, n, cp, t) _ _ _ _ hP hD hS ⟨(by rw [hw.2]; exact ((if_pos hw.1.1).trans (if_pos hw.1.2)).symm), hj⟩ dL_carriedTone_5 (by omega) (by omega)
abbrev rm_L_smallestMajority : Room := { frames := 7, cells := 1, slots := 6, locals := 145 }
set_option maxHeartbeats 4000000 in
set_option maxRecDepth 100000 in
theorem c_L_smallestMajority (l : Launch) (hst : l.stackTraces = false) (E : EE) (sz : Nat) (X hs : Nat → Nat → Nat) (w : Nat → Nat) (g g2 : GG) (B : Nat) (hI : IB B g) (hg : Nat → GG) (nx ct : Nat) (hnx : nx < 8) (hct : ct ≤ 8) (j : JT) (hj : JV j)  : MW l yL_smallestMajority cL_smallestMajority 2 [(0, 4, 5, 71)] rm_L_smallestMajority [.ref ((X 0) 0)] E sz (OB E X hs w g g2 hg nx ct j) (fun (r : Int32) (u : JT) => r = wsm g ∧ JV u) (fun u => OB E X hs w g g2 hg nx ct u) 1 6 := by
  obtain ⟨g3, co, re, so, gw, q, F, v, ml, n, cp, t⟩ := j
  refine mw_go (by decide) (Nat.le_of_ble_eq_true rfl) ?_
  intro p e s m below meth c A Q ls hx hb hml hown hts hK hZ hDD hA hsz hP hD hl htab hret
  have hS : va_S A s.heap s.heap [] := va_S.rf
  have hP : va_P E.1 vwCl ([coC E (X 0) (X 1) (X 2) (X 3) (X 4) (X 5) (X 6) (X 7) (X 8) w, stC E (X 1) g, stC E (X 2) g2, stC E (X 3) g3, hhC E (X 4) hs hg nx ct, diC E (X 5) co re, grC E (X 6) so gw, prC E (X 7) q F, sbO E (X 8) v ml n, baC E v cp t] : List va_W).flatten s.heap := hP
  have hD : va_D A ([coC E (X 0) (X 1) (X 2) (X 3) (X 4) (X 5) (X 6) (X 7) (X 8) w, stC E (X 1) g, stC E (X 2) g2, stC E (X 3) g3, hhC E (X 4) hs hg nx ct, diC E (X 5) co re, grC E (X 6) so gw, prC E (X 7) q F, sbO E (X 8) v ml n, baC E v cp t] : List va_W).flatten := hD
  have hl : lv_has ls 2 [(0, .ref ((X 0) 0))] := hl
  have hmc := hI.mc
  refine lv_aload_n hx hb dL_smallestMajority_0 rfl (lv_at hl 0 rfl) ?_
  refine run_xi (S := (Nat → Nat) × (Nat → Nat)) (SX := Unit) (run_XV (As := []) (rest := []) (bs := [coC E (X 0) (X 1) (X 2) (X 3) (X 4) (X 5) (X 6) (X 7) (X 8) w, stC E (X 1) g, stC E (X 2) g2, stC E (X 3) g3, hhC E (X 4) hs hg nx ct, diC E (X 5) co re, grC E (X 6) so gw, prC E (X 7) q F, sbO E (X 8) v ml n, baC E v cp t]) (cb := [coC E (X 0) (X 1) (X 2) (X 3) (X 4) (X 5) (X 6) (X 7) (X 8) w, stC E (X 1) g, grC E (X 6) so gw]) hx hb hml hown hts hK hZ hDD hA (c_X5_smallestMajority l hst E _ (X 0) (X 1) (X 2) (X 3) (X 4) (X 5) (X 6) (X 7) (X 8) w g B hI so gw) l_L_109 rfl ⟨⟨rfl, rfl⟩, Nat.le_of_ble_eq_true rfl, Nat.le_of_ble_eq_true rfl⟩ 9 rfl [0, 1, 6] rfl (by decide) rfl hP hD hS hl.1 rfl (Nat.le_of_ble_eq_true rfl) dL_smallestMajority_1 ⟨Nat.le_of_ble_eq_true rfl, Nat.le_of_ble_eq_true rfl⟩) hA hP hD hS (isC := [0, 1, 6]) rfl [2, 3, 4, 5, 7, 8, 9] [7, 8, 0, 1, 2, 3, 9, 4, 5, 6] (br := [stC E (X 2) g2, stC E (X 3) g3, hhC E (X 4) hs hg nx ct, diC E (X 5) co re, prC E (X 7) q F, sbO E (X 8) v ml n, baC E v cp t]) (bs2 := fun u => [coC E (X 0) (X 1) (X 2) (X 3) (X 4) (X 5) (X 6) (X 7) (X 8) w, stC E (X 1) g, stC E (X 2) g2, stC E (X 3) g3, hhC E (X 4) hs hg nx ct, diC E (X 5) co re, grC E (X 6) u.1 u.2, prC E (X 7) q F, sbO E (X 8) v ml n, baC E v cp t]) (bx2 := fun _ => [coC E (X 0) (X 1) (X 2) (X 3) (X 4) (X 5) (X 6) (X 7) (X 8) w, stC E (X 1) g, stC E (X 2) g2, stC E (X 3) g3, hhC E (X 4) hs hg nx ct, diC E (X 5) co re, grC E (X 6) so gw, prC E (X 7) q F, sbO E (X 8) v ml n, baC E v cp t]) rfl (by decide) (fun _ => rfl) (fun _ => rfl) (by decide) (fun Ex ce q9 ux H locs hw hP hD hS hc1 hc2 hc3 => ?_) (fun r u H locs hw hP hD hS => ?_)
  · skip
    obtain ⟨hE, hq⟩ := hw
    subst hE
    refine vx_catch (own := RL) (name := NSE) hown [] ⟨0, 4, 5, 71⟩ [] (htab.trans rfl) (fun z hz => absurd hz List.not_mem_nil) rfl (by decide) (hts _ q1255) (va_Nw.use rfl (hZ.2.2.1 _ (List.mem_of_getElem? (i := 5) rfl))) hc1 hc2 hc3 ?_
    refine lv_astore_n (lv' := [(1, .ref q9), (0, .ref ((X 0) 0))]) hx hb dL_smallestMajority_5 rfl hl (by decide) rfl (fun ls hl => ?_)
    refine lv_bipush (v := -75) hx hb dL_smallestMajority_6 (by decide) ?_
    exact hret _ _ (-75 : Int32) (g3, co, re, so, gw, q, F, v, ml, n, cp, t) _ _ _ _ hP hD hS ⟨(if_pos hq).symm, hj⟩ dL_smallestMajority_8 (by omega) (by omega)
  exact hret _ _ r (g3, co, re, u.1, u.2, q, F, v, ml, n, cp, t) _ _ _ _ hP hD hS ⟨(by rw [hw.2]; exact (if_neg hw.1).symm), hj⟩ dL_smallestMajority_4 (by omega) (by omega)
abbrev rm_L_meanPurse : Room := { frames := 7, cells := 1, slots := 6, locals := 120 }
set_option maxHeartbeats 4000000 in
set_option maxRecDepth 100000 in
theorem c_L_meanPurse (l : Launch) (hst : l.stackTraces = false) (E : EE) (sz : Nat) (X hs : Nat → Nat → Nat) (w : Nat → Nat) (g g2 : GG) (B : Nat) (hI : IB B g) (hg : Nat → GG) (nx ct : Nat) (hnx : nx < 8) (hct : ct ≤ 8) (j : JT) (hj : JV j)  : MWD l yL_meanPurse cL_meanPurse 2 [(0, 4, 5, 119)] rm_L_meanPurse [.ref ((X 0) 0)] E sz (OB E X hs w g g2 hg nx ct j) (fun (r : UInt64) (u : JT) => r = wmp g ∧ JV u) (fun u => OB E X hs w g g2 hg nx ct u) 1 6 := by
  obtain ⟨g3, co, re, so, gw, q, F, v, ml, n, cp, t⟩ := j
  refine mwd_go (by decide) (Nat.le_of_ble_eq_true rfl) ?_
  intro p e s m below meth c A Q ls hx hb hml hown hts hK hZ hDD hA hsz hP hD hl htab hret
  have hS : va_S A s.heap s.heap [] := va_S.rf
  have hP : va_P E.1 vwCl ([coC E (X 0) (X 1) (X 2) (X 3) (X 4) (X 5) (X 6) (X 7) (X 8) w, stC E (X 1) g, stC E (X 2) g2, stC E (X 3) g3, hhC E (X 4) hs hg nx ct, diC E (X 5) co re, grC E (X 6) so gw, prC E (X 7) q F, sbO E (X 8) v ml n, baC E v cp t] : List va_W).flatten s.heap := hP
  have hD : va_D A ([coC E (X 0) (X 1) (X 2) (X 3) (X 4) (X 5) (X 6) (X 7) (X 8) w, stC E (X 1) g, stC E (X 2) g2, stC E (X 3) g3, hhC E (X 4) hs hg nx ct, diC E (X 5) co re, grC E (X 6) so gw, prC E (X 7) q F, sbO E (X 8) v ml n, baC E v cp t] : List va_W).flatten := hD
  have hl : lv_has ls 2 [(0, .ref ((X 0) 0))] := hl
  have hmc := hI.mc
  refine lv_aload_n hx hb dL_meanPurse_0 rfl (lv_at hl 0 rfl) ?_
  refine run_xd (S := Unit) (SX := Unit) (run_XV (As := []) (rest := []) (bs := [coC E (X 0) (X 1) (X 2) (X 3) (X 4) (X 5) (X 6) (X 7) (X 8) w, stC E (X 1) g, stC E (X 2) g2, stC E (X 3) g3, hhC E (X 4) hs hg nx ct, diC E (X 5) co re, grC E (X 6) so gw, prC E (X 7) q F, sbO E (X 8) v ml n, baC E v cp t]) (cb := [coC E (X 0) (X 1) (X 2) (X 3) (X 4) (X 5) (X 6) (X 7) (X 8) w, stC E (X 1) g]) hx hb hml hown hts hK hZ hDD hA (c_X5_meanPurse l hst E _ (X 0) (X 1) (X 2) (X 3) (X 4) (X 5) (X 6) (X 7) (X 8) w g B hI) l_L_115 rfl ⟨⟨rfl, rfl⟩, Nat.le_of_ble_eq_true rfl, Nat.le_of_ble_eq_true rfl⟩ 9 rfl [0, 1] rfl (by decide) rfl hP hD hS hl.1 rfl (Nat.le_of_ble_eq_true rfl) dL_meanPurse_1 ⟨Nat.le_of_ble_eq_true rfl, Nat.le_of_ble_eq_true rfl⟩) hA hP hD hS (isC := [0, 1]) rfl [2, 3, 4, 5, 6, 7, 8, 9] [8, 9, 0, 1, 2, 3, 4, 5, 6, 7] (br := [stC E (X 2) g2, stC E (X 3) g3, hhC E (X 4) hs hg nx ct, diC E (X 5) co re, grC E (X 6) so gw, prC E (X 7) q F, sbO E (X 8) v ml n, baC E v cp t]) (bs2 := fun _ => [coC E (X 0) (X 1) (X 2) (X 3) (X 4) (X 5) (X 6) (X 7) (X 8) w, stC E (X 1) g, stC E (X 2) g2, stC E (X 3) g3, hhC E (X 4) hs hg nx ct, diC E (X 5) co re, grC E (X 6) so gw, prC E (X 7) q F, sbO E (X 8) v ml n, baC E v cp t]) (bx2 := fun _ => [coC E (X 0) (X 1) (X 2) (X 3) (X 4) (X 5) (X 6) (X 7) (X 8) w, stC E (X 1) g, stC E (X 2) g2, stC E (X 3) g3, hhC E (X 4) hs hg nx ct, diC E (X 5) co re, grC E (X 6) so gw, prC E (X 7) q F, sbO E (X 8) v ml n, baC E v cp t]) rfl (by decide) (fun _ => rfl) (fun _ => rfl) (by decide) (fun Ex ce q9 ux H locs hw hP hD hS hc1 hc2 hc3 => ?_) (fun r u H locs hw hP hD hS => ?_)
  · skip
    obtain ⟨hE, hq⟩ := hw
    subst hE
    refine vx_catch (own := RL) (name := AEX) hown [] ⟨0, 4, 5, 119⟩ [] (htab.trans rfl) (fun z hz => absurd hz List.not_mem_nil) rfl (by decide) (hts _ q1350) (va_Nw.use rfl (hZ.2.2.1 _ (List.mem_of_getElem? (i := 6) rfl))) hc1 hc2 hc3 ?_
    refine lv_astore_n (lv' := [(1, .ref q9), (0, .ref ((X 0) 0))]) hx hb dL_meanPurse_5 rfl hl (by decide) rfl (fun ls hl => ?_)
    refine lv_ldc2d (v := (13858279740860792832 : UInt64)) hx hb (own := RL) (index := 121) hown (hts _ qc1370) dL_meanPurse_6 ?_
    exact hret _ _ (13858279740860792832 : UInt64) (g3, co, re, so, gw, q, F, v, ml, n, cp, t) _ _ _ _ hP hD hS ⟨(if_pos hq).symm, hj⟩ dL_meanPurse_9 (by omega) (by omega)
  exact hret _ _ r (g3, co, re, so, gw, q, F, v, ml, n, cp, t) _ _ _ _ hP hD hS ⟨(by rw [hw.2]; exact (if_neg hw.1).symm), hj⟩ dL_meanPurse_4 (by omega) (by omega)
abbrev rm_L_undo : Room := { frames := 7, cells := 1, slots := 6, locals := 182 }
set_option maxHeartbeats 4000000 in
set_option maxRecDepth 100000 in
theorem c_L_undo (l : Launch) (hst : l.stackTraces = false) (E : EE) (sz : Nat) (X hs : Nat → Nat → Nat) (w : Nat → Nat) (g g2 : GG) (B : Nat) (hI : IB B g) (hg : Nat → GG) (nx ct : Nat) (hnx : nx < 8) (hct : ct ≤ 8) (j : JT) (hj : JV j)  : MW l yL_undo cL_undo 2 [(0, 4, 5, 22)] rm_L_undo [.ref ((X 0) 0)] E sz (OB E X hs w g g2 hg nx ct j) (fun (r : Int32) (u : Bool × JT) => u.1 = decide (ct ≠ 0) ∧ r = (if ct = 0 then -79 else nI (ct - 1)) ∧ JV u.2) (fun u => OB E X hs w (gN u.1 (hg ((nx + 8 - 1) % 8)) g) g2 hg (if u.1 = true then (nx + 8 - 1) % 8 else nx) (if u.1 = true then ct - 1 else ct) u.2) 1 6 := by
  obtain ⟨g3, co, re, so, gw, q, F, v, ml, n, cp, t⟩ := j
  refine mw_go (by decide) (Nat.le_of_ble_eq_true rfl) ?_
  intro p e s m below meth c A Q ls hx hb hml hown hts hK hZ hDD hA hsz hP hD hl htab hret
  have hS : va_S A s.heap s.heap [] := va_S.rf
  have hP : va_P E.1 vwCl ([coC E (X 0) (X 1) (X 2) (X 3) (X 4) (X 5) (X 6) (X 7) (X 8) w, stC E (X 1) g, stC E (X 2) g2, stC E (X 3) g3, hhC E (X 4) hs hg nx ct, diC E (X 5) co re, grC E (X 6) so gw, prC E (X 7) q F, sbO E (X 8) v ml n, baC E v cp t] : List va_W).flatten s.heap := hP
  have hD : va_D A ([coC E (X 0) (X 1) (X 2) (X 3) (X 4) (X 5) (X 6) (X 7) (X 8) w, stC E (X 1) g, stC E (X 2) g2, stC E (X 3) g3, hhC E (X 4) hs hg nx ct, diC E (X 5) co re, grC E (X 6) so gw, prC E (X 7) q F, sbO E (X 8) v ml n, baC E v cp t] : List va_W).flatten := hD
  have hl : lv_has ls 2 [(0, .ref ((X 0) 0))] := hl
  have hmc := hI.mc
  refine lv_aload_n hx hb dL_undo_0 rfl (lv_at hl 0 rfl) ?_
  refine run_xi (S := Unit) (SX := Unit) (run_XV (As := []) (rest := []) (bs := [coC E (X 0) (X 1) (X 2) (X 3) (X 4) (X 5) (X 6) (X 7) (X 8) w, stC E (X 1) g, stC E (X 2) g2, stC E (X 3) g3, hhC E (X 4) hs hg nx ct, diC E (X 5) co re, grC E (X 6) so gw, prC E (X 7) q F, sbO E (X 8) v ml n, baC E v cp t]) (cb := [coC E (X 0) (X 1) (X 2) (X 3) (X 4) (X 5) (X 6) (X 7) (X 8) w, hhC E (X 4) hs hg nx ct, stC E (X 1) g]) hx hb hml hown hts hK hZ hDD hA (c_X5_undo l hst E _ (X 0) (X 1) (X 2) (X 3) (X 4) (X 5) (X 6) (X 7) (X 8) w g B hI hs hg nx ct hnx hct) l_L_148 rfl ⟨⟨rfl, rfl⟩, Nat.le_of_ble_eq_true rfl, Nat.le_of_ble_eq_true rfl⟩ 9 rfl [0, 4, 1] rfl (by decide) rfl hP hD hS hl.1 rfl (Nat.le_of_ble_eq_true rfl) dL_undo_1 ⟨Nat.le_of_ble_eq_true rfl, Nat.le_of_ble_eq_true rfl⟩) hA hP hD hS (isC := [0, 4, 1]) rfl [2, 3, 5, 6, 7, 8, 9] [7, 9, 0, 1, 8, 2, 3, 4, 5, 6] (br := [stC E (X 2) g2, stC E (X 3) g3, diC E (X 5) co re, grC E (X 6) so gw, prC E (X 7) q F, sbO E (X 8) v ml n, baC E v cp t]) (bs2 := fun _ => [coC E (X 0) (X 1) (X 2) (X 3) (X 4) (X 5) (X 6) (X 7) (X 8) w, stC E (X 1) (hg ((nx + 8 - 1) % 8)), stC E (X 2) g2, stC E (X 3) g3, hhC E (X 4) hs hg ((nx + 8 - 1) % 8) (ct - 1), diC E (X 5) co re, grC E (X 6) so gw, prC E (X 7) q F, sbO E (X 8) v ml n, baC E v cp t]) (bx2 := fun _ => [coC E (X 0) (X 1) (X 2) (X 3) (X 4) (X 5) (X 6) (X 7) (X 8) w, stC E (X 1) g, stC E (X 2) g2, stC E (X 3) g3, hhC E (X 4) hs hg nx ct, diC E (X 5) co re, grC E (X 6) so gw, prC E (X 7) q F, sbO E (X 8) v ml n, baC E v cp t]) rfl (by decide) (fun _ => rfl) (fun _ => rfl) (by decide) (fun Ex ce q9 ux H locs hw hP hD hS hc1 hc2 hc3 => ?_) (fun r u H locs hw hP hD hS => ?_)
  · skip
    obtain ⟨hE, hq⟩ := hw
    subst hE
    refine vx_catch (own := RL) (name := ISX) hown [] ⟨0, 4, 5, 22⟩ [] (htab.trans rfl) (fun z hz => absurd hz List.not_mem_nil) rfl (by decide) (hts _ q603) (va_Nw.use rfl (hZ.2.2.1 _ (List.mem_of_getElem? (i := 2) rfl))) hc1 hc2 hc3 ?_
    refine lv_astore_n (lv' := [(1, .ref q9), (0, .ref ((X 0) 0))]) hx hb dL_undo_5 rfl hl (by decide) rfl (fun ls hl => ?_)
    refine lv_bipush (v := -79) hx hb dL_undo_6 (by decide) ?_
    exact hret _ _ (-79 : Int32) (false, (g3, co, re, so, gw, q, F, v, ml, n, cp, t)) _ _ _ _ hP hD hS ⟨(decide_eq_false (by omega)).symm, (if_pos hq).symm, hj⟩ dL_undo_8 (by omega) (by omega)
  exact hret _ _ r (true, (g3, co, re, so, gw, q, F, v, ml, n, cp, t)) _ _ _ _ hP hD hS ⟨(decide_eq_true hw.1).symm, (by rw [hw.2]; exact (if_neg hw.1).symm), hj⟩ dL_undo_4 (by omega) (by omega)
abbrev rm_L_restore : Room := { frames := 7, cells := 1, slots := 6, locals := 161 }
set_option maxHeartbeats 4000000 in
set_option maxRecDepth 100000 in
theorem c_L_restore (l : Launch) (hst : l.stackTraces = false) (E : EE) (sz : Nat) (X hs : Nat → Nat → Nat) (w : Nat → Nat) (g g2 : GG) (B : Nat) (hI : IB B g) (hg : Nat → GG) (nx ct : Nat) (hnx : nx < 8) (hct : ct ≤ 8) (j : JT) (hj : JV j) (hw0 : w 0 ≤ 1)  : MW l yL_restore cL_restore 2 [(0, 5, 6, 22)] rm_L_restore [.ref ((X 0) 0)] E sz (OB E X hs w g g2 hg nx ct j) (fun (r : Int32) (u : Bool × JT) => u.1 = decide (w 0 ≠ 0) ∧ r = (if w 0 = 0 then -79 else nI 0) ∧ JV u.2) (fun u => OB E X hs w (gN u.1 g2 g) g2 hg nx (if u.1 = true then 0 else ct) u.2) 1 6 := by
  obtain ⟨g3, co, re, so, gw, q, F, v, ml, n, cp, t⟩ := j
  refine mw_go (by decide) (Nat.le_of_ble_eq_true rfl) ?_
  intro p e s m below meth c A Q ls hx hb hml hown hts hK hZ hDD hA hsz hP hD hl htab hret
  have hS : va_S A s.heap s.heap [] := va_S.rf
  have hP : va_P E.1 vwCl ([coC E (X 0) (X 1) (X 2) (X 3) (X 4) (X 5) (X 6) (X 7) (X 8) w, stC E (X 1) g, stC E (X 2) g2, stC E (X 3) g3, hhC E (X 4) hs hg nx ct, diC E (X 5) co re, grC E (X 6) so gw, prC E (X 7) q F, sbO E (X 8) v ml n, baC E v cp t] : List va_W).flatten s.heap := hP
  have hD : va_D A ([coC E (X 0) (X 1) (X 2) (X 3) (X 4) (X 5) (X 6) (X 7) (X 8) w, stC E (X 1) g, stC E (X 2) g2, stC E (X 3) g3, hhC E (X 4) hs hg nx ct, diC E (X 5) co re, grC E (X 6) so gw, prC E (X 7) q F, sbO E (X 8) v ml n, baC E v cp t] : List va_W).flatten := hD
  have hl : lv_has ls 2 [(0, .ref ((X 0) 0))] := hl
  have hmc := hI.mc
  refine lv_aload_n hx hb dL_restore_0 rfl (lv_at hl 0 rfl) ?_
  refine run_xv (S := Unit) (SX := Unit) (run_XV (As := []) (rest := []) (bs := [coC E (X 0) (X 1) (X 2) (X 3) (X 4) (X 5) (X 6) (X 7) (X 8) w, stC E (X 1) g, stC E (X 2) g2, stC E (X 3) g3, hhC E (X 4) hs hg nx ct, diC E (X 5) co re, grC E (X 6) so gw, prC E (X 7) q F, sbO E (X 8) v ml n, baC E v cp t]) (cb := [coC E (X 0) (X 1) (X 2) (X 3) (X 4) (X 5) (X 6) (X 7) (X 8) w, hhC E (X 4) hs hg nx ct, stC E (X 1) g, stC E (X 2) g2]) hx hb hml hown hts hK hZ hDD hA (c_X5_restore l hst E _ (X 0) (X 1) (X 2) (X 3) (X 4) (X 5) (X 6) (X 7) (X 8) w hs hg nx ct hnx hct g g2 hw0) l_L_151 rfl ⟨⟨rfl, rfl⟩, Nat.le_of_ble_eq_true rfl, Nat.le_of_ble_eq_true rfl⟩ 9 rfl [0, 4, 1, 2] rfl (by decide) rfl hP hD hS hl.1 rfl (Nat.le_of_ble_eq_true rfl) dL_restore_1 ⟨Nat.le_of_ble_eq_true rfl, Nat.le_of_ble_eq_true rfl⟩) hA hP hD hS (isC := [0, 4, 1, 2]) rfl [3, 5, 6, 7, 8, 9] [6, 8, 9, 0, 7, 1, 2, 3, 4, 5] (br := [stC E (X 3) g3, diC E (X 5) co re, grC E (X 6) so gw, prC E (X 7) q F, sbO E (X 8) v ml n, baC E v cp t]) (bs2 := fun _ => [coC E (X 0) (X 1) (X 2) (X 3) (X 4) (X 5) (X 6) (X 7) (X 8) w, stC E (X 1) g2, stC E (X 2) g2, stC E (X 3) g3, hhC E (X 4) hs hg nx 0, diC E (X 5) co re, grC E (X 6) so gw, prC E (X 7) q F, sbO E (X 8) v ml n, baC E v cp t]) (bx2 := fun _ => [coC E (X 0) (X 1) (X 2) (X 3) (X 4) (X 5) (X 6) (X 7) (X 8) w, stC E (X 1) g, stC E (X 2) g2, stC E (X 3) g3, hhC E (X 4) hs hg nx ct, diC E (X 5) co re, grC E (X 6) so gw, prC E (X 7) q F, sbO E (X 8) v ml n, baC E v cp t]) rfl (by decide) (fun _ => rfl) (fun _ => rfl) (by decide) (fun Ex ce q9 ux H locs hw hP hD hS hc1 hc2 hc3 => ?_) (fun u H locs hw hP hD hS => ?_)
  · skip
    obtain ⟨hE, hq⟩ := hw
    subst hE
    refine vx_catch (own := RL) (name := ISX) hown [] ⟨0, 5, 6, 22⟩ [] (htab.trans rfl) (fun z hz => absurd hz List.not_mem_nil) rfl (by decide) (hts _ q603) (va_Nw.use rfl (hZ.2.2.1 _ (List.mem_of_getElem? (i := 2) rfl))) hc1 hc2 hc3 ?_
    refine lv_astore_n (lv' := [(1, .ref q9), (0, .ref ((X 0) 0))]) hx hb dL_restore_6 rfl hl (by decide) rfl (fun ls hl => ?_)
    refine lv_bipush (v := -79) hx hb dL_restore_7 (by decide) ?_
    exact hret _ _ (-79 : Int32) (false, (g3, co, re, so, gw, q, F, v, ml, n, cp, t)) _ _ _ _ hP hD hS ⟨(decide_eq_false (by omega)).symm, (if_pos hq).symm, hj⟩ dL_restore_9 (by omega) (by omega)
  refine lv_iconst (v := nI 0) hx hb dL_restore_4 (by decide) ?_
  exact hret _ _ (nI 0) (true, (g3, co, re, so, gw, q, F, v, ml, n, cp, t)) _ _ _ _ hP hD hS ⟨(decide_eq_true hw).symm, (if_neg hw).symm, hj⟩ dL_restore_5 (by omega) (by omega)
