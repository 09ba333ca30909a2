abbrev rm_L_addMember : Room := { frames := 8, cells := 1, slots := 6, locals := 186 }
set_option maxHeartbeats 4000000 in
set_option maxRecDepth 100000 in
theorem c_L_addMember (l : Launch) (hst : l.stackTraces = false) (E : EE) (sz : Nat) (x a a2 a3 b d k pa y w : Nat → Nat) (g : GG) (B : Nat) (hI : IB B g) (hs : Nat → Nat → Nat) (hg : Nat → GG) (nx ct : Nat) (hnx : nx < 8) (hct : ct ≤ 8) (p0 p1 p2 p3 : Int32) (ol : Nat) (lo : Nat → Int64) : MW l yL_addMember cL_addMember 7 [(0, 14, 17, 13), (0, 14, 21, 15)] rm_L_addMember [.ref (x 0), .int p0, .int p1, .int p2, .int p3, .ref ol] E sz [loC E ol lo, coC E x a a2 a3 b d k pa y w, hhC E b hs hg nx ct, stC E a g] (fun (r : Int32) (u : (Unit × Int32 × (Nat → Int64)) ⊕ Unit) => Sum.elim (fun (vq : Unit × Int32 × (Nat → Int64)) => r = nI 0 ∧ (fJoin g p0 p1 p2 p3 = 0 ∧ vq.2.1 = nI (g 8 0)) ∧ vq.2.2 0 = vq.2.1.toInt64) (fun (vq : Unit) => fJoin g p0 p1 p2 p3 ≠ 0 ∧ r = nI (fJoin g p0 p1 p2 p3 - 1)) u) (fun u => Sum.elim (fun (vq : Unit × Int32 × (Nat → Int64)) => [loC E ol vq.2.2, coC E x a a2 a3 b d k pa y w, hhC E b hs (upa hg nx g) ((nx + 1) % 8) (if 8 < ct + 1 then 8 else ct + 1), stC E a (joinG g (tn p0) (tn p1) (tn p2) (tn p3))]) (fun (vq : Unit) => [loC E ol lo, coC E x a a2 a3 b d k pa y w, hhC E b hs hg nx ct, stC E a g]) u) 1 6 := by
  refine mw_go (by decide) (Nat.le_of_ble_eq_true rfl) ?_
  intro p e s m below meth c A Q ls hx hb hml hown hts hK hZ hDD hA hsz hP hD hl htab hret
  have hS : va_S A s.heap s.heap [] := va_S.rf
  have hl : lv_has ls 7 [(0, .ref (x 0)), (1, .int p0), (2, .int p1), (3, .int p2), (4, .int p3), (5, .ref ol)] := hl
  refine lv_aload hx hb dL_addMember_0 (lv_at hl 5 rfl) ?_
  refine lv_iconst (v := nI 0) hx hb dL_addMember_2 (by decide) ?_
  refine lv_aload_n hx hb dL_addMember_3 rfl (lv_at hl 0 rfl) ?_
  refine lv_iload_n hx hb dL_addMember_4 rfl (lv_at hl 1 rfl) ?_
  refine lv_iload_n hx hb dL_addMember_5 rfl (lv_at hl 2 rfl) ?_
  refine lv_iload_n hx hb dL_addMember_6 rfl (lv_at hl 3 rfl) ?_
  refine lv_iload hx hb dL_addMember_7 (lv_at hl 4 rfl) ?_
  refine run_xi (S := Unit) (SX := Unit) (run_XV (As := [.int p0, .int p1, .int p2, .int p3]) (rest := [.int (nI 0), .ref ol]) (bs := [loC E ol lo, coC E x a a2 a3 b d k pa y w, hhC E b hs hg nx ct, stC E a g]) (cb := [coC E x a a2 a3 b d k pa y w, hhC E b hs hg nx ct, stC E a g]) hx hb hml hown hts hK hZ hDD hA (c_X5_addMember l hst E _ x a a2 a3 b d k pa y w g B hI hs hg nx ct hnx hct p0 p1 p2 p3) l_L_7 rfl ⟨⟨rfl, rfl⟩, Nat.le_of_ble_eq_true rfl, Nat.le_of_ble_eq_true rfl⟩ 9 rfl [1, 2, 3] rfl (by decide) rfl hP hD hS hl.1 rfl (Nat.le_of_ble_eq_true rfl) dL_addMember_9 ⟨Nat.le_of_ble_eq_true rfl, Nat.le_of_ble_eq_true rfl⟩) hA hP hD hS (isC := [1, 2, 3]) rfl [0] [0, 1, 2, 3] (br := [loC E ol lo]) (bs2 := fun _ => [loC E ol lo, coC E x a a2 a3 b d k pa y w, hhC E b hs (upa hg nx g) ((nx + 1) % 8) (if 8 < ct + 1 then 8 else ct + 1), stC E a (joinG g (tn p0) (tn p1) (tn p2) (tn p3))]) (bx2 := fun _ => [loC E ol lo, coC E x a a2 a3 b d k pa y w, hhC E b hs hg nx ct, stC E a g]) rfl (by decide) (fun _ => rfl) (fun _ => rfl) (by decide) (fun Ex ce q9 ux H locs hw hP hD hS hc1 hc2 hc3 => ?_) (fun r u H locs hw hP hD hS => ?_)
  · skip
    obtain ⟨hf, hE⟩ := hw
    rcases (fJ_v : fJoin g p0 p1 p2 p3 = 0 ∨ fJoin g p0 p1 p2 p3 = 2 ∨ fJoin g p0 p1 p2 p3 = 3) with hv | hv | hv
    · exact absurd hv hf
    · skip
      rw [hv] at hE
      have hE : Ex = IAX := hE
      subst hE
      refine vx_catch (own := RL) (name := IAX) hown [] ⟨0, 14, 17, 13⟩ [⟨0, 14, 21, 15⟩] (htab.trans rfl) (fun z hz => absurd hz List.not_mem_nil) rfl (by decide) (hts _ q464) (va_Nw.use rfl (hZ.2.2.1 _ (List.mem_of_getElem? (i := 1) rfl))) hc1 hc2 hc3 ?_
      refine lv_astore (lv' := [(6, .ref q9), (0, .ref (x 0)), (1, .int p0), (2, .int p1), (3, .int p2), (4, .int p3), (5, .ref ol)]) hx hb dL_addMember_17 hl (by decide) rfl (fun ls hl => ?_)
      refine lv_iconst (v := nI 1) hx hb dL_addMember_19 (by decide) ?_
      exact hret _ _ (nI 1) (.inr ()) _ _ _ _ hP hD hS ⟨hf, by rw [hv]⟩ dL_addMember_20 (by omega) (by omega)
    · skip
      rw [hv] at hE
      have hE : Ex = ISX := hE
      subst hE
      refine vx_catch (own := RL) (name := ISX) hown [⟨0, 14, 17, 13⟩] ⟨0, 14, 21, 15⟩ [] (htab.trans rfl) (fun z hz => by
          rcases List.mem_cons.mp hz with rfl | hz
          · exact Or.inr ⟨by decide, IAX, hts _ q464, hZ.2.2.2.1 _ (List.mem_of_getElem? (i := 2) rfl)⟩
          · exact absurd hz List.not_mem_nil) rfl (by decide) (hts _ q465) (va_Nw.use rfl (hZ.2.2.1 _ (List.mem_of_getElem? (i := 2) rfl))) hc1 hc2 hc3 ?_
      refine lv_astore (lv' := [(6, .ref q9), (0, .ref (x 0)), (1, .int p0), (2, .int p1), (3, .int p2), (4, .int p3), (5, .ref ol)]) hx hb dL_addMember_21 hl (by decide) rfl (fun ls hl => ?_)
      refine lv_iconst (v := nI 2) hx hb dL_addMember_23 (by decide) ?_
      exact hret _ _ (nI 2) (.inr ()) _ _ _ _ hP hD hS ⟨hf, by rw [hv]⟩ dL_addMember_24 (by omega) (by omega)
  refine lv_i2l hx hb dL_addMember_12 rfl ?_
  refine va_last hx hb hK hP hD hS 0 4 rfl rfl (vp_in_nI (show 0 < 1 by decide) (by decide)) dL_addMember_13 (fun H locs hP hD hS => ?_)
  rw [nI_clamp (show 0 < 2 ^ 31 by decide)] at hP hD
  have hP : va_P E.1 vwCl ([loC E ol (vp_updL lo 0 r.toInt64), coC E x a a2 a3 b d k pa y w, hhC E b hs (upa hg nx g) ((nx + 1) % 8) (if 8 < ct + 1 then 8 else ct + 1), stC E a (joinG g (tn p0) (tn p1) (tn p2) (tn p3))] : List va_W).flatten H := hP
  have hD : va_D A ([loC E ol (vp_updL lo 0 r.toInt64), coC E x a a2 a3 b d k pa y w, hhC E b hs (upa hg nx g) ((nx + 1) % 8) (if 8 < ct + 1 then 8 else ct + 1), stC E a (joinG g (tn p0) (tn p1) (tn p2) (tn p3))] : List va_W).flatten := hD
  refine lv_goto (tgt := 25) hx hb dL_addMember_14 (by decide) ?_
  refine lv_iconst (v := nI 0) hx hb dL_addMember_25 (by decide) ?_
  exact hret _ _ (nI 0) (.inl ((), r, (vp_updL lo 0 r.toInt64))) _ _ _ _ hP hD hS ⟨rfl, hw, rfl⟩ dL_addMember_26 (by omega) (by omega)
abbrev rm_L_wind : Room := { frames := 8, cells := 1, slots := 6, locals := 184 }
set_option maxHeartbeats 4000000 in
set_option maxRecDepth 100000 in
theorem c_L_wind (l : Launch) (hst : l.stackTraces = false) (E : EE) (sz : Nat) (x a a2 a3 b d k pa y w : Nat → Nat) (g : GG) (B : Nat) (hI : IB B g) (hs : Nat → Nat → Nat) (hg : Nat → GG) (nx ct : Nat) (hnx : nx < 8) (hct : ct ≤ 8) (p0 p1 : Int32) (ol : Nat) (lo : Nat → Int64) : MW l yL_wind cL_wind 5 [(0, 10, 13, 21), (0, 10, 17, 13), (0, 10, 21, 15)] rm_L_wind [.ref (x 0), .int p0, .int p1, .ref ol] E sz [loC E ol lo, coC E x a a2 a3 b d k pa y w, hhC E b hs hg nx ct, stC E a g] (fun (r : Int32) (u : (Unit × Int32 × (Nat → Int64)) ⊕ Unit) => Sum.elim (fun (vq : Unit × Int32 × (Nat → Int64)) => r = nI 0 ∧ (fWind g p0 p1 = 0 ∧ vq.2.1 = nI (g 4 (tn p0) + tn p1)) ∧ vq.2.2 0 = vq.2.1.toInt64) (fun (vq : Unit) => fWind g p0 p1 ≠ 0 ∧ r = nI (fWind g p0 p1 - 0)) u) (fun u => Sum.elim (fun (vq : Unit × Int32 × (Nat → Int64)) => [loC E ol vq.2.2, coC E x a a2 a3 b d k pa y w, hhC E b hs (upa hg nx g) ((nx + 1) % 8) (if 8 < ct + 1 then 8 else ct + 1), stC E a (windG g (tn p0) (tn p1))]) (fun (vq : Unit) => [loC E ol lo, coC E x a a2 a3 b d k pa y w, hhC E b hs hg nx ct, stC E a g]) u) 1 6 := by
  refine mw_go (by decide) (Nat.le_of_ble_eq_true rfl) ?_
  intro p e s m below meth c A Q ls hx hb hml hown hts hK hZ hDD hA hsz hP hD hl htab hret
  have hS : va_S A s.heap s.heap [] := va_S.rf
  have hl : lv_has ls 5 [(0, .ref (x 0)), (1, .int p0), (2, .int p1), (3, .ref ol)] := hl
  refine lv_aload_n hx hb dL_wind_0 rfl (lv_at hl 3 rfl) ?_
  refine lv_iconst (v := nI 0) hx hb dL_wind_1 (by decide) ?_
  refine lv_aload_n hx hb dL_wind_2 rfl (lv_at hl 0 rfl) ?_
  refine lv_iload_n hx hb dL_wind_3 rfl (lv_at hl 1 rfl) ?_
  refine lv_iload_n hx hb dL_wind_4 rfl (lv_at hl 2 rfl) ?_
  refine run_xi (S := Unit) (SX := Unit) (run_XV (As := [.int p0, .int p1]) (rest := [.int (nI 0), .ref ol]) (bs := [loC E ol lo, coC E x a a2 a3 b d k pa y w, hhC E b hs hg nx ct, stC E a g]) (cb := [coC E x a a2 a3 b d k pa y w, hhC E b hs hg nx ct, stC E a g]) hx hb hml hown hts hK hZ hDD hA (c_X5_wind l hst E _ x a a2 a3 b d k pa y w g B hI hs hg nx ct hnx hct p0 p1) l_L_17 rfl ⟨⟨rfl, rfl⟩, Nat.le_of_ble_eq_true rfl, Nat.le_of_ble_eq_true rfl⟩ 9 rfl [1, 2, 3] rfl (by decide) rfl hP hD hS hl.1 rfl (Nat.le_of_ble_eq_true rfl) dL_wind_5 ⟨Nat.le_of_ble_eq_true rfl, Nat.le_of_ble_eq_true rfl⟩) hA hP hD hS (isC := [1, 2, 3]) rfl [0] [0, 1, 2, 3] (br := [loC E ol lo]) (bs2 := fun _ => [loC E ol lo, coC E x a a2 a3 b d k pa y w, hhC E b hs (upa hg nx g) ((nx + 1) % 8) (if 8 < ct + 1 then 8 else ct + 1), stC E a (windG g (tn p0) (tn p1))]) (bx2 := fun _ => [loC E ol lo, coC E x a a2 a3 b d k pa y w, hhC E b hs hg nx ct, stC E a g]) rfl (by decide) (fun _ => rfl) (fun _ => rfl) (by decide) (fun Ex ce q9 ux H locs hw hP hD hS hc1 hc2 hc3 => ?_) (fun r u H locs hw hP hD hS => ?_)
  · skip
    obtain ⟨hf, hE⟩ := hw
    rcases (fW_v : fWind g p0 p1 = 0 ∨ fWind g p0 p1 = 1 ∨ fWind g p0 p1 = 2 ∨ fWind g p0 p1 = 3) with hv | hv | hv | hv
    · exact absurd hv hf
    · skip
      rw [hv] at hE
      have hE : Ex = IOX := hE
      subst hE
      refine vx_catch (own := RL) (name := IOX) hown [] ⟨0, 10, 13, 21⟩ [⟨0, 10, 17, 13⟩, ⟨0, 10, 21, 15⟩] (htab.trans rfl) (fun z hz => absurd hz List.not_mem_nil) rfl (by decide) (hts _ q615) (va_Nw.use rfl (hZ.2.2.1 _ (List.mem_of_getElem? (i := 0) rfl))) hc1 hc2 hc3 ?_
      refine lv_astore (lv' := [(4, .ref q9), (0, .ref (x 0)), (1, .int p0), (2, .int p1), (3, .ref ol)]) hx hb dL_wind_13 hl (by decide) rfl (fun ls hl => ?_)
      refine lv_iconst (v := nI 1) hx hb dL_wind_15 (by decide) ?_
      exact hret _ _ (nI 1) (.inr ()) _ _ _ _ hP hD hS ⟨hf, by rw [hv]⟩ dL_wind_16 (by omega) (by omega)
    · skip
      rw [hv] at hE
      have hE : Ex = IAX := hE
      subst hE
      refine vx_catch (own := RL) (name := IAX) hown [⟨0, 10, 13, 21⟩] ⟨0, 10, 17, 13⟩ [⟨0, 10, 21, 15⟩] (htab.trans rfl) (fun z hz => by
          rcases List.mem_cons.mp hz with rfl | hz
          · exact Or.inr ⟨by decide, IOX, hts _ q615, hZ.2.2.2.1 _ (List.mem_of_getElem? (i := 19) rfl)⟩
          · exact absurd hz List.not_mem_nil) rfl (by decide) (hts _ q464) (va_Nw.use rfl (hZ.2.2.1 _ (List.mem_of_getElem? (i := 1) rfl))) hc1 hc2 hc3 ?_
      refine lv_astore (lv' := [(4, .ref q9), (0, .ref (x 0)), (1, .int p0), (2, .int p1), (3, .ref ol)]) hx hb dL_wind_17 hl (by decide) rfl (fun ls hl => ?_)
      refine lv_iconst (v := nI 2) hx hb dL_wind_19 (by decide) ?_
      exact hret _ _ (nI 2) (.inr ()) _ _ _ _ hP hD hS ⟨hf, by rw [hv]⟩ dL_wind_20 (by omega) (by omega)
    · skip
      rw [hv] at hE
      have hE : Ex = ISX := hE
      subst hE
      refine vx_catch (own := RL) (name := ISX) hown [⟨0, 10, 13, 21⟩, ⟨0, 10, 17, 13⟩] ⟨0, 10, 21, 15⟩ [] (htab.trans rfl) (fun z hz => by
          rcases List.mem_cons.mp hz with rfl | hz
          · exact Or.inr ⟨by decide, IOX, hts _ q615, hZ.2.2.2.1 _ (List.mem_of_getElem? (i := 20) rfl)⟩
          · rcases List.mem_cons.mp hz with rfl | hz
            · exact Or.inr ⟨by decide, IAX, hts _ q464, hZ.2.2.2.1 _ (List.mem_of_getElem? (i := 2) rfl)⟩
            · exact absurd hz List.not_mem_nil) rfl (by decide) (hts _ q465) (va_Nw.use rfl (hZ.2.2.1 _ (List.mem_of_getElem? (i := 2) rfl))) hc1 hc2 hc3 ?_
      refine lv_astore (lv' := [(4, .ref q9), (0, .ref (x 0)), (1, .int p0), (2, .int p1), (3, .ref ol)]) hx hb dL_wind_21 hl (by decide) rfl (fun ls hl => ?_)
      refine lv_iconst (v := nI 3) hx hb dL_wind_23 (by decide) ?_
      exact hret _ _ (nI 3) (.inr ()) _ _ _ _ hP hD hS ⟨hf, by rw [hv]⟩ dL_wind_24 (by omega) (by omega)
  refine lv_i2l hx hb dL_wind_8 rfl ?_
  refine va_last hx hb hK hP hD hS 0 4 rfl rfl (vp_in_nI (show 0 < 1 by decide) (by decide)) dL_wind_9 (fun H locs hP hD hS => ?_)
  rw [nI_clamp (show 0 < 2 ^ 31 by decide)] at hP hD
  have hP : va_P E.1 vwCl ([loC E ol (vp_updL lo 0 r.toInt64), coC E x a a2 a3 b d k pa y w, hhC E b hs (upa hg nx g) ((nx + 1) % 8) (if 8 < ct + 1 then 8 else ct + 1), stC E a (windG g (tn p0) (tn p1))] : List va_W).flatten H := hP
  have hD : va_D A ([loC E ol (vp_updL lo 0 r.toInt64), coC E x a a2 a3 b d k pa y w, hhC E b hs (upa hg nx g) ((nx + 1) % 8) (if 8 < ct + 1 then 8 else ct + 1), stC E a (windG g (tn p0) (tn p1))] : List va_W).flatten := hD
  refine lv_goto (tgt := 25) hx hb dL_wind_10 (by decide) ?_
  refine lv_iconst (v := nI 0) hx hb dL_wind_25 (by decide) ?_
  exact hret _ _ (nI 0) (.inl ((), r, (vp_updL lo 0 r.toInt64))) _ _ _ _ hP hD hS ⟨rfl, hw, rfl⟩ dL_wind_26 (by omega) (by omega)
abbrev rm_L_tune : Room := { frames := 8, cells := 1, slots := 6, locals := 184 }
set_option maxHeartbeats 4000000 in
set_option maxRecDepth 100000 in
theorem c_L_tune (l : Launch) (hst : l.stackTraces = false) (E : EE) (sz : Nat) (x a a2 a3 b d k pa y w : Nat → Nat) (g : GG) (B : Nat) (hI : IB B g) (hs : Nat → Nat → Nat) (hg : Nat → GG) (nx ct : Nat) (hnx : nx < 8) (hct : ct ≤ 8) (p0 p1 : Int32) (ol : Nat) (lo : Nat → Int64) : MW l yL_tune cL_tune 5 [(0, 10, 13, 21), (0, 10, 17, 13)] rm_L_tune [.ref (x 0), .int p0, .int p1, .ref ol] E sz [loC E ol lo, coC E x a a2 a3 b d k pa y w, hhC E b hs hg nx ct, stC E a g] (fun (r : Int32) (u : (Unit × Int32 × (Nat → Int64)) ⊕ Unit) => Sum.elim (fun (vq : Unit × Int32 × (Nat → Int64)) => r = nI 0 ∧ (fTune g p0 p1 = 0 ∧ vq.2.1 = nI (g 3 (tn p0))) ∧ vq.2.2 0 = vq.2.1.toInt64) (fun (vq : Unit) => fTune g p0 p1 ≠ 0 ∧ r = nI (fTune g p0 p1 - 0)) u) (fun u => Sum.elim (fun (vq : Unit × Int32 × (Nat → Int64)) => [loC E ol vq.2.2, coC E x a a2 a3 b d k pa y w, hhC E b hs (upa hg nx g) ((nx + 1) % 8) (if 8 < ct + 1 then 8 else ct + 1), stC E a (up2 g 3 (tn p0) (tn p1))]) (fun (vq : Unit) => [loC E ol lo, coC E x a a2 a3 b d k pa y w, hhC E b hs hg nx ct, stC E a g]) u) 1 6 := by
  refine mw_go (by decide) (Nat.le_of_ble_eq_true rfl) ?_
  intro p e s m below meth c A Q ls hx hb hml hown hts hK hZ hDD hA hsz hP hD hl htab hret
  have hS : va_S A s.heap s.heap [] := va_S.rf
  have hl : lv_has ls 5 [(0, .ref (x 0)), (1, .int p0), (2, .int p1), (3, .ref ol)] := hl
  refine lv_aload_n hx hb dL_tune_0 rfl (lv_at hl 3 rfl) ?_
  refine lv_iconst (v := nI 0) hx hb dL_tune_1 (by decide) ?_
  refine lv_aload_n hx hb dL_tune_2 rfl (lv_at hl 0 rfl) ?_
  refine lv_iload_n hx hb dL_tune_3 rfl (lv_at hl 1 rfl) ?_
  refine lv_iload_n hx hb dL_tune_4 rfl (lv_at hl 2 rfl) ?_
  refine run_xi (S := Unit) (SX := Unit) (run_XV (As := [.int p0, .int p1]) (rest := [.int (nI 0), .ref ol]) (bs := [loC E ol lo, coC E x a a2 a3 b d k pa y w, hhC E b hs hg nx ct, stC E a g]) (cb := [coC E x a a2 a3 b d k pa y w, hhC E b hs hg nx ct, stC E a g]) hx hb hml hown hts hK hZ hDD hA (c_X5_tune l hst E _ x a a2 a3 b d k pa y w g B hI hs hg nx ct hnx hct p0 p1) l_L_23 rfl ⟨⟨rfl, rfl⟩, Nat.le_of_ble_eq_true rfl, Nat.le_of_ble_eq_true rfl⟩ 9 rfl [1, 2, 3] rfl (by decide) rfl hP hD hS hl.1 rfl (Nat.le_of_ble_eq_true rfl) dL_tune_5 ⟨Nat.le_of_ble_eq_true rfl, Nat.le_of_ble_eq_true rfl⟩) hA hP hD hS (isC := [1, 2, 3]) rfl [0] [0, 1, 2, 3] (br := [loC E ol lo]) (bs2 := fun _ => [loC E ol lo, coC E x a a2 a3 b d k pa y w, hhC E b hs (upa hg nx g) ((nx + 1) % 8) (if 8 < ct + 1 then 8 else ct + 1), stC E a (up2 g 3 (tn p0) (tn p1))]) (bx2 := fun _ => [loC E ol lo, coC E x a a2 a3 b d k pa y w, hhC E b hs hg nx ct, stC E a g]) rfl (by decide) (fun _ => rfl) (fun _ => rfl) (by decide) (fun Ex ce q9 ux H locs hw hP hD hS hc1 hc2 hc3 => ?_) (fun r u H locs hw hP hD hS => ?_)
  · skip
    obtain ⟨hf, hE⟩ := hw
    rcases (fT_v : fTune g p0 p1 = 0 ∨ fTune g p0 p1 = 1 ∨ fTune g p0 p1 = 2) with hv | hv | hv
    · exact absurd hv hf
    · skip
      rw [hv] at hE
      have hE : Ex = IOX := hE
      subst hE
      refine vx_catch (own := RL) (name := IOX) hown [] ⟨0, 10, 13, 21⟩ [⟨0, 10, 17, 13⟩] (htab.trans rfl) (fun z hz => absurd hz List.not_mem_nil) rfl (by decide) (hts _ q615) (va_Nw.use rfl (hZ.2.2.1 _ (List.mem_of_getElem? (i := 0) rfl))) hc1 hc2 hc3 ?_
      refine lv_astore (lv' := [(4, .ref q9), (0, .ref (x 0)), (1, .int p0), (2, .int p1), (3, .ref ol)]) hx hb dL_tune_13 hl (by decide) rfl (fun ls hl => ?_)
      refine lv_iconst (v := nI 1) hx hb dL_tune_15 (by decide) ?_
      exact hret _ _ (nI 1) (.inr ()) _ _ _ _ hP hD hS ⟨hf, by rw [hv]⟩ dL_tune_16 (by omega) (by omega)
    · skip
      rw [hv] at hE
      have hE : Ex = IAX := hE
      subst hE
      refine vx_catch (own := RL) (name := IAX) hown [⟨0, 10, 13, 21⟩] ⟨0, 10, 17, 13⟩ [] (htab.trans rfl) (fun z hz => by
          rcases List.mem_cons.mp hz with rfl | hz
          · exact Or.inr ⟨by decide, IOX, hts _ q615, hZ.2.2.2.1 _ (List.mem_of_getElem? (i := 19) rfl)⟩
          · exact absurd hz List.not_mem_nil) rfl (by decide) (hts _ q464) (va_Nw.use rfl (hZ.2.2.1 _ (List.mem_of_getElem? (i := 1) rfl))) hc1 hc2 hc3 ?_
      refine lv_astore (lv' := [(4, .ref q9), (0, .ref (x 0)), (1, .int p0), (2, .int p1), (3, .ref ol)]) hx hb dL_tune_17 hl (by decide) rfl (fun ls hl => ?_)
      refine lv_iconst (v := nI 2) hx hb dL_tune_19 (by decide) ?_
      exact hret _ _ (nI 2) (.inr ()) _ _ _ _ hP hD hS ⟨hf, by rw [hv]⟩ dL_tune_20 (by omega) (by omega)
  refine lv_i2l hx hb dL_tune_8 rfl ?_
  refine va_last hx hb hK hP hD hS 0 4 rfl rfl (vp_in_nI (show 0 < 1 by decide) (by decide)) dL_tune_9 (fun H locs hP hD hS => ?_)
  rw [nI_clamp (show 0 < 2 ^ 31 by decide)] at hP hD
  have hP : va_P E.1 vwCl ([loC E ol (vp_updL lo 0 r.toInt64), coC E x a a2 a3 b d k pa y w, hhC E b hs (upa hg nx g) ((nx + 1) % 8) (if 8 < ct + 1 then 8 else ct + 1), stC E a (up2 g 3 (tn p0) (tn p1))] : List va_W).flatten H := hP
  have hD : va_D A ([loC E ol (vp_updL lo 0 r.toInt64), coC E x a a2 a3 b d k pa y w, hhC E b hs (upa hg nx g) ((nx + 1) % 8) (if 8 < ct + 1 then 8 else ct + 1), stC E a (up2 g 3 (tn p0) (tn p1))] : List va_W).flatten := hD
  refine lv_goto (tgt := 21) hx hb dL_tune_10 (by decide) ?_
  refine lv_iconst (v := nI 0) hx hb dL_tune_21 (by decide) ?_
  exact hret _ _ (nI 0) (.inl ((), r, (vp_updL lo 0 r.toInt64))) _ _ _ _ hP hD hS ⟨rfl, hw, rfl⟩ dL_tune_22 (by omega) (by omega)
abbrev rm_L_buyShares : Room := { frames := 8, cells := 1, slots := 6, locals := 184 }
set_option maxHeartbeats 4000000 in
set_option maxRecDepth 100000 in
theorem c_L_buyShares (l : Launch) (hst : l.stackTraces = false) (E : EE) (sz : Nat) (x a a2 a3 b d k pa y w : Nat → Nat) (g : GG) (B : Nat) (hI : IB B g) (hs : Nat → Nat → Nat) (hg : Nat → GG) (nx ct : Nat) (hnx : nx < 8) (hct : ct ≤ 8) (p0 p1 : Int32) (ol : Nat) (lo : Nat → Int64) : MW l yL_buyShares cL_buyShares 5 [(0, 10, 13, 21), (0, 10, 17, 13), (0, 10, 21, 15), (0, 10, 25, 29)] rm_L_buyShares [.ref (x 0), .int p0, .int p1, .ref ol] E sz [loC E ol lo, coC E x a a2 a3 b d k pa y w, hhC E b hs hg nx ct, stC E a g] (fun (r : Int32) (u : (Unit × Int32 × (Nat → Int64)) ⊕ Unit) => Sum.elim (fun (vq : Unit × Int32 × (Nat → Int64)) => r = nI 0 ∧ (fBuy g p0 p1 = 0 ∧ vq.2.1 = nI (g 0 (tn p0) + tn p1)) ∧ vq.2.2 0 = vq.2.1.toInt64) (fun (vq : Unit) => fBuy g p0 p1 ≠ 0 ∧ r = nI (fBuy g p0 p1 - 0)) u) (fun u => Sum.elim (fun (vq : Unit × Int32 × (Nat → Int64)) => [loC E ol vq.2.2, coC E x a a2 a3 b d k pa y w, hhC E b hs (upa hg nx g) ((nx + 1) % 8) (if 8 < ct + 1 then 8 else ct + 1), stC E a (buyG g (tn p0) (tn p1))]) (fun (vq : Unit) => [loC E ol lo, coC E x a a2 a3 b d k pa y w, hhC E b hs hg nx ct, stC E a g]) u) 1 6 := by
  refine mw_go (by decide) (Nat.le_of_ble_eq_true rfl) ?_
  intro p e s m below meth c A Q ls hx hb hml hown hts hK hZ hDD hA hsz hP hD hl htab hret
  have hS : va_S A s.heap s.heap [] := va_S.rf
  have hl : lv_has ls 5 [(0, .ref (x 0)), (1, .int p0), (2, .int p1), (3, .ref ol)] := hl
  refine lv_aload_n hx hb dL_buyShares_0 rfl (lv_at hl 3 rfl) ?_
  refine lv_iconst (v := nI 0) hx hb dL_buyShares_1 (by decide) ?_
  refine lv_aload_n hx hb dL_buyShares_2 rfl (lv_at hl 0 rfl) ?_
  refine lv_iload_n hx hb dL_buyShares_3 rfl (lv_at hl 1 rfl) ?_
  refine lv_iload_n hx hb dL_buyShares_4 rfl (lv_at hl 2 rfl) ?_
  refine run_xi (S := Unit) (SX := Unit) (run_XV (As := [.int p0, .int p1]) (rest := [.int (nI 0), .ref ol]) (bs := [loC E ol lo, coC E x a a2 a3 b d k pa y w, hhC E b hs hg nx ct, stC E a g]) (cb := [coC E x a a2 a3 b d k pa y w, hhC E b hs hg nx ct, stC E a g]) hx hb hml hown hts hK hZ hDD hA (c_X5_buyShares l hst E _ x a a2 a3 b d k pa y w g B hI hs hg nx ct hnx hct p0 p1) l_L_26 rfl ⟨⟨rfl, rfl⟩, Nat.le_of_ble_eq_true rfl, Nat.le_of_ble_eq_true rfl⟩ 9 rfl [1, 2, 3] rfl (by decide) rfl hP hD hS hl.1 rfl (Nat.le_of_ble_eq_true rfl) dL_buyShares_5 ⟨Nat.le_of_ble_eq_true rfl, Nat.le_of_ble_eq_true rfl⟩) hA hP hD hS (isC := [1, 2, 3]) rfl [0] [0, 1, 2, 3] (br := [loC E ol lo]) (bs2 := fun _ => [loC E ol lo, coC E x a a2 a3 b d k pa y w, hhC E b hs (upa hg nx g) ((nx + 1) % 8) (if 8 < ct + 1 then 8 else ct + 1), stC E a (buyG g (tn p0) (tn p1))]) (bx2 := fun _ => [loC E ol lo, coC E x a a2 a3 b d k pa y w, hhC E b hs hg nx ct, stC E a g]) rfl (by decide) (fun _ => rfl) (fun _ => rfl) (by decide) (fun Ex ce q9 ux H locs hw hP hD hS hc1 hc2 hc3 => ?_) (fun r u H locs hw hP hD hS => ?_)
  · skip
    obtain ⟨hf, hE⟩ := hw
    rcases (fB_v : fBuy g p0 p1 = 0 ∨ fBuy g p0 p1 = 1 ∨ fBuy g p0 p1 = 2 ∨ fBuy g p0 p1 = 3 ∨ fBuy g p0 p1 = 4) with hv | hv | hv | hv | hv
    · exact absurd hv hf
    · skip
      rw [hv] at hE
      have hE : Ex = IOX := hE
      subst hE
      refine vx_catch (own := RL) (name := IOX) hown [] ⟨0, 10, 13, 21⟩ [⟨0, 10, 17, 13⟩, ⟨0, 10, 21, 15⟩, ⟨0, 10, 25, 29⟩] (htab.trans rfl) (fun z hz => absurd hz List.not_mem_nil) rfl (by decide) (hts _ q615) (va_Nw.use rfl (hZ.2.2.1 _ (List.mem_of_getElem? (i := 0) rfl))) hc1 hc2 hc3 ?_
      refine lv_astore (lv' := [(4, .ref q9), (0, .ref (x 0)), (1, .int p0), (2, .int p1), (3, .ref ol)]) hx hb dL_buyShares_13 hl (by decide) rfl (fun ls hl => ?_)
      refine lv_iconst (v := nI 1) hx hb dL_buyShares_15 (by decide) ?_
      exact hret _ _ (nI 1) (.inr ()) _ _ _ _ hP hD hS ⟨hf, by rw [hv]⟩ dL_buyShares_16 (by omega) (by omega)
    · skip
      rw [hv] at hE
      have hE : Ex = IAX := hE
      subst hE
      refine vx_catch (own := RL) (name := IAX) hown [⟨0, 10, 13, 21⟩] ⟨0, 10, 17, 13⟩ [⟨0, 10, 21, 15⟩, ⟨0, 10, 25, 29⟩] (htab.trans rfl) (fun z hz => by
          rcases List.mem_cons.mp hz with rfl | hz
          · exact Or.inr ⟨by decide, IOX, hts _ q615, hZ.2.2.2.1 _ (List.mem_of_getElem? (i := 19) rfl)⟩
          · exact absurd hz List.not_mem_nil) rfl (by decide) (hts _ q464) (va_Nw.use rfl (hZ.2.2.1 _ (List.mem_of_getElem? (i := 1) rfl))) hc1 hc2 hc3 ?_
      refine lv_astore (lv' := [(4, .ref q9), (0, .ref (x 0)), (1, .int p0), (2, .int p1), (3, .ref ol)]) hx hb dL_buyShares_17 hl (by decide) rfl (fun ls hl => ?_)
      refine lv_iconst (v := nI 2) hx hb dL_buyShares_19 (by decide) ?_
      exact hret _ _ (nI 2) (.inr ()) _ _ _ _ hP hD hS ⟨hf, by rw [hv]⟩ dL_buyShares_20 (by omega) (by omega)
    · skip
      rw [hv] at hE
      have hE : Ex = ISX := hE
      subst hE
      refine vx_catch (own := RL) (name := ISX) hown [⟨0, 10, 13, 21⟩, ⟨0, 10, 17, 13⟩] ⟨0, 10, 21, 15⟩ [⟨0, 10, 25, 29⟩] (htab.trans rfl) (fun z hz => by
          rcases List.mem_cons.mp hz with rfl | hz
          · exact Or.inr ⟨by decide, IOX, hts _ q615, hZ.2.2.2.1 _ (List.mem_of_getElem? (i := 20) rfl)⟩
          · rcases List.mem_cons.mp hz with rfl | hz
            · exact Or.inr ⟨by decide, IAX, hts _ q464, hZ.2.2.2.1 _ (List.mem_of_getElem? (i := 2) rfl)⟩
            · exact absurd hz List.not_mem_nil) rfl (by decide) (hts _ q465) (va_Nw.use rfl (hZ.2.2.1 _ (List.mem_of_getElem? (i := 2) rfl))) hc1 hc2 hc3 ?_
      refine lv_astore (lv' := [(4, .ref q9), (0, .ref (x 0)), (1, .int p0), (2, .int p1), (3, .ref ol)]) hx hb dL_buyShares_21 hl (by decide) rfl (fun ls hl => ?_)
      refine lv_iconst (v := nI 3) hx hb dL_buyShares_23 (by decide) ?_
      exact hret _ _ (nI 3) (.inr ()) _ _ _ _ hP hD hS ⟨hf, by rw [hv]⟩ dL_buyShares_24 (by omega) (by omega)
    · skip
      rw [hv] at hE
      have hE : Ex = UOX := hE
      subst hE
      refine vx_catch (own := RL) (name := UOX) hown [⟨0, 10, 13, 21⟩, ⟨0, 10, 17, 13⟩, ⟨0, 10, 21, 15⟩] ⟨0, 10, 25, 29⟩ [] (htab.trans rfl) (fun z hz => by
          rcases List.mem_cons.mp hz with rfl | hz
          · exact Or.inr ⟨by decide, IOX, hts _ q615, hZ.2.2.2.1 _ (List.mem_of_getElem? (i := 21) rfl)⟩
          · rcases List.mem_cons.mp hz with rfl | hz
            · exact Or.inr ⟨by decide, IAX, hts _ q464, hZ.2.2.2.1 _ (List.mem_of_getElem? (i := 3) rfl)⟩
            · rcases List.mem_cons.mp hz with rfl | hz
              · exact Or.inr ⟨by decide, ISX, hts _ q465, hZ.2.2.2.1 _ (List.mem_of_getElem? (i := 12) rfl)⟩
              · exact absurd hz List.not_mem_nil) rfl (by decide) (hts _ q670) (va_Nw.use rfl (hZ.2.2.1 _ (List.mem_of_getElem? (i := 3) rfl))) hc1 hc2 hc3 ?_
      refine lv_astore (lv' := [(4, .ref q9), (0, .ref (x 0)), (1, .int p0), (2, .int p1), (3, .ref ol)]) hx hb dL_buyShares_25 hl (by decide) rfl (fun ls hl => ?_)
      refine lv_iconst (v := nI 4) hx hb dL_buyShares_27 (by decide) ?_
      exact hret _ _ (nI 4) (.inr ()) _ _ _ _ hP hD hS ⟨hf, by rw [hv]⟩ dL_buyShares_28 (by omega) (by omega)
  refine lv_i2l hx hb dL_buyShares_8 rfl ?_
  refine va_last hx hb hK hP hD hS 0 4 rfl rfl (vp_in_nI (show 0 < 1 by decide) (by decide)) dL_buyShares_9 (fun H locs hP hD hS => ?_)
  rw [nI_clamp (show 0 < 2 ^ 31 by decide)] at hP hD
  have hP : va_P E.1 vwCl ([loC E ol (vp_updL lo 0 r.toInt64), coC E x a a2 a3 b d k pa y w, hhC E b hs (upa hg nx g) ((nx + 1) % 8) (if 8 < ct + 1 then 8 else ct + 1), stC E a (buyG g (tn p0) (tn p1))] : List va_W).flatten H := hP
  have hD : va_D A ([loC E ol (vp_updL lo 0 r.toInt64), coC E x a a2 a3 b d k pa y w, hhC E b hs (upa hg nx g) ((nx + 1) % 8) (if 8 < ct + 1 then 8 else ct + 1), stC E a (buyG g (tn p0) (tn p1))] : List va_W).flatten := hD
  refine lv_goto (tgt := 29) hx hb dL_buyShares_10 (by decide) ?_
  refine lv_iconst (v := nI 0) hx hb dL_buyShares_29 (by decide) ?_
  exact hret _ _ (nI 0) (.inl ((), r, (vp_updL lo 0 r.toInt64))) _ _ _ _ hP hD hS ⟨rfl, hw, rfl⟩ dL_buyShares_30 (by omega) (by omega)
abbrev rm_L_passBeats : Room := { frames := 8, cells := 1, slots := 6, locals := 183 }
set_option maxHeartbeats 4000000 in
set_option maxRecDepth 100000 in
theorem c_L_passBeats (l : Launch) (hst : l.stackTraces = false) (E : EE) (sz : Nat) (x a a2 a3 b d k pa y w : Nat → Nat) (g : GG) (B : Nat) (hI : IB B g) (hs : Nat → Nat → Nat) (hg : Nat → GG) (nx ct : Nat) (hnx : nx < 8) (hct : ct ≤ 8) (hB : B + 60 ≤ 300000) (p0 : Int32) (ol : Nat) (lo : Nat → Int64) : MW l yL_passBeats cL_passBeats 4 [(0, 9, 12, 13)] rm_L_passBeats [.ref (x 0), .int p0, .ref ol] E sz [loC E ol lo, coC E x a a2 a3 b d k pa y w, hhC E b hs hg nx ct, stC E a g] (fun (r : Int32) (u : (Unit × Int32 × (Nat → Int64)) ⊕ Unit) => Sum.elim (fun (vq : Unit × Int32 × (Nat → Int64)) => r = nI 0 ∧ (fPass p0 = 0 ∧ vq.2.1 = nI (passN g (tn p0))) ∧ vq.2.2 0 = vq.2.1.toInt64) (fun (vq : Unit) => fPass p0 ≠ 0 ∧ r = nI (fPass p0 - 1)) u) (fun u => Sum.elim (fun (vq : Unit × Int32 × (Nat → Int64)) => [loC E ol vq.2.2, coC E x a a2 a3 b d k pa y w, hhC E b hs (upa hg nx g) ((nx + 1) % 8) (if 8 < ct + 1 then 8 else ct + 1), stC E a (passG g (tn p0))]) (fun (vq : Unit) => [loC E ol lo, coC E x a a2 a3 b d k pa y w, hhC E b hs hg nx ct, stC E a g]) u) 1 6 := by
  refine mw_go (by decide) (Nat.le_of_ble_eq_true rfl) ?_
  intro p e s m below meth c A Q ls hx hb hml hown hts hK hZ hDD hA hsz hP hD hl htab hret
  have hS : va_S A s.heap s.heap [] := va_S.rf
  have hl : lv_has ls 4 [(0, .ref (x 0)), (1, .int p0), (2, .ref ol)] := hl
  refine lv_aload_n hx hb dL_passBeats_0 rfl (lv_at hl 2 rfl) ?_
  refine lv_iconst (v := nI 0) hx hb dL_passBeats_1 (by decide) ?_
  refine lv_aload_n hx hb dL_passBeats_2 rfl (lv_at hl 0 rfl) ?_
  refine lv_iload_n hx hb dL_passBeats_3 rfl (lv_at hl 1 rfl) ?_
  refine run_xi (S := Unit) (SX := Unit) (run_XV (As := [.int p0]) (rest := [.int (nI 0), .ref ol]) (bs := [loC E ol lo, coC E x a a2 a3 b d k pa y w, hhC E b hs hg nx ct, stC E a g]) (cb := [coC E x a a2 a3 b d k pa y w, hhC E b hs hg nx ct, stC E a g]) hx hb hml hown hts hK hZ hDD hA (c_X5_passBeats l hst E _ x a a2 a3 b d k pa y w g B hI hs hg nx ct hnx hct hB p0) l_L_31 rfl ⟨⟨rfl, rfl⟩, Nat.le_of_ble_eq_true rfl, Nat.le_of_ble_eq_true rfl⟩ 9 rfl [1, 2, 3] rfl (by decide) rfl hP hD hS hl.1 rfl (Nat.le_of_ble_eq_true rfl) dL_passBeats_4 ⟨Nat.le_of_ble_eq_true rfl, Nat.le_of_ble_eq_true rfl⟩) hA hP hD hS (isC := [1, 2, 3]) rfl [0] [0, 1, 2, 3] (br := [loC E ol lo]) (bs2 := fun _ => [loC E ol lo, coC E x a a2 a3 b d k pa y w, hhC E b hs (upa hg nx g) ((nx + 1) % 8) (if 8 < ct + 1 then 8 else ct + 1), stC E a (passG g (tn p0))]) (bx2 := fun _ => [loC E ol lo, coC E x a a2 a3 b d k pa y w, hhC E b hs hg nx ct, stC E a g]) rfl (by decide) (fun _ => rfl) (fun _ => rfl) (by decide) (fun Ex ce q9 ux H locs hw hP hD hS hc1 hc2 hc3 => ?_) (fun r u H locs hw hP hD hS => ?_)
  · skip
    obtain ⟨hf, hE⟩ := hw
    rcases (fP_v : fPass p0 = 0 ∨ fPass p0 = 2) with hv | hv
    · exact absurd hv hf
    · skip
      rw [hv] at hE
      have hE : Ex = IAX := hE
      subst hE
      refine vx_catch (own := RL) (name := IAX) hown [] ⟨0, 9, 12, 13⟩ [] (htab.trans rfl) (fun z hz => absurd hz List.not_mem_nil) rfl (by decide) (hts _ q464) (va_Nw.use rfl (hZ.2.2.1 _ (List.mem_of_getElem? (i := 1) rfl))) hc1 hc2 hc3 ?_
      refine lv_astore_n (lv' := [(3, .ref q9), (0, .ref (x 0)), (1, .int p0), (2, .ref ol)]) hx hb dL_passBeats_12 rfl hl (by decide) rfl (fun ls hl => ?_)
      refine lv_iconst (v := nI 1) hx hb dL_passBeats_13 (by decide) ?_
      exact hret _ _ (nI 1) (.inr ()) _ _ _ _ hP hD hS ⟨hf, by rw [hv]⟩ dL_passBeats_14 (by omega) (by omega)
  refine lv_i2l hx hb dL_passBeats_7 rfl ?_
  refine va_last hx hb hK hP hD hS 0 4 rfl rfl (vp_in_nI (show 0 < 1 by decide) (by decide)) dL_passBeats_8 (fun H locs hP hD hS => ?_)
  rw [nI_clamp (show 0 < 2 ^ 31 by decide)] at hP hD
  have hP : va_P E.1 vwCl ([loC E ol (vp_updL lo 0 r.toInt64), coC E x a a2 a3 b d k pa y w, hhC E b hs (upa hg nx g) ((nx + 1) % 8) (if 8 < ct + 1 then 8 else ct + 1), stC E a (passG g (tn p0))] : List va_W).flatten H := hP
  have hD : va_D A ([loC E ol (vp_updL lo 0 r.toInt64), coC E x a a2 a3 b d k pa y w, hhC E b hs (upa hg nx g) ((nx + 1) % 8) (if 8 < ct + 1 then 8 else ct + 1), stC E a (passG g (tn p0))] : List va_W).flatten := hD
  refine lv_goto (tgt := 15) hx hb dL_passBeats_9 (by decide) ?_
  refine lv_iconst (v := nI 0) hx hb dL_passBeats_15 (by decide) ?_
  exact hret _ _ (nI 0) (.inl ((), r, (vp_updL lo 0 r.toInt64))) _ _ _ _ hP hD hS ⟨rfl, hw, rfl⟩ dL_passBeats_16 (by omega) (by omega)
abbrev rm_L_endQuarter : Room := { frames := 8, cells := 1, slots := 6, locals := 213 }
set_option maxHeartbeats 4000000 in
set_option maxRecDepth 100000 in
theorem c_L_endQuarter (l : Launch) (hst : l.stackTraces = false) (E : EE) (sz : Nat) (x a a2 a3 b d k pa y w : Nat → Nat) (g : GG) (B : Nat) (hI : IB B g) (hs : Nat → Nat → Nat) (hg : Nat → GG) (nx ct : Nat) (hnx : nx < 8) (hct : ct ≤ 8) (co re : Nat → Nat)  (ol : Nat) (lo : Nat → Int64) : MW l yL_endQuarter cL_endQuarter 3 [(0, 8, 11, 15)] rm_L_endQuarter [.ref (x 0), .ref ol] E sz [loC E ol lo, coC E x a a2 a3 b d k pa y w, hhC E b hs hg nx ct, stC E a g, diC E d co re] (fun (r : Int32) (u : (((Nat → Nat) × (Nat → Nat)) × Int32 × (Nat → Int64)) ⊕ Unit) => Sum.elim (fun (vq : ((Nat → Nat) × (Nat → Nat)) × Int32 × (Nat → Int64)) => r = nI 0 ∧ (fPay g = 0 ∧ vq.2.1 = nI (g 8 2)) ∧ vq.2.2 0 = vq.2.1.toInt64) (fun (vq : Unit) => fPay g ≠ 0 ∧ r = nI (fPay g - 2)) u) (fun u => Sum.elim (fun (vq : ((Nat → Nat) × (Nat → Nat)) × Int32 × (Nat → Int64)) => [loC E ol vq.2.2, coC E x a a2 a3 b d k pa y w, hhC E b hs (upa hg nx g) ((nx + 1) % 8) (if 8 < ct + 1 then 8 else ct + 1), stC E a (payG g), diC E d vq.1.1 vq.1.2]) (fun (vq : Unit) => [loC E ol lo, coC E x a a2 a3 b d k pa y w, hhC E b hs hg nx ct, stC E a g, diC E d co re]) u) 1 6 := by
  refine mw_go (by decide) (Nat.le_of_ble_eq_true rfl) ?_
  intro p e s m below meth c A Q ls hx hb hml hown hts hK hZ hDD hA hsz hP hD hl htab hret
  have hS : va_S A s.heap s.heap [] := va_S.rf
  have hl : lv_has ls 3 [(0, .ref (x 0)), (1, .ref ol)] := hl
  refine lv_aload_n hx hb dL_endQuarter_0 rfl (lv_at hl 1 rfl) ?_
  refine lv_iconst (v := nI 0) hx hb dL_endQuarter_1 (by decide) ?_
  refine lv_aload_n hx hb dL_endQuarter_2 rfl (lv_at hl 0 rfl) ?_
  refine run_xi (S := (Nat → Nat) × (Nat → Nat)) (SX := Unit) (run_XV (As := []) (rest := [.int (nI 0), .ref ol]) (bs := [loC E ol lo, coC E x a a2 a3 b d k pa y w, hhC E b hs hg nx ct, stC E a g, diC E d co re]) (cb := [coC E x a a2 a3 b d k pa y w, hhC E b hs hg nx ct, stC E a g, diC E d co re]) hx hb hml hown hts hK hZ hDD hA (c_X5_endQuarter l hst E _ x a a2 a3 b d k pa y w g B hI hs hg nx ct hnx hct co re) l_L_35 rfl ⟨⟨rfl, rfl⟩, Nat.le_of_ble_eq_true rfl, Nat.le_of_ble_eq_true rfl⟩ 9 rfl [1, 2, 3, 4] rfl (by decide) rfl hP hD hS hl.1 rfl (Nat.le_of_ble_eq_true rfl) dL_endQuarter_3 ⟨Nat.le_of_ble_eq_true rfl, Nat.le_of_ble_eq_true rfl⟩) hA hP hD hS (isC := [1, 2, 3, 4]) rfl [0] [0, 1, 2, 3, 4] (br := [loC E ol lo]) (bs2 := fun u => [loC E ol lo, coC E x a a2 a3 b d k pa y w, hhC E b hs (upa hg nx g) ((nx + 1) % 8) (if 8 < ct + 1 then 8 else ct + 1), stC E a (payG g), diC E d u.1 u.2]) (bx2 := fun _ => [loC E ol lo, coC E x a a2 a3 b d k pa y w, hhC E b hs hg nx ct, stC E a g, diC E d co re]) rfl (by decide) (fun _ => rfl) (fun _ => rfl) (by decide) (fun Ex ce q9 ux H locs hw hP hD hS hc1 hc2 hc3 => ?_) (fun r u H locs hw hP hD hS => ?_)
  · skip
    obtain ⟨hf, hE⟩ := hw
    rcases (fQ_v : fPay g = 0 ∨ fPay g = 3) with hv | hv
    · exact absurd hv hf
    · skip
      rw [hv] at hE
      have hE : Ex = ISX := hE
      subst hE
      refine vx_catch (own := RL) (name := ISX) hown [] ⟨0, 8, 11, 15⟩ [] (htab.trans rfl) (fun z hz => absurd hz List.not_mem_nil) rfl (by decide) (hts _ q465) (va_Nw.use rfl (hZ.2.2.1 _ (List.mem_of_getElem? (i := 2) rfl))) hc1 hc2 hc3 ?_
      refine lv_astore_n (lv' := [(2, .ref q9), (0, .ref (x 0)), (1, .ref ol)]) hx hb dL_endQuarter_11 rfl hl (by decide) rfl (fun ls hl => ?_)
      refine lv_iconst (v := nI 1) hx hb dL_endQuarter_12 (by decide) ?_
      exact hret _ _ (nI 1) (.inr ()) _ _ _ _ hP hD hS ⟨hf, by rw [hv]⟩ dL_endQuarter_13 (by omega) (by omega)
  refine lv_i2l hx hb dL_endQuarter_6 rfl ?_
  refine va_last hx hb hK hP hD hS 0 4 rfl rfl (vp_in_nI (show 0 < 1 by decide) (by decide)) dL_endQuarter_7 (fun H locs hP hD hS => ?_)
  rw [nI_clamp (show 0 < 2 ^ 31 by decide)] at hP hD
  have hP : va_P E.1 vwCl ([loC E ol (vp_updL lo 0 r.toInt64), coC E x a a2 a3 b d k pa y w, hhC E b hs (upa hg nx g) ((nx + 1) % 8) (if 8 < ct + 1 then 8 else ct + 1), stC E a (payG g), diC E d u.1 u.2] : List va_W).flatten H := hP
  have hD : va_D A ([loC E ol (vp_updL lo 0 r.toInt64), coC E x a a2 a3 b d k pa y w, hhC E b hs (upa hg nx g) ((nx + 1) % 8) (if 8 < ct + 1 then 8 else ct + 1), stC E a (payG g), diC E d u.1 u.2] : List va_W).flatten := hD
  refine lv_goto (tgt := 14) hx hb dL_endQuarter_8 (by decide) ?_
  refine lv_iconst (v := nI 0) hx hb dL_endQuarter_14 (by decide) ?_
  exact hret _ _ (nI 0) (.inl (u, r, (vp_updL lo 0 r.toInt64))) _ _ _ _ hP hD hS ⟨rfl, hw, rfl⟩ dL_endQuarter_15 (by omega) (by omega)
abbrev rm_L_vote : Room := { frames := 8, cells := 1, slots := 6, locals := 185 }
set_option maxHeartbeats 4000000 in
set_option maxRecDepth 100000 in
theorem c_L_vote (l : Launch) (hst : l.stackTraces = false) (E : EE) (sz : Nat) (x a a2 a3 b d k pa y w : Nat → Nat) (g : GG) (B : Nat) (hI : IB B g) (hs : Nat → Nat → Nat) (hg : Nat → GG) (nx ct : Nat) (hnx : nx < 8) (hct : ct ≤ 8) (p0 p1 : Int32) (ol : Nat) (lo : Nat → Int64) : MW l yL_vote cL_vote 5 [(0, 17, 20, 13)] rm_L_vote [.ref (x 0), .int p0, .int p1, .ref ol] E sz [loC E ol lo, coC E x a a2 a3 b d k pa y w, hhC E b hs hg nx ct, stC E a g] (fun (r : Int32) (u : (Unit × (Nat → Int64)) ⊕ Unit) => Sum.elim (fun (vq : Unit × (Nat → Int64)) => r = nI 0 ∧ fMot p0 p1 = 0 ∧ vq.2 0 = (if decide (quo g ≤ favN g (tn p0) (tn p1)) = true then lN 1 else lN 0)) (fun (vq : Unit) => fMot p0 p1 ≠ 0 ∧ r = nI (fMot p0 p1 - 1)) u) (fun u => Sum.elim (fun (vq : Unit × (Nat → Int64)) => [loC E ol vq.2, coC E x a a2 a3 b d k pa y w, hhC E b hs (upa hg nx g) ((nx + 1) % 8) (if 8 < ct + 1 then 8 else ct + 1), stC E a (voteG g (tn p0) (tn p1))]) (fun (vq : Unit) => [loC E ol lo, coC E x a a2 a3 b d k pa y w, hhC E b hs hg nx ct, stC E a g]) u) 1 6 := by
  refine mw_go (by decide) (Nat.le_of_ble_eq_true rfl) ?_
  intro p e s m below meth c A Q ls hx hb hml hown hts hK hZ hDD hA hsz hP hD hl htab hret
  have hS : va_S A s.heap s.heap [] := va_S.rf
  have hl : lv_has ls 5 [(0, .ref (x 0)), (1, .int p0), (2, .int p1), (3, .ref ol)] := hl
  refine lv_aload_n hx hb dL_vote_0 rfl (lv_at hl 3 rfl) ?_
  refine lv_iconst (v := nI 0) hx hb dL_vote_1 (by decide) ?_
  refine lv_aload_n hx hb dL_vote_2 rfl (lv_at hl 0 rfl) ?_
  refine lv_iload_n hx hb dL_vote_3 rfl (lv_at hl 1 rfl) ?_
  refine lv_iload_n hx hb dL_vote_4 rfl (lv_at hl 2 rfl) ?_
  refine run_xi (S := Unit) (SX := Unit) (run_XV (As := [.int p0, .int p1]) (rest := [.int (nI 0), .ref ol]) (bs := [loC E ol lo, coC E x a a2 a3 b d k pa y w, hhC E b hs hg nx ct, stC E a g]) (cb := [coC E x a a2 a3 b d k pa y w, hhC E b hs hg nx ct, stC E a g]) hx hb hml hown hts hK hZ hDD hA (c_X5_vote l hst E _ x a a2 a3 b d k pa y w g B hI hs hg nx ct hnx hct p0 p1) l_L_39 rfl ⟨⟨rfl, rfl⟩, Nat.le_of_ble_eq_true rfl, Nat.le_of_ble_eq_true rfl⟩ 9 rfl [1, 2, 3] rfl (by decide) rfl hP hD hS hl.1 rfl (Nat.le_of_ble_eq_true rfl) dL_vote_5 ⟨Nat.le_of_ble_eq_true rfl, Nat.le_of_ble_eq_true rfl⟩) hA hP hD hS (isC := [1, 2, 3]) rfl [0] [0, 1, 2, 3] (br := [loC E ol lo]) (bs2 := fun _ => [loC E ol lo, coC E x a a2 a3 b d k pa y w, hhC E b hs (upa hg nx g) ((nx + 1) % 8) (if 8 < ct + 1 then 8 else ct + 1), stC E a (voteG g (tn p0) (tn p1))]) (bx2 := fun _ => [loC E ol lo, coC E x a a2 a3 b d k pa y w, hhC E b hs hg nx ct, stC E a g]) rfl (by decide) (fun _ => rfl) (fun _ => rfl) (by decide) (fun Ex ce q9 ux H locs hw hP hD hS hc1 hc2 hc3 => ?_) (fun r u H locs hw hP hD hS => ?_)
  · skip
    obtain ⟨hf, hE⟩ := hw
    rcases (fM_v : fMot p0 p1 = 0 ∨ fMot p0 p1 = 2) with hv | hv
    · exact absurd hv hf
    · skip
      rw [hv] at hE
      have hE : Ex = IAX := hE
      subst hE
      refine vx_catch (own := RL) (name := IAX) hown [] ⟨0, 17, 20, 13⟩ [] (htab.trans rfl) (fun z hz => absurd hz List.not_mem_nil) rfl (by decide) (hts _ q464) (va_Nw.use rfl (hZ.2.2.1 _ (List.mem_of_getElem? (i := 1) rfl))) hc1 hc2 hc3 ?_
      refine lv_astore (lv' := [(4, .ref q9), (0, .ref (x 0)), (1, .int p0), (2, .int p1), (3, .ref ol)]) hx hb dL_vote_20 hl (by decide) rfl (fun ls hl => ?_)
      refine lv_iconst (v := nI 1) hx hb dL_vote_22 (by decide) ?_
      exact hret _ _ (nI 1) (.inr ()) _ _ _ _ hP hD hS ⟨hf, by rw [hv]⟩ dL_vote_23 (by omega) (by omega)
  obtain ⟨hf, rfl⟩ := hw
  refine bv_if_eq hx hb (tgt := 15) dL_vote_8 (by decide) (fun c_1 => ?_) (fun c_1 => ?_)
  · skip
    refine lv_lconst (v := lN 0) hx hb dL_vote_15 (by decide) ?_
    refine va_last hx hb hK hP hD hS 0 4 rfl rfl (vp_in_nI (show 0 < 1 by decide) (by decide)) dL_vote_16 (fun H locs hP hD hS => ?_)
    rw [nI_clamp (show 0 < 2 ^ 31 by decide)] at hP hD
    have hP : va_P E.1 vwCl ([loC E ol (vp_updL lo 0 (lN 0)), coC E x a a2 a3 b d k pa y w, hhC E b hs (upa hg nx g) ((nx + 1) % 8) (if 8 < ct + 1 then 8 else ct + 1), stC E a (voteG g (tn p0) (tn p1))] : List va_W).flatten H := hP
    have hD : va_D A ([loC E ol (vp_updL lo 0 (lN 0)), coC E x a a2 a3 b d k pa y w, hhC E b hs (upa hg nx g) ((nx + 1) % 8) (if 8 < ct + 1 then 8 else ct + 1), stC E a (voteG g (tn p0) (tn p1))] : List va_W).flatten := hD
    refine lv_goto (tgt := 24) hx hb dL_vote_17 (by decide) ?_
    refine lv_iconst (v := nI 0) hx hb dL_vote_24 (by decide) ?_
    exact hret _ _ (nI 0) (.inl ((), (vp_updL lo 0 (lN 0)))) _ _ _ _ hP hD hS ⟨rfl, hf, by first | (rw [if_pos (by assumption)]; rfl) | (rw [if_neg (ne_true_of_eq_false (by assumption))]; rfl)⟩ dL_vote_25 (by omega) (by omega)
  · skip
    refine lv_lconst (v := lN 1) hx hb dL_vote_11 (by decide) ?_
    refine lv_goto (tgt := 16) hx hb dL_vote_12 (by decide) ?_
    refine va_last hx hb hK hP hD hS 0 4 rfl rfl (vp_in_nI (show 0 < 1 by decide) (by decide)) dL_vote_16 (fun H locs hP hD hS => ?_)
    rw [nI_clamp (show 0 < 2 ^ 31 by decide)] at hP hD
    have hP : va_P E.1 vwCl ([loC E ol (vp_updL lo 0 (lN 1)), coC E x a a2 a3 b d k pa y w, hhC E b hs (upa hg nx g) ((nx + 1) % 8) (if 8 < ct + 1 then 8 else ct + 1), stC E a (voteG g (tn p0) (tn p1))] : List va_W).flatten H := hP
    have hD : va_D A ([loC E ol (vp_updL lo 0 (lN 1)), coC E x a a2 a3 b d k pa y w, hhC E b hs (upa hg nx g) ((nx + 1) % 8) (if 8 < ct + 1 then 8 else ct + 1), stC E a (voteG g (tn p0) (tn p1))] : List va_W).flatten := hD
    refine lv_goto (tgt := 24) hx hb dL_vote_17 (by decide) ?_
    refine lv_iconst (v := nI 0) hx hb dL_vote_24 (by decide) ?_
    exact hret _ _ (nI 0) (.inl ((), (vp_updL lo 0 (lN 1)))) _ _ _ _ hP hD hS ⟨rfl, hf, by first | (rw [if_pos (by assumption)]; rfl) | (rw [if_neg (ne_true_of_eq_false (by assumption))]; rfl)⟩ dL_vote_25 (by omega) (by omega)
abbrev rm_L_shares : Room := { frames := 8, cells := 1, slots := 6, locals := 142 }
set_option maxHeartbeats 4000000 in
set_option maxRecDepth 100000 in
theorem c_L_shares (l : Launch) (hst : l.stackTraces = false) (E : EE) (sz : Nat) (x a a2 a3 b d k pa y w : Nat → Nat) (g : GG) (B : Nat) (hI : IB B g) (p0 : Int32) (ol : Nat) (lo : Nat → Int64) : MW l yL_shares cL_shares 4 [(0, 9, 12, 21)] rm_L_shares [.ref (x 0), .int p0, .ref ol] E sz [loC E ol lo, coC E x a a2 a3 b d k pa y w, stC E a g] (fun (r : Int32) (u : (Unit × Int32 × (Nat → Int64)) ⊕ Unit) => Sum.elim (fun (vq : Unit × Int32 × (Nat → Int64)) => r = nI 0 ∧ (hasM g p0 = true ∧ vq.2.1 = nI (g 0 (tn p0))) ∧ vq.2.2 0 = vq.2.1.toInt64) (fun (vq : Unit) => r = nI 1 ∧ hasM g p0 = false) u) (fun u => Sum.elim (fun (vq : Unit × Int32 × (Nat → Int64)) => [loC E ol vq.2.2, coC E x a a2 a3 b d k pa y w, stC E a g]) (fun (vq : Unit) => [loC E ol lo, coC E x a a2 a3 b d k pa y w, stC E a g]) u) 1 6 := by
  refine mw_go (by decide) (Nat.le_of_ble_eq_true rfl) ?_
  intro p e s m below meth c A Q ls hx hb hml hown hts hK hZ hDD hA hsz hP hD hl htab hret
  have hS : va_S A s.heap s.heap [] := va_S.rf
  have hl : lv_has ls 4 [(0, .ref (x 0)), (1, .int p0), (2, .ref ol)] := hl
  refine lv_aload_n hx hb dL_shares_0 rfl (lv_at hl 2 rfl) ?_
  refine lv_iconst (v := nI 0) hx hb dL_shares_1 (by decide) ?_
  refine lv_aload_n hx hb dL_shares_2 rfl (lv_at hl 0 rfl) ?_
  refine lv_iload_n hx hb dL_shares_3 rfl (lv_at hl 1 rfl) ?_
  refine run_xi (S := Unit) (SX := Unit) (run_XV (As := [.int p0]) (rest := [.int (nI 0), .ref ol]) (bs := [loC E ol lo, coC E x a a2 a3 b d k pa y w, stC E a g]) (cb := [coC E x a a2 a3 b d k pa y w, stC E a g]) hx hb hml hown hts hK hZ hDD hA (c_X5_shares l hst E _ x a a2 a3 b d k pa y w g B hI p0) l_L_43 rfl ⟨⟨rfl, rfl⟩, Nat.le_of_ble_eq_true rfl, Nat.le_of_ble_eq_true rfl⟩ 9 rfl [1, 2] rfl (by decide) rfl hP hD hS hl.1 rfl (Nat.le_of_ble_eq_true rfl) dL_shares_4 ⟨Nat.le_of_ble_eq_true rfl, Nat.le_of_ble_eq_true rfl⟩) hA hP hD hS (isC := [1, 2]) rfl [0] [0, 1, 2] (br := [loC E ol lo]) (bs2 := fun _ => [loC E ol lo, coC E x a a2 a3 b d k pa y w, stC E a g]) (bx2 := fun _ => [loC E ol lo, coC E x a a2 a3 b d k pa y w, stC E a g]) rfl (by decide) (fun _ => rfl) (fun _ => rfl) (by decide) (fun Ex ce q9 ux H locs hw hP hD hS hc1 hc2 hc3 => ?_) (fun r u H locs hw hP hD hS => ?_)
  · skip
    obtain ⟨hE, hq⟩ := hw
    subst hE
    refine vx_catch (own := RL) (name := IOX) hown [] ⟨0, 9, 12, 21⟩ [] (htab.trans rfl) (fun z hz => absurd hz List.not_mem_nil) rfl (by decide) (hts _ q615) (va_Nw.use rfl (hZ.2.2.1 _ (List.mem_of_getElem? (i := 0) rfl))) hc1 hc2 hc3 ?_
    refine lv_astore_n (lv' := [(3, .ref q9), (0, .ref (x 0)), (1, .int p0), (2, .ref ol)]) hx hb dL_shares_12 rfl hl (by decide) rfl (fun ls hl => ?_)
    refine lv_iconst (v := nI 1) hx hb dL_shares_13 (by decide) ?_
    exact hret _ _ (nI 1) (.inr ()) _ _ _ _ hP hD hS ⟨rfl, hq⟩ dL_shares_14 (by omega) (by omega)
  refine lv_i2l hx hb dL_shares_7 rfl ?_
  refine va_last hx hb hK hP hD hS 0 4 rfl rfl (vp_in_nI (show 0 < 1 by decide) (by decide)) dL_shares_8 (fun H locs hP hD hS => ?_)
  rw [nI_clamp (show 0 < 2 ^ 31 by decide)] at hP hD
  have hP : va_P E.1 vwCl ([loC E ol (vp_updL lo 0 r.toInt64), coC E x a a2 a3 b d k pa y w, stC E a g] : List va_W).flatten H := hP
  have hD : va_D A ([loC E ol (vp_updL lo 0 r.toInt64), coC E x a a2 a3 b d k pa y w, stC E a g] : List va_W).flatten := hD
  refine lv_goto (tgt := 15) hx hb dL_shares_9 (by decide) ?_
  refine lv_iconst (v := nI 0) hx hb dL_shares_15 (by decide) ?_
  exact hret _ _ (nI 0) (.inl ((), r, (vp_updL lo 0 r.toInt64))) _ _ _ _ hP hD hS ⟨rfl, hw, rfl⟩ dL_shares_16 (by omega) (by omega)
abbrev rm_L_spring : Room := { frames := 8, cells := 1, slots := 6, locals := 142 }
set_option maxHeartbeats 4000000 in
set_option maxRecDepth 100000 in
theorem c_L_spring (l : Launch) (hst : l.stackTraces = false) (E : EE) (sz : Nat) (x a a2 a3 b d k pa y w : Nat → Nat) (g : GG) (B : Nat) (hI : IB B g) (p0 : Int32) (ol : Nat) (lo : Nat → Int64) : MW l yL_spring cL_spring 4 [(0, 9, 12, 21)] rm_L_spring [.ref (x 0), .int p0, .ref ol] E sz [loC E ol lo, coC E x a a2 a3 b d k pa y w, stC E a g] (fun (r : Int32) (u : (Unit × Int32 × (Nat → Int64)) ⊕ Unit) => Sum.elim (fun (vq : Unit × Int32 × (Nat → Int64)) => r = nI 0 ∧ (hasM g p0 = true ∧ vq.2.1 = nI (g 4 (tn p0))) ∧ vq.2.2 0 = vq.2.1.toInt64) (fun (vq : Unit) => r = nI 1 ∧ hasM g p0 = false) u) (fun u => Sum.elim (fun (vq : Unit × Int32 × (Nat → Int64)) => [loC E ol vq.2.2, coC E x a a2 a3 b d k pa y w, stC E a g]) (fun (vq : Unit) => [loC E ol lo, coC E x a a2 a3 b d k pa y w, stC E a g]) u) 1 6 := by
  refine mw_go (by decide) (Nat.le_of_ble_eq_true rfl) ?_
  intro p e s m below meth c A Q ls hx hb hml hown hts hK hZ hDD hA hsz hP hD hl htab hret
  have hS : va_S A s.heap s.heap [] := va_S.rf
  have hl : lv_has ls 4 [(0, .ref (x 0)), (1, .int p0), (2, .ref ol)] := hl
  refine lv_aload_n hx hb dL_spring_0 rfl (lv_at hl 2 rfl) ?_
  refine lv_iconst (v := nI 0) hx hb dL_spring_1 (by decide) ?_
  refine lv_aload_n hx hb dL_spring_2 rfl (lv_at hl 0 rfl) ?_
  refine lv_iload_n hx hb dL_spring_3 rfl (lv_at hl 1 rfl) ?_
  refine run_xi (S := Unit) (SX := Unit) (run_XV (As := [.int p0]) (rest := [.int (nI 0), .ref ol]) (bs := [loC E ol lo, coC E x a a2 a3 b d k pa y w, stC E a g]) (cb := [coC E x a a2 a3 b d k pa y w, stC E a g]) hx hb hml hown hts hK hZ hDD hA (c_X5_spring l hst E _ x a a2 a3 b d k pa y w g B hI p0) l_L_46 rfl ⟨⟨rfl, rfl⟩, Nat.le_of_ble_eq_true rfl, Nat.le_of_ble_eq_true rfl⟩ 9 rfl [1, 2] rfl (by decide) rfl hP hD hS hl.1 rfl (Nat.le_of_ble_eq_true rfl) dL_spring_4 ⟨Nat.le_of_ble_eq_true rfl, Nat.le_of_ble_eq_true rfl⟩) hA hP hD hS (isC := [1, 2]) rfl [0] [0, 1, 2] (br := [loC E ol lo]) (bs2 := fun _ => [loC E ol lo, coC E x a a2 a3 b d k pa y w, stC E a g]) (bx2 := fun _ => [loC E ol lo, coC E x a a2 a3 b d k pa y w, stC E a g]) rfl (by decide) (fun _ => rfl) (fun _ => rfl) (by decide) (fun Ex ce q9 ux H locs hw hP hD hS hc1 hc2 hc3 => ?_) (fun r u H locs hw hP hD hS => ?_)
  · skip
    obtain ⟨hE, hq⟩ := hw
    subst hE
    refine vx_catch (own := RL) (name := IOX) hown [] ⟨0, 9, 12, 21⟩ [] (htab.trans rfl) (fun z hz => absurd hz List.not_mem_nil) rfl (by decide) (hts _ q615) (va_Nw.use rfl (hZ.2.2.1 _ (List.mem_of_getElem? (i := 0) rfl))) hc1 hc2 hc3 ?_
    refine lv_astore_n (lv' := [(3, .ref q9), (0, .ref (x 0)), (1, .int p0), (2, .ref ol)]) hx hb dL_spring_12 rfl hl (by decide) rfl (fun ls hl => ?_)
    refine lv_iconst (v := nI 1) hx hb dL_spring_13 (by decide) ?_
    exact hret _ _ (nI 1) (.inr ()) _ _ _ _ hP hD hS ⟨rfl, hq⟩ dL_spring_14 (by omega) (by omega)
  refine lv_i2l hx hb dL_spring_7 rfl ?_
  refine va_last hx hb hK hP hD hS 0 4 rfl rfl (vp_in_nI (show 0 < 1 by decide) (by decide)) dL_spring_8 (fun H locs hP hD hS => ?_)
  rw [nI_clamp (show 0 < 2 ^ 31 by decide)] at hP hD
  have hP : va_P E.1 vwCl ([loC E ol (vp_updL lo 0 r.toInt64), coC E x a a2 a3 b d k pa y w, stC E a g] : List va_W).flatten H := hP
  have hD : va_D A ([loC E ol (vp_updL lo 0 r.toInt64), coC E x a a2 a3 b d k pa y w, stC E a g] : List va_W).flatten := hD
  refine lv_goto (tgt := 15) hx hb dL_spring_9 (by decide) ?_
  refine lv_iconst (v := nI 0) hx hb dL_spring_15 (by decide) ?_
  exact hret _ _ (nI 0) (.inl ((), r, (vp_updL lo 0 r.toInt64))) _ _ _ _ hP hD hS ⟨rfl, hw, rfl⟩ dL_spring_16 (by omega) (by omega)
abbrev rm_L_tone : Room := { frames := 8, cells := 1, slots := 6, locals := 142 }
set_option maxHeartbeats 4000000 in
set_option maxRecDepth 100000 in
theorem c_L_tone (l : Launch) (hst : l.stackTraces = false) (E : EE) (sz : Nat) (x a a2 a3 b d k pa y w : Nat → Nat) (g : GG) (B : Nat) (hI : IB B g) (p0 : Int32) (ol : Nat) (lo : Nat → Int64) : MW l yL_tone cL_tone 4 [(0, 9, 12, 21)] rm_L_tone [.ref (x 0), .int p0, .ref ol] E sz [loC E ol lo, coC E x a a2 a3 b d k pa y w, stC E a g] (fun (r : Int32) (u : (Unit × Int32 × (Nat → Int64)) ⊕ Unit) => Sum.elim (fun (vq : Unit × Int32 × (Nat → Int64)) => r = nI 0 ∧ (hasM g p0 = true ∧ vq.2.1 = nI (g 3 (tn p0))) ∧ vq.2.2 0 = vq.2.1.toInt64) (fun (vq : Unit) => r = nI 1 ∧ hasM g p0 = false) u) (fun u => Sum.elim (fun (vq : Unit × Int32 × (Nat → Int64)) => [loC E ol vq.2.2, coC E x a a2 a3 b d k pa y w, stC E a g]) (fun (vq : Unit) => [loC E ol lo, coC E x a a2 a3 b d k pa y w, stC E a g]) u) 1 6 := by
  refine mw_go (by decide) (Nat.le_of_ble_eq_true rfl) ?_
  intro p e s m below meth c A Q ls hx hb hml hown hts hK hZ hDD hA hsz hP hD hl htab hret
  have hS : va_S A s.heap s.heap [] := va_S.rf
  have hl : lv_has ls 4 [(0, .ref (x 0)), (1, .int p0), (2, .ref ol)] := hl
  refine lv_aload_n hx hb dL_tone_0 rfl (lv_at hl 2 rfl) ?_
  refine lv_iconst (v := nI 0) hx hb dL_tone_1 (by decide) ?_
  refine lv_aload_n hx hb dL_tone_2 rfl (lv_at hl 0 rfl) ?_
  refine lv_iload_n hx hb dL_tone_3 rfl (lv_at hl 1 rfl) ?_
  refine run_xi (S := Unit) (SX := Unit) (run_XV (As := [.int p0]) (rest := [.int (nI 0), .ref ol]) (bs := [loC E ol lo, coC E x a a2 a3 b d k pa y w, stC E a g]) (cb := [coC E x a a2 a3 b d k pa y w, stC E a g]) hx hb hml hown hts hK hZ hDD hA (c_X5_tone l hst E _ x a a2 a3 b d k pa y w g B hI p0) l_L_49 rfl ⟨⟨rfl, rfl⟩, Nat.le_of_ble_eq_true rfl, Nat.le_of_ble_eq_true rfl⟩ 9 rfl [1, 2] rfl (by decide) rfl hP hD hS hl.1 rfl (Nat.le_of_ble_eq_true rfl) dL_tone_4 ⟨Nat.le_of_ble_eq_true rfl, Nat.le_of_ble_eq_true rfl⟩) hA hP hD hS (isC := [1, 2]) rfl [0] [0, 1, 2] (br := [loC E ol lo]) (bs2 := fun _ => [loC E ol lo, coC E x a a2 a3 b d k pa y w, stC E a g]) (bx2 := fun _ => [loC E ol lo, coC E x a a2 a3 b d k pa y w, stC E a g]) rfl (by decide) (fun _ => rfl) (fun _ => rfl) (by decide) (fun Ex ce q9 ux H locs hw hP hD hS hc1 hc2 hc3 => ?_) (fun r u H locs hw hP hD hS => ?_)
  · skip
    obtain ⟨hE, hq⟩ := hw
    subst hE
    refine vx_catch (own := RL) (name := IOX) hown [] ⟨0, 9, 12, 21⟩ [] (htab.trans rfl) (fun z hz => absurd hz List.not_mem_nil) rfl (by decide) (hts _ q615) (va_Nw.use rfl (hZ.2.2.1 _ (List.mem_of_getElem? (i := 0) rfl))) hc1 hc2 hc3 ?_
    refine lv_astore_n (lv' := [(3, .ref q9), (0, .ref (x 0)), (1, .int p0), (2, .ref ol)]) hx hb dL_tone_12 rfl hl (by decide) rfl (fun ls hl => ?_)
    refine lv_iconst (v := nI 1) hx hb dL_tone_13 (by decide) ?_
    exact hret _ _ (nI 1) (.inr ()) _ _ _ _ hP hD hS ⟨rfl, hq⟩ dL_tone_14 (by omega) (by omega)
  refine lv_i2l hx hb dL_tone_7 rfl ?_
  refine va_last hx hb hK hP hD hS 0 4 rfl rfl (vp_in_nI (show 0 < 1 by decide) (by decide)) dL_tone_8 (fun H locs hP hD hS => ?_)
  rw [nI_clamp (show 0 < 2 ^ 31 by decide)] at hP hD
  have hP : va_P E.1 vwCl ([loC E ol (vp_updL lo 0 r.toInt64), coC E x a a2 a3 b d k pa y w, stC E a g] : List va_W).flatten H := hP
  have hD : va_D A ([loC E ol (vp_updL lo 0 r.toInt64), coC E x a a2 a3 b d k pa y w, stC E a g] : List va_W).flatten := hD
  refine lv_goto (tgt := 15) hx hb dL_tone_9 (by decide) ?_
  refine lv_iconst (v := nI 0) hx hb dL_tone_15 (by decide) ?_
  exact hret _ _ (nI 0) (.inl ((), r, (vp_updL lo 0 r.toInt64))) _ _ _ _ hP hD hS ⟨rfl, hw, rfl⟩ dL_tone_16 (by omega) (by omega)
abbrev rm_L_purse : Room := { frames := 8, cells := 1, slots := 6, locals := 142 }
set_option maxHeartbeats 4000000 in
set_option maxRecDepth 100000 in
theorem c_L_purse (l : Launch) (hst : l.stackTraces = false) (E : EE) (sz : Nat) (x a a2 a3 b d k pa y w : Nat → Nat) (g : GG) (B : Nat) (hI : IB B g) (p0 : Int32) (ol : Nat) (lo : Nat → Int64) : MW l yL_purse cL_purse 4 [(0, 9, 12, 21)] rm_L_purse [.ref (x 0), .int p0, .ref ol] E sz [loC E ol lo, coC E x a a2 a3 b d k pa y w, stC E a g] (fun (r : Int32) (u : (Unit × Int32 × (Nat → Int64)) ⊕ Unit) => Sum.elim (fun (vq : Unit × Int32 × (Nat → Int64)) => r = nI 0 ∧ (hasM g p0 = true ∧ vq.2.1 = nI (g 5 (tn p0))) ∧ vq.2.2 0 = vq.2.1.toInt64) (fun (vq : Unit) => r = nI 1 ∧ hasM g p0 = false) u) (fun u => Sum.elim (fun (vq : Unit × Int32 × (Nat → Int64)) => [loC E ol vq.2.2, coC E x a a2 a3 b d k pa y w, stC E a g]) (fun (vq : Unit) => [loC E ol lo, coC E x a a2 a3 b d k pa y w, stC E a g]) u) 1 6 := by
  refine mw_go (by decide) (Nat.le_of_ble_eq_true rfl) ?_
  intro p e s m below meth c A Q ls hx hb hml hown hts hK hZ hDD hA hsz hP hD hl htab hret
  have hS : va_S A s.heap s.heap [] := va_S.rf
  have hl : lv_has ls 4 [(0, .ref (x 0)), (1, .int p0), (2, .ref ol)] := hl
  refine lv_aload_n hx hb dL_purse_0 rfl (lv_at hl 2 rfl) ?_
  refine lv_iconst (v := nI 0) hx hb dL_purse_1 (by decide) ?_
  refine lv_aload_n hx hb dL_purse_2 rfl (lv_at hl 0 rfl) ?_
  refine lv_iload_n hx hb dL_purse_3 rfl (lv_at hl 1 rfl) ?_
  refine run_xi (S := Unit) (SX := Unit) (run_XV (As := [.int p0]) (rest := [.int (nI 0), .ref ol]) (bs := [loC E ol lo, coC E x a a2 a3 b d k pa y w, stC E a g]) (cb := [coC E x a a2 a3 b d k pa y w, stC E a g]) hx hb hml hown hts hK hZ hDD hA (c_X5_purse l hst E _ x a a2 a3 b d k pa y w g B hI p0) l_L_52 rfl ⟨⟨rfl, rfl⟩, Nat.le_of_ble_eq_true rfl, Nat.le_of_ble_eq_true rfl⟩ 9 rfl [1, 2] rfl (by decide) rfl hP hD hS hl.1 rfl (Nat.le_of_ble_eq_true rfl) dL_purse_4 ⟨Nat.le_of_ble_eq_true rfl, Nat.le_of_ble_eq_true rfl⟩) hA hP hD hS (isC := [1, 2]) rfl [0] [0, 1, 2] (br := [loC E ol lo]) (bs2 := fun _ => [loC E ol lo, coC E x a a2 a3 b d k pa y w, stC E a g]) (bx2 := fun _ => [loC E ol lo, coC E x a a2 a3 b d k pa y w, stC E a g]) rfl (by decide) (fun _ => rfl) (fun _ => rfl) (by decide) (fun Ex ce q9 ux H locs hw hP hD hS hc1 hc2 hc3 => ?_) (fun r u H locs hw hP hD hS => ?_)
  · skip
    obtain ⟨hE, hq⟩ := hw
    subst hE
    refine vx_catch (own := RL) (name := IOX) hown [] ⟨0, 9, 12, 21⟩ [] (htab.trans rfl) (fun z hz => absurd hz List.not_mem_nil) rfl (by decide) (hts _ q615) (va_Nw.use rfl (hZ.2.2.1 _ (List.mem_of_getElem? (i := 0) rfl))) hc1 hc2 hc3 ?_
    refine lv_astore_n (lv' := [(3, .ref q9), (0, .ref (x 0)), (1, .int p0), (2, .ref ol)]) hx hb dL_purse_12 rfl hl (by decide) rfl (fun ls hl => ?_)
    refine lv_iconst (v := nI 1) hx hb dL_purse_13 (by decide) ?_
    exact hret _ _ (nI 1) (.inr ()) _ _ _ _ hP hD hS ⟨rfl, hq⟩ dL_purse_14 (by omega) (by omega)
  refine lv_i2l hx hb dL_purse_7 rfl ?_
  refine va_last hx hb hK hP hD hS 0 4 rfl rfl (vp_in_nI (show 0 < 1 by decide) (by decide)) dL_purse_8 (fun H locs hP hD hS => ?_)
  rw [nI_clamp (show 0 < 2 ^ 31 by decide)] at hP hD
  have hP : va_P E.1 vwCl ([loC E ol (vp_updL lo 0 r.toInt64), coC E x a a2 a3 b d k pa y w, stC E a g] : List va_W).flatten H := hP
  have hD : va_D A ([loC E ol (vp_updL lo 0 r.toInt64), coC E x a a2 a3 b d k pa y w, stC E a g] : List va_W).flatten := hD
  refine lv_goto (tgt := 15) hx hb dL_purse_9 (by decide) ?_
  refine lv_iconst (v := nI 0) hx hb dL_purse_15 (by decide) ?_
  exact hret _ _ (nI 0) (.inl ((), r, (vp_updL lo 0 r.toInt64))) _ _ _ _ hP hD hS ⟨rfl, hw, rfl⟩ dL_purse_16 (by omega) (by omega)
abbrev rm_L_dissents : Room := { frames := 8, cells := 1, slots := 6, locals := 142 }
set_option maxHeartbeats 4000000 in
set_option maxRecDepth 100000 in
theorem c_L_dissents (l : Launch) (hst : l.stackTraces = false) (E : EE) (sz : Nat) (x a a2 a3 b d k pa y w : Nat → Nat) (g : GG) (B : Nat) (hI : IB B g) (p0 : Int32) (ol : Nat) (lo : Nat → Int64) : MW l yL_dissents cL_dissents 4 [(0, 9, 12, 21)] rm_L_dissents [.ref (x 0), .int p0, .ref ol] E sz [loC E ol lo, coC E x a a2 a3 b d k pa y w, stC E a g] (fun (r : Int32) (u : (Unit × Int32 × (Nat → Int64)) ⊕ Unit) => Sum.elim (fun (vq : Unit × Int32 × (Nat → Int64)) => r = nI 0 ∧ (hasM g p0 = true ∧ vq.2.1 = nI (g 6 (tn p0))) ∧ vq.2.2 0 = vq.2.1.toInt64) (fun (vq : Unit) => r = nI 1 ∧ hasM g p0 = false) u) (fun u => Sum.elim (fun (vq : Unit × Int32 × (Nat → Int64)) => [loC E ol vq.2.2, coC E x a a2 a3 b d k pa y w, stC E a g]) (fun (vq : Unit) => [loC E ol lo, coC E x a a2 a3 b d k pa y w, stC E a g]) u) 1 6 := by
  refine mw_go (by decide) (Nat.le_of_ble_eq_true rfl) ?_
  intro p e s m below meth c A Q ls hx hb hml hown hts hK hZ hDD hA hsz hP hD hl htab hret
  have hS : va_S A s.heap s.heap [] := va_S.rf
  have hl : lv_has ls 4 [(0, .ref (x 0)), (1, .int p0), (2, .ref ol)] := hl
  refine lv_aload_n hx hb dL_dissents_0 rfl (lv_at hl 2 rfl) ?_
  refine lv_iconst (v := nI 0) hx hb dL_dissents_1 (by decide) ?_
  refine lv_aload_n hx hb dL_dissents_2 rfl (lv_at hl 0 rfl) ?_
  refine lv_iload_n hx hb dL_dissents_3 rfl (lv_at hl 1 rfl) ?_
  refine run_xi (S := Unit) (SX := Unit) (run_XV (As := [.int p0]) (rest := [.int (nI 0), .ref ol]) (bs := [loC E ol lo, coC E x a a2 a3 b d k pa y w, stC E a g]) (cb := [coC E x a a2 a3 b d k pa y w, stC E a g]) hx hb hml hown hts hK hZ hDD hA (c_X5_dissents l hst E _ x a a2 a3 b d k pa y w g B hI p0) l_L_55 rfl ⟨⟨rfl, rfl⟩, Nat.le_of_ble_eq_true rfl, Nat.le_of_ble_eq_true rfl⟩ 9 rfl [1, 2] rfl (by decide) rfl hP hD hS hl.1 rfl (Nat.le_of_ble_eq_true rfl) dL_dissents_4 ⟨Nat.le_of_ble_eq_true rfl, Nat.le_of_ble_eq_true rfl⟩) hA hP hD hS (isC := [1, 2]) rfl [0] [0, 1, 2] (br := [loC E ol lo]) (bs2 := fun _ => [loC E ol lo, coC E x a a2 a3 b d k pa y w, stC E a g]) (bx2 := fun _ => [loC E ol lo, coC E x a a2 a3 b d k pa y w, stC E a g]) rfl (by decide) (fun _ => rfl) (fun _ => rfl) (by decide) (fun Ex ce q9 ux H locs hw hP hD hS hc1 hc2 hc3 => ?_) (fun r u H locs hw hP hD hS => ?_)
  · skip
    obtain ⟨hE, hq⟩ := hw
    subst hE
    refine vx_catch (own := RL) (name := IOX) hown [] ⟨0, 9, 12, 21⟩ [] (htab.trans rfl) (fun z hz => absurd hz List.not_mem_nil) rfl (by decide) (hts _ q615) (va_Nw.use rfl (hZ.2.2.1 _ (List.mem_of_getElem? (i := 0) rfl))) hc1 hc2 hc3 ?_
    refine lv_astore_n (lv' := [(3, .ref q9), (0, .ref (x 0)), (1, .int p0), (2, .ref ol)]) hx hb dL_dissents_12 rfl hl (by decide) rfl (fun ls hl => ?_)
    refine lv_iconst (v := nI 1) hx hb dL_dissents_13 (by decide) ?_
    exact hret _ _ (nI 1) (.inr ()) _ _ _ _ hP hD hS ⟨rfl, hq⟩ dL_dissents_14 (by omega) (by omega)
  refine lv_i2l hx hb dL_dissents_7 rfl ?_
  refine va_last hx hb hK hP hD hS 0 4 rfl rfl (vp_in_nI (show 0 < 1 by decide) (by decide)) dL_dissents_8 (fun H locs hP hD hS => ?_)
  rw [nI_clamp (show 0 < 2 ^ 31 by decide)] at hP hD
  have hP : va_P E.1 vwCl ([loC E ol (vp_updL lo 0 r.toInt64), coC E x a a2 a3 b d k pa y w, stC E a g] : List va_W).flatten H := hP
  have hD : va_D A ([loC E ol (vp_updL lo 0 r.toInt64), coC E x a a2 a3 b d k pa y w, stC E a g] : List va_W).flatten := hD
  refine lv_goto (tgt := 15) hx hb dL_dissents_9 (by decide) ?_
  refine lv_iconst (v := nI 0) hx hb dL_dissents_15 (by decide) ?_
  exact hret _ _ (nI 0) (.inl ((), r, (vp_updL lo 0 r.toInt64))) _ _ _ _ hP hD hS ⟨rfl, hw, rfl⟩ dL_dissents_16 (by omega) (by omega)
abbrev rm_L_interval : Room := { frames := 8, cells := 2, slots := 12, locals := 143 }
set_option maxHeartbeats 4000000 in
set_option maxRecDepth 100000 in
theorem c_L_interval (l : Launch) (hst : l.stackTraces = false) (E : EE) (sz : Nat) (x a a2 a3 b d k pa y w : Nat → Nat) (g : GG) (B : Nat) (hI : IB B g) (p0 p1 : Int32) (ol : Nat) (lo : Nat → Int64) : MW l yL_interval cL_interval 5 [(0, 10, 13, 21)] rm_L_interval [.ref (x 0), .int p0, .int p1, .ref ol] E sz [loC E ol lo, coC E x a a2 a3 b d k pa y w, stC E a g] (fun (r : Int32) (u : (Unit × Int32 × (Nat → Int64)) ⊕ Unit) => Sum.elim (fun (vq : Unit × Int32 × (Nat → Int64)) => r = nI 0 ∧ ((hasM g p0 && hasM g p1) = true ∧ vq.2.1 = nI (ap (g 3 (tn p0)) (g 3 (tn p1)))) ∧ vq.2.2 0 = vq.2.1.toInt64) (fun (vq : Unit) => r = nI 1 ∧ (hasM g p0 && hasM g p1) = false) u) (fun u => Sum.elim (fun (vq : Unit × Int32 × (Nat → Int64)) => [loC E ol vq.2.2, coC E x a a2 a3 b d k pa y w, stC E a g]) (fun (vq : Unit) => [loC E ol lo, coC E x a a2 a3 b d k pa y w, stC E a g]) u) 2 12 := by
  refine mw_go (by decide) (Nat.le_of_ble_eq_true rfl) ?_
  intro p e s m below meth c A Q ls hx hb hml hown hts hK hZ hDD hA hsz hP hD hl htab hret
  have hS : va_S A s.heap s.heap [] := va_S.rf
  have hl : lv_has ls 5 [(0, .ref (x 0)), (1, .int p0), (2, .int p1), (3, .ref ol)] := hl
  refine lv_aload_n hx hb dL_interval_0 rfl (lv_at hl 3 rfl) ?_
  refine lv_iconst (v := nI 0) hx hb dL_interval_1 (by decide) ?_
  refine lv_aload_n hx hb dL_interval_2 rfl (lv_at hl 0 rfl) ?_
  refine lv_iload_n hx hb dL_interval_3 rfl (lv_at hl 1 rfl) ?_
  refine lv_iload_n hx hb dL_interval_4 rfl (lv_at hl 2 rfl) ?_
  refine run_xi (S := Unit) (SX := Unit) (run_XV (As := [.int p0, .int p1]) (rest := [.int (nI 0), .ref ol]) (bs := [loC E ol lo, coC E x a a2 a3 b d k pa y w, stC E a g]) (cb := [coC E x a a2 a3 b d k pa y w, stC E a g]) hx hb hml hown hts hK hZ hDD hA (c_X5_interval l hst E _ x a a2 a3 b d k pa y w g B hI p0 p1) l_L_58 rfl ⟨⟨rfl, rfl⟩, Nat.le_of_ble_eq_true rfl, Nat.le_of_ble_eq_true rfl⟩ 9 rfl [1, 2] rfl (by decide) rfl hP hD hS hl.1 rfl (Nat.le_of_ble_eq_true rfl) dL_interval_5 ⟨Nat.le_of_ble_eq_true rfl, Nat.le_of_ble_eq_true rfl⟩) hA hP hD hS (isC := [1, 2]) rfl [0] [0, 1, 2] (br := [loC E ol lo]) (bs2 := fun _ => [loC E ol lo, coC E x a a2 a3 b d k pa y w, stC E a g]) (bx2 := fun _ => [loC E ol lo, coC E x a a2 a3 b d k pa y w, stC E a g]) rfl (by decide) (fun _ => rfl) (fun _ => rfl) (by decide) (fun Ex ce q9 ux H locs hw hP hD hS hc1 hc2 hc3 => ?_) (fun r u H locs hw hP hD hS => ?_)
  · skip
    obtain ⟨hE, hq⟩ := hw
    subst hE
    refine vx_catch (own := RL) (name := IOX) hown [] ⟨0, 10, 13, 21⟩ [] (htab.trans rfl) (fun z hz => absurd hz List.not_mem_nil) rfl (by decide) (hts _ q615) (va_Nw.use rfl (hZ.2.2.1 _ (List.mem_of_getElem? (i := 0) rfl))) hc1 hc2 hc3 ?_
    refine lv_astore (lv' := [(4, .ref q9), (0, .ref (x 0)), (1, .int p0), (2, .int p1), (3, .ref ol)]) hx hb dL_interval_13 hl (by decide) rfl (fun ls hl => ?_)
    refine lv_iconst (v := nI 1) hx hb dL_interval_15 (by decide) ?_
    exact hret _ _ (nI 1) (.inr ()) _ _ _ _ hP hD hS ⟨rfl, hq⟩ dL_interval_16 (by omega) (by omega)
  refine lv_i2l hx hb dL_interval_8 rfl ?_
  refine va_last hx hb hK hP hD hS 0 4 rfl rfl (vp_in_nI (show 0 < 1 by decide) (by decide)) dL_interval_9 (fun H locs hP hD hS => ?_)
  rw [nI_clamp (show 0 < 2 ^ 31 by decide)] at hP hD
  have hP : va_P E.1 vwCl ([loC E ol (vp_updL lo 0 r.toInt64), coC E x a a2 a3 b d k pa y w, stC E a g] : List va_W).flatten H := hP
  have hD : va_D A ([loC E ol (vp_updL lo 0 r.toInt64), coC E x a a2 a3 b d k pa y w, stC E a g] : List va_W).flatten := hD
  refine lv_goto (tgt := 17) hx hb dL_interval_10 (by decide) ?_
  refine lv_iconst (v := nI 0) hx hb dL_interval_17 (by decide) ?_
  exact hret _ _ (nI 0) (.inl ((), r, (vp_updL lo 0 r.toInt64))) _ _ _ _ hP hD hS ⟨rfl, hw, rfl⟩ dL_interval_18 (by omega) (by omega)
abbrev rm_L_memberAtRank : Room := { frames := 7, cells := 1, slots := 6, locals := 122 }
set_option maxHeartbeats 4000000 in
set_option maxRecDepth 100000 in
theorem c_L_memberAtRank (l : Launch) (hst : l.stackTraces = false) (E : EE) (sz : Nat) (x a a2 a3 b d k pa y w : Nat → Nat) (g : GG) (B : Nat) (hI : IB B g) (p0 : Int32) (ol : Nat) (lo : Nat → Int64) : MW l yL_memberAtRank cL_memberAtRank 4 [(0, 9, 12, 64)] rm_L_memberAtRank [.ref (x 0), .int p0, .ref ol] E sz [loC E ol lo, coC E x a a2 a3 b d k pa y w, stC E a g] (fun (r : Int32) (u : (Unit × Int32 × (Nat → Int64)) ⊕ Unit) => Sum.elim (fun (vq : Unit × Int32 × (Nat → Int64)) => r = nI 0 ∧ (fst1 (fun a => decide ((mAh g a : Int) = p0.toInt)) (g 8 0) < g 8 0 ∧ vq.2.1 = nI (fst1 (fun a => decide ((mAh g a : Int) = p0.toInt)) (g 8 0))) ∧ vq.2.2 0 = vq.2.1.toInt64) (fun (vq : Unit) => r = nI 1 ∧ ¬ fst1 (fun a => decide ((mAh g a : Int) = p0.toInt)) (g 8 0) < g 8 0) u) (fun u => Sum.elim (fun (vq : Unit × Int32 × (Nat → Int64)) => [loC E ol vq.2.2, coC E x a a2 a3 b d k pa y w, stC E a g]) (fun (vq : Unit) => [loC E ol lo, coC E x a a2 a3 b d k pa y w, stC E a g]) u) 1 6 := by
  refine mw_go (by decide) (Nat.le_of_ble_eq_true rfl) ?_
  intro p e s m below meth c A Q ls hx hb hml hown hts hK hZ hDD hA hsz hP hD hl htab hret
  have hS : va_S A s.heap s.heap [] := va_S.rf
  have hl : lv_has ls 4 [(0, .ref (x 0)), (1, .int p0), (2, .ref ol)] := hl
  refine lv_aload_n hx hb dL_memberAtRank_0 rfl (lv_at hl 2 rfl) ?_
  refine lv_iconst (v := nI 0) hx hb dL_memberAtRank_1 (by decide) ?_
  refine lv_aload_n hx hb dL_memberAtRank_2 rfl (lv_at hl 0 rfl) ?_
  refine lv_iload_n hx hb dL_memberAtRank_3 rfl (lv_at hl 1 rfl) ?_
  refine run_xi (S := Unit) (SX := Unit) (run_XV (As := [.int p0]) (rest := [.int (nI 0), .ref ol]) (bs := [loC E ol lo, coC E x a a2 a3 b d k pa y w, stC E a g]) (cb := [coC E x a a2 a3 b d k pa y w, stC E a g]) hx hb hml hown hts hK hZ hDD hA (c_X5_memberAtRank l hst E _ x a a2 a3 b d k pa y w g B hI p0) l_L_61 rfl ⟨⟨rfl, rfl⟩, Nat.le_of_ble_eq_true rfl, Nat.le_of_ble_eq_true rfl⟩ 9 rfl [1, 2] rfl (by decide) rfl hP hD hS hl.1 rfl (Nat.le_of_ble_eq_true rfl) dL_memberAtRank_4 ⟨Nat.le_of_ble_eq_true rfl, Nat.le_of_ble_eq_true rfl⟩) hA hP hD hS (isC := [1, 2]) rfl [0] [0, 1, 2] (br := [loC E ol lo]) (bs2 := fun _ => [loC E ol lo, coC E x a a2 a3 b d k pa y w, stC E a g]) (bx2 := fun _ => [loC E ol lo, coC E x a a2 a3 b d k pa y w, stC E a g]) rfl (by decide) (fun _ => rfl) (fun _ => rfl) (by decide) (fun Ex ce q9 ux H locs hw hP hD hS hc1 hc2 hc3 => ?_) (fun r u H locs hw hP hD hS => ?_)
  · skip
    obtain ⟨hE, hq⟩ := hw
    subst hE
    refine vx_catch (own := RL) (name := NSE) hown [] ⟨0, 9, 12, 64⟩ [] (htab.trans rfl) (fun z hz => absurd hz List.not_mem_nil) rfl (by decide) (hts _ q806) (va_Nw.use rfl (hZ.2.2.1 _ (List.mem_of_getElem? (i := 5) rfl))) hc1 hc2 hc3 ?_
    refine lv_astore_n (lv' := [(3, .ref q9), (0, .ref (x 0)), (1, .int p0), (2, .ref ol)]) hx hb dL_memberAtRank_12 rfl hl (by decide) rfl (fun ls hl => ?_)
    refine lv_iconst (v := nI 1) hx hb dL_memberAtRank_13 (by decide) ?_
    exact hret _ _ (nI 1) (.inr ()) _ _ _ _ hP hD hS ⟨rfl, hq⟩ dL_memberAtRank_14 (by omega) (by omega)
  refine lv_i2l hx hb dL_memberAtRank_7 rfl ?_
  refine va_last hx hb hK hP hD hS 0 4 rfl rfl (vp_in_nI (show 0 < 1 by decide) (by decide)) dL_memberAtRank_8 (fun H locs hP hD hS => ?_)
  rw [nI_clamp (show 0 < 2 ^ 31 by decide)] at hP hD
  have hP : va_P E.1 vwCl ([loC E ol (vp_updL lo 0 r.toInt64), coC E x a a2 a3 b d k pa y w, stC E a g] : List va_W).flatten H := hP
  have hD : va_D A ([loC E ol (vp_updL lo 0 r.toInt64), coC E x a a2 a3 b d k pa y w, stC E a g] : List va_W).flatten := hD
  refine lv_goto (tgt := 15) hx hb dL_memberAtRank_9 (by decide) ?_
  refine lv_iconst (v := nI 0) hx hb dL_memberAtRank_15 (by decide) ?_
  exact hret _ _ (nI 0) (.inl ((), r, (vp_updL lo 0 r.toInt64))) _ _ _ _ hP hD hS ⟨rfl, hw, rfl⟩ dL_memberAtRank_16 (by omega) (by omega)
abbrev rm_L_dueBeats : Room := { frames := 8, cells := 1, slots := 6, locals := 142 }
set_option maxHeartbeats 4000000 in
set_option maxRecDepth 100000 in
theorem c_L_dueBeats (l : Launch) (hst : l.stackTraces = false) (E : EE) (sz : Nat) (x a a2 a3 b d k pa y w : Nat → Nat) (g : GG) (B : Nat) (hI : IB B g) (p0 : Int32) (ol : Nat) (lo : Nat → Int64) : MW l yL_dueBeats cL_dueBeats 4 [(0, 8, 11, 21)] rm_L_dueBeats [.ref (x 0), .int p0, .ref ol] E sz [loC E ol lo, coC E x a a2 a3 b d k pa y w, stC E a g] (fun (r : Int32) (u : (Unit × Int64 × (Nat → Int64)) ⊕ Unit) => Sum.elim (fun (vq : Unit × Int64 × (Nat → Int64)) => r = nI 0 ∧ (hasM g p0 = true ∧ vq.2.1 = lN (dlk g (tn p0) 60)) ∧ vq.2.2 0 = vq.2.1) (fun (vq : Unit) => r = nI 1 ∧ hasM g p0 = false) u) (fun u => Sum.elim (fun (vq : Unit × Int64 × (Nat → Int64)) => [loC E ol vq.2.2, coC E x a a2 a3 b d k pa y w, stC E a g]) (fun (vq : Unit) => [loC E ol lo, coC E x a a2 a3 b d k pa y w, stC E a g]) u) 1 6 := by
  refine mw_go (by decide) (Nat.le_of_ble_eq_true rfl) ?_
  intro p e s m below meth c A Q ls hx hb hml hown hts hK hZ hDD hA hsz hP hD hl htab hret
  have hS : va_S A s.heap s.heap [] := va_S.rf
  have hl : lv_has ls 4 [(0, .ref (x 0)), (1, .int p0), (2, .ref ol)] := hl
  refine lv_aload_n hx hb dL_dueBeats_0 rfl (lv_at hl 2 rfl) ?_
  refine lv_iconst (v := nI 0) hx hb dL_dueBeats_1 (by decide) ?_
  refine lv_aload_n hx hb dL_dueBeats_2 rfl (lv_at hl 0 rfl) ?_
  refine lv_iload_n hx hb dL_dueBeats_3 rfl (lv_at hl 1 rfl) ?_
  refine run_xl (S := Unit) (SX := Unit) (run_XV (As := [.int p0]) (rest := [.int (nI 0), .ref ol]) (bs := [loC E ol lo, coC E x a a2 a3 b d k pa y w, stC E a g]) (cb := [coC E x a a2 a3 b d k pa y w, stC E a g]) hx hb hml hown hts hK hZ hDD hA (c_X5_dueBeats l hst E _ x a a2 a3 b d k pa y w g B hI p0) l_L_66 rfl ⟨⟨rfl, rfl⟩, Nat.le_of_ble_eq_true rfl, Nat.le_of_ble_eq_true rfl⟩ 9 rfl [1, 2] rfl (by decide) rfl hP hD hS hl.1 rfl (Nat.le_of_ble_eq_true rfl) dL_dueBeats_4 ⟨Nat.le_of_ble_eq_true rfl, Nat.le_of_ble_eq_true rfl⟩) hA hP hD hS (isC := [1, 2]) rfl [0] [0, 1, 2] (br := [loC E ol lo]) (bs2 := fun _ => [loC E ol lo, coC E x a a2 a3 b d k pa y w, stC E a g]) (bx2 := fun _ => [loC E ol lo, coC E x a a2 a3 b d k pa y w, stC E a g]) rfl (by decide) (fun _ => rfl) (fun _ => rfl) (by decide) (fun Ex ce q9 ux H locs hw hP hD hS hc1 hc2 hc3 => ?_) (fun r u H locs hw hP hD hS => ?_)
  · skip
    obtain ⟨hE, hq⟩ := hw
    subst hE
    refine vx_catch (own := RL) (name := IOX) hown [] ⟨0, 8, 11, 21⟩ [] (htab.trans rfl) (fun z hz => absurd hz List.not_mem_nil) rfl (by decide) (hts _ q615) (va_Nw.use rfl (hZ.2.2.1 _ (List.mem_of_getElem? (i := 0) rfl))) hc1 hc2 hc3 ?_
    refine lv_astore_n (lv' := [(3, .ref q9), (0, .ref (x 0)), (1, .int p0), (2, .ref ol)]) hx hb dL_dueBeats_11 rfl hl (by decide) rfl (fun ls hl => ?_)
    refine lv_iconst (v := nI 1) hx hb dL_dueBeats_12 (by decide) ?_
    exact hret _ _ (nI 1) (.inr ()) _ _ _ _ hP hD hS ⟨rfl, hq⟩ dL_dueBeats_13 (by omega) (by omega)
  refine va_last hx hb hK hP hD hS 0 4 rfl rfl (vp_in_nI (show 0 < 1 by decide) (by decide)) dL_dueBeats_7 (fun H locs hP hD hS => ?_)
  rw [nI_clamp (show 0 < 2 ^ 31 by decide)] at hP hD
  have hP : va_P E.1 vwCl ([loC E ol (vp_updL lo 0 r), coC E x a a2 a3 b d k pa y w, stC E a g] : List va_W).flatten H := hP
  have hD : va_D A ([loC E ol (vp_updL lo 0 r), coC E x a a2 a3 b d k pa y w, stC E a g] : List va_W).flatten := hD
  refine lv_goto (tgt := 14) hx hb dL_dueBeats_8 (by decide) ?_
  refine lv_iconst (v := nI 0) hx hb dL_dueBeats_14 (by decide) ?_
  exact hret _ _ (nI 0) (.inl ((), r, (vp_updL lo 0 r))) _ _ _ _ hP hD hS ⟨rfl, hw, rfl⟩ dL_dueBeats_15 (by omega) (by omega)
abbrev rm_L_dueBeatsByDoubling : Room := { frames := 8, cells := 1, slots := 6, locals := 142 }
set_option maxHeartbeats 4000000 in
set_option maxRecDepth 100000 in
theorem c_L_dueBeatsByDoubling (l : Launch) (hst : l.stackTraces = false) (E : EE) (sz : Nat) (x a a2 a3 b d k pa y w : Nat → Nat) (g : GG) (B : Nat) (hI : IB B g) (p0 : Int32) (ol : Nat) (lo : Nat → Int64) : MW l yL_dueBeatsByDoubling cL_dueBeatsByDoubling 4 [(0, 8, 11, 21)] rm_L_dueBeatsByDoubling [.ref (x 0), .int p0, .ref ol] E sz [loC E ol lo, coC E x a a2 a3 b d k pa y w, stC E a g] (fun (r : Int32) (u : (Unit × Int64 × (Nat → Int64)) ⊕ Unit) => Sum.elim (fun (vq : Unit × Int64 × (Nat → Int64)) => r = nI 0 ∧ (hasM g p0 = true ∧ vq.2.1 = lN (dlk g (tn p0) 60)) ∧ vq.2.2 0 = vq.2.1) (fun (vq : Unit) => r = nI 1 ∧ hasM g p0 = false) u) (fun u => Sum.elim (fun (vq : Unit × Int64 × (Nat → Int64)) => [loC E ol vq.2.2, coC E x a a2 a3 b d k pa y w, stC E a g]) (fun (vq : Unit) => [loC E ol lo, coC E x a a2 a3 b d k pa y w, stC E a g]) u) 1 6 := by
  refine mw_go (by decide) (Nat.le_of_ble_eq_true rfl) ?_
  intro p e s m below meth c A Q ls hx hb hml hown hts hK hZ hDD hA hsz hP hD hl htab hret
  have hS : va_S A s.heap s.heap [] := va_S.rf
  have hl : lv_has ls 4 [(0, .ref (x 0)), (1, .int p0), (2, .ref ol)] := hl
  refine lv_aload_n hx hb dL_dueBeatsByDoubling_0 rfl (lv_at hl 2 rfl) ?_
  refine lv_iconst (v := nI 0) hx hb dL_dueBeatsByDoubling_1 (by decide) ?_
  refine lv_aload_n hx hb dL_dueBeatsByDoubling_2 rfl (lv_at hl 0 rfl) ?_
  refine lv_iload_n hx hb dL_dueBeatsByDoubling_3 rfl (lv_at hl 1 rfl) ?_
  refine run_xl (S := Unit) (SX := Unit) (run_XV (As := [.int p0]) (rest := [.int (nI 0), .ref ol]) (bs := [loC E ol lo, coC E x a a2 a3 b d k pa y w, stC E a g]) (cb := [coC E x a a2 a3 b d k pa y w, stC E a g]) hx hb hml hown hts hK hZ hDD hA (c_X5_dueBeatsByDoubling l hst E _ x a a2 a3 b d k pa y w g B hI p0) l_L_70 rfl ⟨⟨rfl, rfl⟩, Nat.le_of_ble_eq_true rfl, Nat.le_of_ble_eq_true rfl⟩ 9 rfl [1, 2] rfl (by decide) rfl hP hD hS hl.1 rfl (Nat.le_of_ble_eq_true rfl) dL_dueBeatsByDoubling_4 ⟨Nat.le_of_ble_eq_true rfl, Nat.le_of_ble_eq_true rfl⟩) hA hP hD hS (isC := [1, 2]) rfl [0] [0, 1, 2] (br := [loC E ol lo]) (bs2 := fun _ => [loC E ol lo, coC E x a a2 a3 b d k pa y w, stC E a g]) (bx2 := fun _ => [loC E ol lo, coC E x a a2 a3 b d k pa y w, stC E a g]) rfl (by decide) (fun _ => rfl) (fun _ => rfl) (by decide) (fun Ex ce q9 ux H locs hw hP hD hS hc1 hc2 hc3 => ?_) (fun r u H locs hw hP hD hS => ?_)
  · skip
    obtain ⟨hE, hq⟩ := hw
    subst hE
    refine vx_catch (own := RL) (name := IOX) hown [] ⟨0, 8, 11, 21⟩ [] (htab.trans rfl) (fun z hz => absurd hz List.not_mem_nil) rfl (by decide) (hts _ q615) (va_Nw.use rfl (hZ.2.2.1 _ (List.mem_of_getElem? (i := 0) rfl))) hc1 hc2 hc3 ?_
    refine lv_astore_n (lv' := [(3, .ref q9), (0, .ref (x 0)), (1, .int p0), (2, .ref ol)]) hx hb dL_dueBeatsByDoubling_11 rfl hl (by decide) rfl (fun ls hl => ?_)
    refine lv_iconst (v := nI 1) hx hb dL_dueBeatsByDoubling_12 (by decide) ?_
    exact hret _ _ (nI 1) (.inr ()) _ _ _ _ hP hD hS ⟨rfl, hq⟩ dL_dueBeatsByDoubling_13 (by omega) (by omega)
  refine va_last hx hb hK hP hD hS 0 4 rfl rfl (vp_in_nI (show 0 < 1 by decide) (by decide)) dL_dueBeatsByDoubling_7 (fun H locs hP hD hS => ?_)
  rw [nI_clamp (show 0 < 2 ^ 31 by decide)] at hP hD
  have hP : va_P E.1 vwCl ([loC E ol (vp_updL lo 0 r), coC E x a a2 a3 b d k pa y w, stC E a g] : List va_W).flatten H := hP
  have hD : va_D A ([loC E ol (vp_updL lo 0 r), coC E x a a2 a3 b d k pa y w, stC E a g] : List va_W).flatten := hD
  refine lv_goto (tgt := 14) hx hb dL_dueBeatsByDoubling_8 (by decide) ?_
  refine lv_iconst (v := nI 0) hx hb dL_dueBeatsByDoubling_14 (by decide) ?_
  exact hret _ _ (nI 0) (.inl ((), r, (vp_updL lo 0 r))) _ _ _ _ hP hD hS ⟨rfl, hw, rfl⟩ dL_dueBeatsByDoubling_15 (by omega) (by omega)
abbrev rm_L_commonBeats : Room := { frames := 8, cells := 2, slots := 12, locals := 143 }
set_option maxHeartbeats 4000000 in
set_option maxRecDepth 100000 in
theorem c_L_commonBeats (l : Launch) (hst : l.stackTraces = false) (E : EE) (sz : Nat) (x a a2 a3 b d k pa y w : Nat → Nat) (g : GG) (B : Nat) (hI : IB B g) (p0 p1 : Int32) (ol : Nat) (lo : Nat → Int64) : MW l yL_commonBeats cL_commonBeats 5 [(0, 10, 13, 21)] rm_L_commonBeats [.ref (x 0), .int p0, .int p1, .ref ol] E sz [loC E ol lo, coC E x a a2 a3 b d k pa y w, stC E a g] (fun (r : Int32) (u : (Unit × Int32 × (Nat → Int64)) ⊕ Unit) => Sum.elim (fun (vq : Unit × Int32 × (Nat → Int64)) => r = nI 0 ∧ ((hasM g p0 && hasM g p1) = true ∧ vq.2.1 = nI (cmC g (tn p0) (tn p1))) ∧ vq.2.2 0 = vq.2.1.toInt64) (fun (vq : Unit) => r = nI 1 ∧ (hasM g p0 && hasM g p1) = false) u) (fun u => Sum.elim (fun (vq : Unit × Int32 × (Nat → Int64)) => [loC E ol vq.2.2, coC E x a a2 a3 b d k pa y w, stC E a g]) (fun (vq : Unit) => [loC E ol lo, coC E x a a2 a3 b d k pa y w, stC E a g]) u) 2 12 := by
  refine mw_go (by decide) (Nat.le_of_ble_eq_true rfl) ?_
  intro p e s m below meth c A Q ls hx hb hml hown hts hK hZ hDD hA hsz hP hD hl htab hret
  have hS : va_S A s.heap s.heap [] := va_S.rf
  have hl : lv_has ls 5 [(0, .ref (x 0)), (1, .int p0), (2, .int p1), (3, .ref ol)] := hl
  refine lv_aload_n hx hb dL_commonBeats_0 rfl (lv_at hl 3 rfl) ?_
  refine lv_iconst (v := nI 0) hx hb dL_commonBeats_1 (by decide) ?_
  refine lv_aload_n hx hb dL_commonBeats_2 rfl (lv_at hl 0 rfl) ?_
  refine lv_iload_n hx hb dL_commonBeats_3 rfl (lv_at hl 1 rfl) ?_
  refine lv_iload_n hx hb dL_commonBeats_4 rfl (lv_at hl 2 rfl) ?_
  refine run_xi (S := Unit) (SX := Unit) (run_XV (As := [.int p0, .int p1]) (rest := [.int (nI 0), .ref ol]) (bs := [loC E ol lo, coC E x a a2 a3 b d k pa y w, stC E a g]) (cb := [coC E x a a2 a3 b d k pa y w, stC E a g]) hx hb hml hown hts hK hZ hDD hA (c_X5_commonBeats l hst E _ x a a2 a3 b d k pa y w g B hI p0 p1) l_L_73 rfl ⟨⟨rfl, rfl⟩, Nat.le_of_ble_eq_true rfl, Nat.le_of_ble_eq_true rfl⟩ 9 rfl [1, 2] rfl (by decide) rfl hP hD hS hl.1 rfl (Nat.le_of_ble_eq_true rfl) dL_commonBeats_5 ⟨Nat.le_of_ble_eq_true rfl, Nat.le_of_ble_eq_true rfl⟩) hA hP hD hS (isC := [1, 2]) rfl [0] [0, 1, 2] (br := [loC E ol lo]) (bs2 := fun _ => [loC E ol lo, coC E x a a2 a3 b d k pa y w, stC E a g]) (bx2 := fun _ => [loC E ol lo, coC E x a a2 a3 b d k pa y w, stC E a g]) rfl (by decide) (fun _ => rfl) (fun _ => rfl) (by decide) (fun Ex ce q9 ux H locs hw hP hD hS hc1 hc2 hc3 => ?_) (fun r u H locs hw hP hD hS => ?_)
  · skip
    obtain ⟨hE, hq⟩ := hw
    subst hE
    refine vx_catch (own := RL) (name := IOX) hown [] ⟨0, 10, 13, 21⟩ [] (htab.trans rfl) (fun z hz => absurd hz List.not_mem_nil) rfl (by decide) (hts _ q615) (va_Nw.use rfl (hZ.2.2.1 _ (List.mem_of_getElem? (i := 0) rfl))) hc1 hc2 hc3 ?_
    refine lv_astore (lv' := [(4, .ref q9), (0, .ref (x 0)), (1, .int p0), (2, .int p1), (3, .ref ol)]) hx hb dL_commonBeats_13 hl (by decide) rfl (fun ls hl => ?_)
    refine lv_iconst (v := nI 1) hx hb dL_commonBeats_15 (by decide) ?_
    exact hret _ _ (nI 1) (.inr ()) _ _ _ _ hP hD hS ⟨rfl, hq⟩ dL_commonBeats_16 (by omega) (by omega)
  refine lv_i2l hx hb dL_commonBeats_8 rfl ?_
  refine va_last hx hb hK hP hD hS 0 4 rfl rfl (vp_in_nI (show 0 < 1 by decide) (by decide)) dL_commonBeats_9 (fun H locs hP hD hS => ?_)
  rw [nI_clamp (show 0 < 2 ^ 31 by decide)] at hP hD
  have hP : va_P E.1 vwCl ([loC E ol (vp_updL lo 0 r.toInt64), coC E x a a2 a3 b d k pa y w, stC E a g] : List va_W).flatten H := hP
  have hD : va_D A ([loC E ol (vp_updL lo 0 r.toInt64), coC E x a a2 a3 b d k pa y w, stC E a g] : List va_W).flatten := hD
  refine lv_goto (tgt := 17) hx hb dL_commonBeats_10 (by decide) ?_
  refine lv_iconst (v := nI 0) hx hb dL_commonBeats_17 (by decide) ?_
  exact hret _ _ (nI 0) (.inl ((), r, (vp_updL lo 0 r.toInt64))) _ _ _ _ hP hD hS ⟨rfl, hw, rfl⟩ dL_commonBeats_18 (by omega) (by omega)
abbrev rm_L_beatsUntilChorus : Room := { frames := 7, cells := 1, slots := 6, locals := 121 }
set_option maxHeartbeats 4000000 in
set_option maxRecDepth 100000 in
theorem c_L_beatsUntilChorus (l : Launch) (hst : l.stackTraces = false) (E : EE) (sz : Nat) (x a a2 a3 b d k pa y w : Nat → Nat) (g : GG) (B : Nat) (hI : IB B g)  (ol : Nat) (lo : Nat → Int64) : MW l yL_beatsUntilChorus cL_beatsUntilChorus 3 [(0, 8, 11, 64)] rm_L_beatsUntilChorus [.ref (x 0), .ref ol] E sz [loC E ol lo, coC E x a a2 a3 b d k pa y w, stC E a g] (fun (r : Int32) (u : (Unit × Int32 × (Nat → Int64)) ⊕ Unit) => Sum.elim (fun (vq : Unit × Int32 × (Nat → Int64)) => r = nI 0 ∧ (fsC g < 60 ∧ vq.2.1 = nI (fsC g + 1)) ∧ vq.2.2 0 = vq.2.1.toInt64) (fun (vq : Unit) => r = nI 1 ∧ ¬ fsC g < 60) u) (fun u => Sum.elim (fun (vq : Unit × Int32 × (Nat → Int64)) => [loC E ol vq.2.2, coC E x a a2 a3 b d k pa y w, stC E a g]) (fun (vq : Unit) => [loC E ol lo, coC E x a a2 a3 b d k pa y w, stC E a g]) u) 1 6 := by
  refine mw_go (by decide) (Nat.le_of_ble_eq_true rfl) ?_
  intro p e s m below meth c A Q ls hx hb hml hown hts hK hZ hDD hA hsz hP hD hl htab hret
  have hS : va_S A s.heap s.heap [] := va_S.rf
  have hl : lv_has ls 3 [(0, .ref (x 0)), (1, .ref ol)] := hl
  refine lv_aload_n hx hb dL_beatsUntilChorus_0 rfl (lv_at hl 1 rfl) ?_
  refine lv_iconst (v := nI 0) hx hb dL_beatsUntilChorus_1 (by decide) ?_
  refine lv_aload_n hx hb dL_beatsUntilChorus_2 rfl (lv_at hl 0 rfl) ?_
  refine run_xi (S := Unit) (SX := Unit) (run_XV (As := []) (rest := [.int (nI 0), .ref ol]) (bs := [loC E ol lo, coC E x a a2 a3 b d k pa y w, stC E a g]) (cb := [coC E x a a2 a3 b d k pa y w, stC E a g]) hx hb hml hown hts hK hZ hDD hA (c_X5_beatsUntilChorus l hst E _ x a a2 a3 b d k pa y w g B hI) l_L_76 rfl ⟨⟨rfl, rfl⟩, Nat.le_of_ble_eq_true rfl, Nat.le_of_ble_eq_true rfl⟩ 9 rfl [1, 2] rfl (by decide) rfl hP hD hS hl.1 rfl (Nat.le_of_ble_eq_true rfl) dL_beatsUntilChorus_3 ⟨Nat.le_of_ble_eq_true rfl, Nat.le_of_ble_eq_true rfl⟩) hA hP hD hS (isC := [1, 2]) rfl [0] [0, 1, 2] (br := [loC E ol lo]) (bs2 := fun _ => [loC E ol lo, coC E x a a2 a3 b d k pa y w, stC E a g]) (bx2 := fun _ => [loC E ol lo, coC E x a a2 a3 b d k pa y w, stC E a g]) rfl (by decide) (fun _ => rfl) (fun _ => rfl) (by decide) (fun Ex ce q9 ux H locs hw hP hD hS hc1 hc2 hc3 => ?_) (fun r u H locs hw hP hD hS => ?_)
  · skip
    obtain ⟨hE, hq⟩ := hw
    subst hE
    refine vx_catch (own := RL) (name := NSE) hown [] ⟨0, 8, 11, 64⟩ [] (htab.trans rfl) (fun z hz => absurd hz List.not_mem_nil) rfl (by decide) (hts _ q806) (va_Nw.use rfl (hZ.2.2.1 _ (List.mem_of_getElem? (i := 5) rfl))) hc1 hc2 hc3 ?_
    refine lv_astore_n (lv' := [(2, .ref q9), (0, .ref (x 0)), (1, .ref ol)]) hx hb dL_beatsUntilChorus_11 rfl hl (by decide) rfl (fun ls hl => ?_)
    refine lv_iconst (v := nI 1) hx hb dL_beatsUntilChorus_12 (by decide) ?_
    exact hret _ _ (nI 1) (.inr ()) _ _ _ _ hP hD hS ⟨rfl, hq⟩ dL_beatsUntilChorus_13 (by omega) (by omega)
  refine lv_i2l hx hb dL_beatsUntilChorus_6 rfl ?_
  refine va_last hx hb hK hP hD hS 0 4 rfl rfl (vp_in_nI (show 0 < 1 by decide) (by decide)) dL_beatsUntilChorus_7 (fun H locs hP hD hS => ?_)
  rw [nI_clamp (show 0 < 2 ^ 31 by decide)] at hP hD
  have hP : va_P E.1 vwCl ([loC E ol (vp_updL lo 0 r.toInt64), coC E x a a2 a3 b d k pa y w, stC E a g] : List va_W).flatten H := hP
  have hD : va_D A ([loC E ol (vp_updL lo 0 r.toInt64), coC E x a a2 a3 b d k pa y w, stC E a g] : List va_W).flatten := hD
  refine lv_goto (tgt := 14) hx hb dL_beatsUntilChorus_8 (by decide) ?_
  refine lv_iconst (v := nI 0) hx hb dL_beatsUntilChorus_14 (by decide) ?_
  exact hret _ _ (nI 0) (.inl ((), r, (vp_updL lo 0 r.toInt64))) _ _ _ _ hP hD hS ⟨rfl, hw, rfl⟩ dL_beatsUntilChorus_15 (by omega) (by omega)
abbrev rm_L_earningsIn : Room := { frames := 7, cells := 1, slots := 6, locals := 162 }
set_option maxHeartbeats 4000000 in
set_option maxRecDepth 100000 in
theorem c_L_earningsIn (l : Launch) (hst : l.stackTraces = false) (E : EE) (sz : Nat) (x a a2 a3 b d k pa y w : Nat → Nat) (g : GG) (B : Nat) (hI : IB B g) (g3 : GG) (hB : B + 60 ≤ 300000) (p0 : Int32) (ol : Nat) (lo : Nat → Int64) : MW l yL_earningsIn cL_earningsIn 4 [(0, 9, 12, 13)] rm_L_earningsIn [.ref (x 0), .int p0, .ref ol] E sz [loC E ol lo, coC E x a a2 a3 b d k pa y w, stC E a g, stC E a3 g3] (fun (r : Int32) (u : (GG × Int32 × (Nat → Int64)) ⊕ Unit) => Sum.elim (fun (vq : GG × Int32 × (Nat → Int64)) => r = nI 0 ∧ ((0 ≤ p0.toInt ∧ p0.toInt ≤ 60) ∧ vq.2.1 = nI (passN g (tn p0))) ∧ vq.2.2 0 = vq.2.1.toInt64) (fun (vq : Unit) => r = nI 1 ∧ ¬ (0 ≤ p0.toInt ∧ p0.toInt ≤ 60)) u) (fun u => Sum.elim (fun (vq : GG × Int32 × (Nat → Int64)) => [loC E ol vq.2.2, coC E x a a2 a3 b d k pa y w, stC E a g, stC E a3 vq.1]) (fun (vq : Unit) => [loC E ol lo, coC E x a a2 a3 b d k pa y w, stC E a g, stC E a3 g3]) u) 1 6 := by
  refine mw_go (by decide) (Nat.le_of_ble_eq_true rfl) ?_
  intro p e s m below meth c A Q ls hx hb hml hown hts hK hZ hDD hA hsz hP hD hl htab hret
  have hS : va_S A s.heap s.heap [] := va_S.rf
  have hl : lv_has ls 4 [(0, .ref (x 0)), (1, .int p0), (2, .ref ol)] := hl
  refine lv_aload_n hx hb dL_earningsIn_0 rfl (lv_at hl 2 rfl) ?_
  refine lv_iconst (v := nI 0) hx hb dL_earningsIn_1 (by decide) ?_
  refine lv_aload_n hx hb dL_earningsIn_2 rfl (lv_at hl 0 rfl) ?_
  refine lv_iload_n hx hb dL_earningsIn_3 rfl (lv_at hl 1 rfl) ?_
  refine run_xi (S := GG) (SX := Unit) (run_XV (As := [.int p0]) (rest := [.int (nI 0), .ref ol]) (bs := [loC E ol lo, coC E x a a2 a3 b d k pa y w, stC E a g, stC E a3 g3]) (cb := [coC E x a a2 a3 b d k pa y w, stC E a g, stC E a3 g3]) hx hb hml hown hts hK hZ hDD hA (c_X5_earningsIn l hst E _ x a a2 a3 b d k pa y w g B hI g3 hB p0) l_L_79 rfl ⟨⟨rfl, rfl⟩, Nat.le_of_ble_eq_true rfl, Nat.le_of_ble_eq_true rfl⟩ 9 rfl [1, 2, 3] rfl (by decide) rfl hP hD hS hl.1 rfl (Nat.le_of_ble_eq_true rfl) dL_earningsIn_4 ⟨Nat.le_of_ble_eq_true rfl, Nat.le_of_ble_eq_true rfl⟩) hA hP hD hS (isC := [1, 2, 3]) rfl [0] [0, 1, 2, 3] (br := [loC E ol lo]) (bs2 := fun u => [loC E ol lo, coC E x a a2 a3 b d k pa y w, stC E a g, stC E a3 u]) (bx2 := fun _ => [loC E ol lo, coC E x a a2 a3 b d k pa y w, stC E a g, stC E a3 g3]) rfl (by decide) (fun _ => rfl) (fun _ => rfl) (by decide) (fun Ex ce q9 ux H locs hw hP hD hS hc1 hc2 hc3 => ?_) (fun r u H locs hw hP hD hS => ?_)
  · skip
    obtain ⟨hE, hq⟩ := hw
    subst hE
    refine vx_catch (own := RL) (name := IAX) hown [] ⟨0, 9, 12, 13⟩ [] (htab.trans rfl) (fun z hz => absurd hz List.not_mem_nil) rfl (by decide) (hts _ q464) (va_Nw.use rfl (hZ.2.2.1 _ (List.mem_of_getElem? (i := 1) rfl))) hc1 hc2 hc3 ?_
    refine lv_astore_n (lv' := [(3, .ref q9), (0, .ref (x 0)), (1, .int p0), (2, .ref ol)]) hx hb dL_earningsIn_12 rfl hl (by decide) rfl (fun ls hl => ?_)
    refine lv_iconst (v := nI 1) hx hb dL_earningsIn_13 (by decide) ?_
    exact hret _ _ (nI 1) (.inr ()) _ _ _ _ hP hD hS ⟨rfl, hq⟩ dL_earningsIn_14 (by omega) (by omega)
  refine lv_i2l hx hb dL_earningsIn_7 rfl ?_
  refine va_last hx hb hK hP hD hS 0 4 rfl rfl (vp_in_nI (show 0 < 1 by decide) (by decide)) dL_earningsIn_8 (fun H locs hP hD hS => ?_)
  rw [nI_clamp (show 0 < 2 ^ 31 by decide)] at hP hD
  have hP : va_P E.1 vwCl ([loC E ol (vp_updL lo 0 r.toInt64), coC E x a a2 a3 b d k pa y w, stC E a g, stC E a3 u] : List va_W).flatten H := hP
  have hD : va_D A ([loC E ol (vp_updL lo 0 r.toInt64), coC E x a a2 a3 b d k pa y w, stC E a g, stC E a3 u] : List va_W).flatten := hD
  refine lv_goto (tgt := 15) hx hb dL_earningsIn_9 (by decide) ?_
  refine lv_iconst (v := nI 0) hx hb dL_earningsIn_15 (by decide) ?_
  exact hret _ _ (nI 0) (.inl (u, r, (vp_updL lo 0 r.toInt64))) _ _ _ _ hP hD hS ⟨rfl, hw, rfl⟩ dL_earningsIn_16 (by omega) (by omega)
abbrev rm_L_dividend : Room := { frames := 8, cells := 1, slots := 6, locals := 213 }
set_option maxHeartbeats 4000000 in
set_option maxRecDepth 100000 in
theorem c_L_dividend (l : Launch) (hst : l.stackTraces = false) (E : EE) (sz : Nat) (x a a2 a3 b d k pa y w : Nat → Nat) (g : GG) (B : Nat) (hI : IB B g) (co re : Nat → Nat) (p0 : Int32) (ol : Nat) (lo : Nat → Int64) : MW l yL_dividend cL_dividend 4 [(0, 9, 12, 21)] rm_L_dividend [.ref (x 0), .int p0, .ref ol] E sz [loC E ol lo, coC E x a a2 a3 b d k pa y w, stC E a g, diC E d co re] (fun (r : Int32) (u : (((Nat → Nat) × (Nat → Nat)) × Int32 × (Nat → Int64)) ⊕ Unit) => Sum.elim (fun (vq : ((Nat → Nat) × (Nat → Nat)) × Int32 × (Nat → Int64)) => r = nI 0 ∧ (hasM g p0 = true ∧ vq.2.1 = nI (dv g (tn p0))) ∧ vq.2.2 0 = vq.2.1.toInt64) (fun (vq : Unit) => r = nI 1 ∧ hasM g p0 = false) u) (fun u => Sum.elim (fun (vq : ((Nat → Nat) × (Nat → Nat)) × Int32 × (Nat → Int64)) => [loC E ol vq.2.2, coC E x a a2 a3 b d k pa y w, stC E a g, diC E d vq.1.1 vq.1.2]) (fun (vq : Unit) => [loC E ol lo, coC E x a a2 a3 b d k pa y w, stC E a g, diC E d co re]) u) 1 6 := by
  refine mw_go (by decide) (Nat.le_of_ble_eq_true rfl) ?_
  intro p e s m below meth c A Q ls hx hb hml hown hts hK hZ hDD hA hsz hP hD hl htab hret
  have hS : va_S A s.heap s.heap [] := va_S.rf
  have hl : lv_has ls 4 [(0, .ref (x 0)), (1, .int p0), (2, .ref ol)] := hl
  refine lv_aload_n hx hb dL_dividend_0 rfl (lv_at hl 2 rfl) ?_
  refine lv_iconst (v := nI 0) hx hb dL_dividend_1 (by decide) ?_
  refine lv_aload_n hx hb dL_dividend_2 rfl (lv_at hl 0 rfl) ?_
  refine lv_iload_n hx hb dL_dividend_3 rfl (lv_at hl 1 rfl) ?_
  refine run_xi (S := (Nat → Nat) × (Nat → Nat)) (SX := Unit) (run_XV (As := [.int p0]) (rest := [.int (nI 0), .ref ol]) (bs := [loC E ol lo, coC E x a a2 a3 b d k pa y w, stC E a g, diC E d co re]) (cb := [coC E x a a2 a3 b d k pa y w, stC E a g, diC E d co re]) hx hb hml hown hts hK hZ hDD hA (c_X5_dividend l hst E _ x a a2 a3 b d k pa y w g B hI co re p0) l_L_82 rfl ⟨⟨rfl, rfl⟩, Nat.le_of_ble_eq_true rfl, Nat.le_of_ble_eq_true rfl⟩ 9 rfl [1, 2, 3] rfl (by decide) rfl hP hD hS hl.1 rfl (Nat.le_of_ble_eq_true rfl) dL_dividend_4 ⟨Nat.le_of_ble_eq_true rfl, Nat.le_of_ble_eq_true rfl⟩) hA hP hD hS (isC := [1, 2, 3]) rfl [0] [0, 1, 2, 3] (br := [loC E ol lo]) (bs2 := fun u => [loC E ol lo, coC E x a a2 a3 b d k pa y w, stC E a g, diC E d u.1 u.2]) (bx2 := fun _ => [loC E ol lo, coC E x a a2 a3 b d k pa y w, stC E a g, diC E d co re]) rfl (by decide) (fun _ => rfl) (fun _ => rfl) (by decide) (fun Ex ce q9 ux H locs hw hP hD hS hc1 hc2 hc3 => ?_) (fun r u H locs hw hP hD hS => ?_)
  · skip
    obtain ⟨hE, hq⟩ := hw
    subst hE
    refine vx_catch (own := RL) (name := IOX) hown [] ⟨0, 9, 12, 21⟩ [] (htab.trans rfl) (fun z hz => absurd hz List.not_mem_nil) rfl (by decide) (hts _ q615) (va_Nw.use rfl (hZ.2.2.1 _ (List.mem_of_getElem? (i := 0) rfl))) hc1 hc2 hc3 ?_
    refine lv_astore_n (lv' := [(3, .ref q9), (0, .ref (x 0)), (1, .int p0), (2, .ref ol)]) hx hb dL_dividend_12 rfl hl (by decide) rfl (fun ls hl => ?_)
    refine lv_iconst (v := nI 1) hx hb dL_dividend_13 (by decide) ?_
    exact hret _ _ (nI 1) (.inr ()) _ _ _ _ hP hD hS ⟨rfl, hq⟩ dL_dividend_14 (by omega) (by omega)
  refine lv_i2l hx hb dL_dividend_7 rfl ?_
  refine va_last hx hb hK hP hD hS 0 4 rfl rfl (vp_in_nI (show 0 < 1 by decide) (by decide)) dL_dividend_8 (fun H locs hP hD hS => ?_)
  rw [nI_clamp (show 0 < 2 ^ 31 by decide)] at hP hD
  have hP : va_P E.1 vwCl ([loC E ol (vp_updL lo 0 r.toInt64), coC E x a a2 a3 b d k pa y w, stC E a g, diC E d u.1 u.2] : List va_W).flatten H := hP
  have hD : va_D A ([loC E ol (vp_updL lo 0 r.toInt64), coC E x a a2 a3 b d k pa y w, stC E a g, diC E d u.1 u.2] : List va_W).flatten := hD
  refine lv_goto (tgt := 15) hx hb dL_dividend_9 (by decide) ?_
  refine lv_iconst (v := nI 0) hx hb dL_dividend_15 (by decide) ?_
  exact hret _ _ (nI 0) (.inl (u, r, (vp_updL lo 0 r.toInt64))) _ _ _ _ hP hD hS ⟨rfl, hw, rfl⟩ dL_dividend_16 (by omega) (by omega)
abbrev rm_L_dividendByCounting : Room := { frames := 8, cells := 1, slots := 6, locals := 156 }
set_option maxHeartbeats 4000000 in
set_option maxRecDepth 100000 in
theorem c_L_dividendByCounting (l : Launch) (hst : l.stackTraces = false) (E : EE) (sz : Nat) (x a a2 a3 b d k pa y w : Nat → Nat) (g : GG) (B : Nat) (hI : IB B g) (co re : Nat → Nat) (p0 : Int32) (ol : Nat) (lo : Nat → Int64) : MW l yL_dividendByCounting cL_dividendByCounting 4 [(0, 9, 12, 21)] rm_L_dividendByCounting [.ref (x 0), .int p0, .ref ol] E sz [loC E ol lo, coC E x a a2 a3 b d k pa y w, stC E a g, diC E d co re] (fun (r : Int32) (u : (((Nat → Nat) × (Nat → Nat)) × Int32 × (Nat → Int64)) ⊕ Unit) => Sum.elim (fun (vq : ((Nat → Nat) × (Nat → Nat)) × Int32 × (Nat → Int64)) => r = nI 0 ∧ (hasM g p0 = true ∧ vq.2.1 = nI (dv g (tn p0))) ∧ vq.2.2 0 = vq.2.1.toInt64) (fun (vq : Unit) => r = nI 1 ∧ hasM g p0 = false) u) (fun u => Sum.elim (fun (vq : ((Nat → Nat) × (Nat → Nat)) × Int32 × (Nat → Int64)) => [loC E ol vq.2.2, coC E x a a2 a3 b d k pa y w, stC E a g, diC E d vq.1.1 vq.1.2]) (fun (vq : Unit) => [loC E ol lo, coC E x a a2 a3 b d k pa y w, stC E a g, diC E d co re]) u) 1 6 := by
  refine mw_go (by decide) (Nat.le_of_ble_eq_true rfl) ?_
  intro p e s m below meth c A Q ls hx hb hml hown hts hK hZ hDD hA hsz hP hD hl htab hret
  have hS : va_S A s.heap s.heap [] := va_S.rf
  have hl : lv_has ls 4 [(0, .ref (x 0)), (1, .int p0), (2, .ref ol)] := hl
  refine lv_aload_n hx hb dL_dividendByCounting_0 rfl (lv_at hl 2 rfl) ?_
  refine lv_iconst (v := nI 0) hx hb dL_dividendByCounting_1 (by decide) ?_
  refine lv_aload_n hx hb dL_dividendByCounting_2 rfl (lv_at hl 0 rfl) ?_
  refine lv_iload_n hx hb dL_dividendByCounting_3 rfl (lv_at hl 1 rfl) ?_
  refine run_xi (S := (Nat → Nat) × (Nat → Nat)) (SX := Unit) (run_XV (As := [.int p0]) (rest := [.int (nI 0), .ref ol]) (bs := [loC E ol lo, coC E x a a2 a3 b d k pa y w, stC E a g, diC E d co re]) (cb := [coC E x a a2 a3 b d k pa y w, stC E a g, diC E d co re]) hx hb hml hown hts hK hZ hDD hA (c_X5_dividendByCounting l hst E _ x a a2 a3 b d k pa y w g B hI co re p0) l_L_85 rfl ⟨⟨rfl, rfl⟩, Nat.le_of_ble_eq_true rfl, Nat.le_of_ble_eq_true rfl⟩ 9 rfl [1, 2, 3] rfl (by decide) rfl hP hD hS hl.1 rfl (Nat.le_of_ble_eq_true rfl) dL_dividendByCounting_4 ⟨Nat.le_of_ble_eq_true rfl, Nat.le_of_ble_eq_true rfl⟩) hA hP hD hS (isC := [1, 2, 3]) rfl [0] [0, 1, 2, 3] (br := [loC E ol lo]) (bs2 := fun u => [loC E ol lo, coC E x a a2 a3 b d k pa y w, stC E a g, diC E d u.1 u.2]) (bx2 := fun _ => [loC E ol lo, coC E x a a2 a3 b d k pa y w, stC E a g, diC E d co re]) rfl (by decide) (fun _ => rfl) (fun _ => rfl) (by decide) (fun Ex ce q9 ux H locs hw hP hD hS hc1 hc2 hc3 => ?_) (fun r u H locs hw hP hD hS => ?_)
  · skip
    obtain ⟨hE, hq⟩ := hw
    subst hE
    refine vx_catch (own := RL) (name := IOX) hown [] ⟨0, 9, 12, 21⟩ [] (htab.trans rfl) (fun z hz => absurd hz List.not_mem_nil) rfl (by decide) (hts _ q615) (va_Nw.use rfl (hZ.2.2.1 _ (List.mem_of_getElem? (i := 0) rfl))) hc1 hc2 hc3 ?_
    refine lv_astore_n (lv' := [(3, .ref q9), (0, .ref (x 0)), (1, .int p0), (2, .ref ol)]) hx hb dL_dividendByCounting_12 rfl hl (by decide) rfl (fun ls hl => ?_)
    refine lv_iconst (v := nI 1) hx hb dL_dividendByCounting_13 (by decide) ?_
    exact hret _ _ (nI 1) (.inr ()) _ _ _ _ hP hD hS ⟨rfl, hq⟩ dL_dividendByCounting_14 (by omega) (by omega)
  refine lv_i2l hx hb dL_dividendByCounting_7 rfl ?_
  refine va_last hx hb hK hP hD hS 0 4 rfl rfl (vp_in_nI (show 0 < 1 by decide) (by decide)) dL_dividendByCounting_8 (fun H locs hP hD hS => ?_)
  rw [nI_clamp (show 0 < 2 ^ 31 by decide)] at hP hD
  have hP : va_P E.1 vwCl ([loC E ol (vp_updL lo 0 r.toInt64), coC E x a a2 a3 b d k pa y w, stC E a g, diC E d u.1 u.2] : List va_W).flatten H := hP
  have hD : va_D A ([loC E ol (vp_updL lo 0 r.toInt64), coC E x a a2 a3 b d k pa y w, stC E a g, diC E d u.1 u.2] : List va_W).flatten := hD
  refine lv_goto (tgt := 15) hx hb dL_dividendByCounting_9 (by decide) ?_
  refine lv_iconst (v := nI 0) hx hb dL_dividendByCounting_15 (by decide) ?_
  exact hret _ _ (nI 0) (.inl (u, r, (vp_updL lo 0 r.toInt64))) _ _ _ _ hP hD hS ⟨rfl, hw, rfl⟩ dL_dividendByCounting_16 (by omega) (by omega)
abbrev rm_L_sharesInFavour : Room := { frames := 8, cells := 1, slots := 6, locals := 142 }
set_option maxHeartbeats 4000000 in
set_option maxRecDepth 100000 in
theorem c_L_sharesInFavour (l : Launch) (hst : l.stackTraces = false) (E : EE) (sz : Nat) (x a a2 a3 b d k pa y w : Nat → Nat) (g : GG) (B : Nat) (hI : IB B g) (p0 p1 : Int32) (ol : Nat) (lo : Nat → Int64) : MW l yL_sharesInFavour cL_sharesInFavour 5 [(0, 10, 13, 13)] rm_L_sharesInFavour [.ref (x 0), .int p0, .int p1, .ref ol] E sz [loC E ol lo, coC E x a a2 a3 b d k pa y w, stC E a g] (fun (r : Int32) (u : (Unit × Int32 × (Nat → Int64)) ⊕ Unit) => Sum.elim (fun (vq : Unit × Int32 × (Nat → Int64)) => r = nI 0 ∧ (fMot p0 p1 = 0 ∧ vq.2.1 = nI (favN g (tn p0) (tn p1))) ∧ vq.2.2 0 = vq.2.1.toInt64) (fun (vq : Unit) => fMot p0 p1 ≠ 0 ∧ r = nI (fMot p0 p1 - 1)) u) (fun u => Sum.elim (fun (vq : Unit × Int32 × (Nat → Int64)) => [loC E ol vq.2.2, coC E x a a2 a3 b d k pa y w, stC E a g]) (fun (vq : Unit) => [loC E ol lo, coC E x a a2 a3 b d k pa y w, stC E a g]) u) 1 6 := by
  refine mw_go (by decide) (Nat.le_of_ble_eq_true rfl) ?_
  intro p e s m below meth c A Q ls hx hb hml hown hts hK hZ hDD hA hsz hP hD hl htab hret
  have hS : va_S A s.heap s.heap [] := va_S.rf
  have hl : lv_has ls 5 [(0, .ref (x 0)), (1, .int p0), (2, .int p1), (3, .ref ol)] := hl
  refine lv_aload_n hx hb dL_sharesInFavour_0 rfl (lv_at hl 3 rfl) ?_
  refine lv_iconst (v := nI 0) hx hb dL_sharesInFavour_1 (by decide) ?_
  refine lv_aload_n hx hb dL_sharesInFavour_2 rfl (lv_at hl 0 rfl) ?_
  refine lv_iload_n hx hb dL_sharesInFavour_3 rfl (lv_at hl 1 rfl) ?_
  refine lv_iload_n hx hb dL_sharesInFavour_4 rfl (lv_at hl 2 rfl) ?_
  refine run_xi (S := Unit) (SX := Unit) (run_XV (As := [.int p0, .int p1]) (rest := [.int (nI 0), .ref ol]) (bs := [loC E ol lo, coC E x a a2 a3 b d k pa y w, stC E a g]) (cb := [coC E x a a2 a3 b d k pa y w, stC E a g]) hx hb hml hown hts hK hZ hDD hA (c_X5_sharesInFavour l hst E _ x a a2 a3 b d k pa y w g B hI p0 p1) l_L_88 rfl ⟨⟨rfl, rfl⟩, Nat.le_of_ble_eq_true rfl, Nat.le_of_ble_eq_true rfl⟩ 9 rfl [1, 2] rfl (by decide) rfl hP hD hS hl.1 rfl (Nat.le_of_ble_eq_true rfl) dL_sharesInFavour_5 ⟨Nat.le_of_ble_eq_true rfl, Nat.le_of_ble_eq_true rfl⟩) hA hP hD hS (isC := [1, 2]) rfl [0] [0, 1, 2] (br := [loC E ol lo]) (bs2 := fun _ => [loC E ol lo, coC E x a a2 a3 b d k pa y w, stC E a g]) (bx2 := fun _ => [loC E ol lo, coC E x a a2 a3 b d k pa y w, stC E a g]) rfl (by decide) (fun _ => rfl) (fun _ => rfl) (by decide) (fun Ex ce q9 ux H locs hw hP hD hS hc1 hc2 hc3 => ?_) (fun r u H locs hw hP hD hS => ?_)
  · skip
    obtain ⟨hf, hE⟩ := hw
    rcases (fM_v : fMot p0 p1 = 0 ∨ fMot p0 p1 = 2) with hv | hv
    · exact absurd hv hf
    · skip
      rw [hv] at hE
      have hE : Ex = IAX := hE
      subst hE
      refine vx_catch (own := RL) (name := IAX) hown [] ⟨0, 10, 13, 13⟩ [] (htab.trans rfl) (fun z hz => absurd hz List.not_mem_nil) rfl (by decide) (hts _ q464) (va_Nw.use rfl (hZ.2.2.1 _ (List.mem_of_getElem? (i := 1) rfl))) hc1 hc2 hc3 ?_
      refine lv_astore (lv' := [(4, .ref q9), (0, .ref (x 0)), (1, .int p0), (2, .int p1), (3, .ref ol)]) hx hb dL_sharesInFavour_13 hl (by decide) rfl (fun ls hl => ?_)
      refine lv_iconst (v := nI 1) hx hb dL_sharesInFavour_15 (by decide) ?_
      exact hret _ _ (nI 1) (.inr ()) _ _ _ _ hP hD hS ⟨hf, by rw [hv]⟩ dL_sharesInFavour_16 (by omega) (by omega)
  refine lv_i2l hx hb dL_sharesInFavour_8 rfl ?_
  refine va_last hx hb hK hP hD hS 0 4 rfl rfl (vp_in_nI (show 0 < 1 by decide) (by decide)) dL_sharesInFavour_9 (fun H locs hP hD hS => ?_)
  rw [nI_clamp (show 0 < 2 ^ 31 by decide)] at hP hD
  have hP : va_P E.1 vwCl ([loC E ol (vp_updL lo 0 r.toInt64), coC E x a a2 a3 b d k pa y w, stC E a g] : List va_W).flatten H := hP
  have hD : va_D A ([loC E ol (vp_updL lo 0 r.toInt64), coC E x a a2 a3 b d k pa y w, stC E a g] : List va_W).flatten := hD
  refine lv_goto (tgt := 17) hx hb dL_sharesInFavour_10 (by decide) ?_
  refine lv_iconst (v := nI 0) hx hb dL_sharesInFavour_17 (by decide) ?_
  exact hret _ _ (nI 0) (.inl ((), r, (vp_updL lo 0 r.toInt64))) _ _ _ _ hP hD hS ⟨rfl, hw, rfl⟩ dL_sharesInFavour_18 (by omega) (by omega)
abbrev rm_L_carriedTone : Room := { frames := 8, cells := 2, slots := 12, locals := 142 }
set_option maxHeartbeats 4000000 in
set_option maxRecDepth 100000 in
theorem c_L_carriedTone (l : Launch) (hst : l.stackTraces = false) (E : EE) (sz : Nat) (x a a2 a3 b d k pa y w : Nat → Nat) (g : GG) (B : Nat) (hI : IB B g) (p0 : Int32) (ol : Nat) (lo : Nat → Int64) : MW l yL_carriedTone cL_carriedTone 4 [(0, 9, 12, 13), (0, 9, 15, 64)] rm_L_carriedTone [.ref (x 0), .int p0, .ref ol] E sz [loC E ol lo, coC E x a a2 a3 b d k pa y w, stC E a g] (fun (r : Int32) (u : (Unit × Int32 × (Nat → Int64)) ⊕ Unit) => Sum.elim (fun (vq : Unit × Int32 × (Nat → Int64)) => r = nI 0 ∧ (((0 ≤ p0.toInt ∧ p0.toInt ≤ 6) ∧ fst1 (fun t => decide (quo g ≤ favN g t (tn p0))) 12 < 12) ∧ vq.2.1 = nI (fst1 (fun t => decide (quo g ≤ favN g t (tn p0))) 12)) ∧ vq.2.2 0 = vq.2.1.toInt64) (fun (vq : Unit) => (r = nI 1 ∧ ¬ (0 ≤ p0.toInt ∧ p0.toInt ≤ 6)) ∨ (r = nI 2 ∧ (0 ≤ p0.toInt ∧ p0.toInt ≤ 6) ∧ ¬ fst1 (fun t => decide (quo g ≤ favN g t (tn p0))) 12 < 12)) u) (fun u => Sum.elim (fun (vq : Unit × Int32 × (Nat → Int64)) => [loC E ol vq.2.2, coC E x a a2 a3 b d k pa y w, stC E a g]) (fun (vq : Unit) => [loC E ol lo, coC E x a a2 a3 b d k pa y w, stC E a g]) u) 2 12 := by
  refine mw_go (by decide) (Nat.le_of_ble_eq_true rfl) ?_
  intro p e s m below meth c A Q ls hx hb hml hown hts hK hZ hDD hA hsz hP hD hl htab hret
  have hS : va_S A s.heap s.heap [] := va_S.rf
  have hl : lv_has ls 4 [(0, .ref (x 0)), (1, .int p0), (2, .ref ol)] := hl
  refine lv_aload_n hx hb dL_carriedTone_0 rfl (lv_at hl 2 rfl) ?_
  refine lv_iconst (v := nI 0) hx hb dL_carriedTone_1 (by decide) ?_
  refine lv_aload_n hx hb dL_carriedTone_2 rfl (lv_at hl 0 rfl) ?_
  refine lv_iload_n hx hb dL_carriedTone_3 rfl (lv_at hl 1 rfl) ?_
  refine run_xi (S := Unit) (SX := Unit) (run_XV (As := [.int p0]) (rest := [.int (nI 0), .ref ol]) (bs := [loC E ol lo, coC E x a a2 a3 b d k pa y w, stC E a g]) (cb := [coC E x a a2 a3 b d k pa y w, stC E a g]) hx hb hml hown hts hK hZ hDD hA (c_X5_carriedTone l hst E _ x a a2 a3 b d k pa y w g B hI p0) l_L_91 rfl ⟨⟨rfl, rfl⟩, Nat.le_of_ble_eq_true rfl, Nat.le_of_ble_eq_true rfl⟩ 9 rfl [1, 2] rfl (by decide) rfl hP hD hS hl.1 rfl (Nat.le_of_ble_eq_true rfl) dL_carriedTone_4 ⟨Nat.le_of_ble_eq_true rfl, Nat.le_of_ble_eq_true rfl⟩) hA hP hD hS (isC := [1, 2]) rfl [0] [0, 1, 2] (br := [loC E ol lo]) (bs2 := fun _ => [loC E ol lo, coC E x a a2 a3 b d k pa y w, stC E a g]) (bx2 := fun _ => [loC E ol lo, coC E x a a2 a3 b d k pa y w, stC E a g]) rfl (by decide) (fun _ => rfl) (fun _ => rfl) (by decide) (fun Ex ce q9 ux H locs hw hP hD hS hc1 hc2 hc3 => ?_) (fun r u H locs hw hP hD hS => ?_)
  · skip
    rcases hw with ⟨hE, hq⟩ | ⟨hE, hq⟩
    · skip
      subst hE
      refine vx_catch (own := RL) (name := IAX) hown [] ⟨0, 9, 12, 13⟩ [⟨0, 9, 15, 64⟩] (htab.trans rfl) (fun z hz => absurd hz List.not_mem_nil) rfl (by decide) (hts _ q464) (va_Nw.use rfl (hZ.2.2.1 _ (List.mem_of_getElem? (i := 1) rfl))) hc1 hc2 hc3 ?_
      refine lv_astore_n (lv' := [(3, .ref q9), (0, .ref (x 0)), (1, .int p0), (2, .ref ol)]) hx hb dL_carriedTone_12 rfl hl (by decide) rfl (fun ls hl => ?_)
      refine lv_iconst (v := nI 1) hx hb dL_carriedTone_13 (by decide) ?_
      exact hret _ _ (nI 1) (.inr ()) _ _ _ _ hP hD hS (Or.inl ⟨rfl, hq⟩) dL_carriedTone_14 (by omega) (by omega)
    · skip
      subst hE
      refine vx_catch (own := RL) (name := NSE) hown [⟨0, 9, 12, 13⟩] ⟨0, 9, 15, 64⟩ [] (htab.trans rfl) (fun z hz => by
          rcases List.mem_cons.mp hz with rfl | hz
          · exact Or.inr ⟨by decide, IAX, hts _ q464, hZ.2.2.2.1 _ (List.mem_of_getElem? (i := 5) rfl)⟩
          · exact absurd hz List.not_mem_nil) rfl (by decide) (hts _ q806) (va_Nw.use rfl (hZ.2.2.1 _ (List.mem_of_getElem? (i := 5) rfl))) hc1 hc2 hc3 ?_
      refine lv_astore_n (lv' := [(3, .ref q9), (0, .ref (x 0)), (1, .int p0), (2, .ref ol)]) hx hb dL_carriedTone_15 rfl hl (by decide) rfl (fun ls hl => ?_)
      refine lv_iconst (v := nI 2) hx hb dL_carriedTone_16 (by decide) ?_
      exact hret _ _ (nI 2) (.inr ()) _ _ _ _ hP hD hS (Or.inr ⟨rfl, hq⟩) dL_carriedTone_17 (by omega) (by omega)
  refine lv_i2l hx hb dL_carriedTone_7 rfl ?_
  refine va_last hx hb hK hP hD hS 0 4 rfl rfl (vp_in_nI (show 0 < 1 by decide) (by decide)) dL_carriedTone_8 (fun H locs hP hD hS => ?_)
  rw [nI_clamp (show 0 < 2 ^ 31 by decide)] at hP hD
  have hP : va_P E.1 vwCl ([loC E ol (vp_updL lo 0 r.toInt64), coC E x a a2 a3 b d k pa y w, stC E a g] : List va_W).flatten H := hP
  have hD : va_D A ([loC E ol (vp_updL lo 0 r.toInt64), coC E x a a2 a3 b d k pa y w, stC E a g] : List va_W).flatten := hD
  refine lv_goto (tgt := 18) hx hb dL_carriedTone_9 (by decide) ?_
  refine lv_iconst (v := nI 0) hx hb dL_carriedTone_18 (by decide) ?_
  exact hret _ _ (nI 0) (.inl ((), r, (vp_updL lo 0 r.toInt64))) _ _ _ _ hP hD hS ⟨rfl, hw, rfl⟩ dL_carriedTone_19 (by omega) (by omega)
abbrev rm_L_power : Room := { frames := 8, cells := 1, slots := 6, locals := 148 }
set_option maxHeartbeats 4000000 in
set_option maxRecDepth 100000 in
theorem c_L_power (l : Launch) (hst : l.stackTraces = false) (E : EE) (sz : Nat) (x a a2 a3 b d k pa y w : Nat → Nat) (g : GG) (B : Nat) (hI : IB B g) (so gw : Nat → Nat) (p0 : Int32) (ol : Nat) (lo : Nat → Int64) : MW l yL_power cL_power 4 [(0, 9, 12, 21)] rm_L_power [.ref (x 0), .int p0, .ref ol] E sz [loC E ol lo, coC E x a a2 a3 b d k pa y w, stC E a g, grC E k so gw] (fun (r : Int32) (u : (((Nat → Nat) × (Nat → Nat)) × Int32 × (Nat → Int64)) ⊕ Unit) => Sum.elim (fun (vq : ((Nat → Nat) × (Nat → Nat)) × Int32 × (Nat → Int64)) => r = nI 0 ∧ (hasM g p0 = true ∧ vq.2.1 = nI (powN g (tn p0))) ∧ vq.2.2 0 = vq.2.1.toInt64) (fun (vq : Unit) => r = nI 1 ∧ hasM g p0 = false) u) (fun u => Sum.elim (fun (vq : ((Nat → Nat) × (Nat → Nat)) × Int32 × (Nat → Int64)) => [loC E ol vq.2.2, coC E x a a2 a3 b d k pa y w, stC E a g, grC E k vq.1.1 vq.1.2]) (fun (vq : Unit) => [loC E ol lo, coC E x a a2 a3 b d k pa y w, stC E a g, grC E k so gw]) u) 1 6 := by
  refine mw_go (by decide) (Nat.le_of_ble_eq_true rfl) ?_
  intro p e s m below meth c A Q ls hx hb hml hown hts hK hZ hDD hA hsz hP hD hl htab hret
  have hS : va_S A s.heap s.heap [] := va_S.rf
  have hl : lv_has ls 4 [(0, .ref (x 0)), (1, .int p0), (2, .ref ol)] := hl
  refine lv_aload_n hx hb dL_power_0 rfl (lv_at hl 2 rfl) ?_
  refine lv_iconst (v := nI 0) hx hb dL_power_1 (by decide) ?_
  refine lv_aload_n hx hb dL_power_2 rfl (lv_at hl 0 rfl) ?_
  refine lv_iload_n hx hb dL_power_3 rfl (lv_at hl 1 rfl) ?_
  refine run_xi (S := (Nat → Nat) × (Nat → Nat)) (SX := Unit) (run_XV (As := [.int p0]) (rest := [.int (nI 0), .ref ol]) (bs := [loC E ol lo, coC E x a a2 a3 b d k pa y w, stC E a g, grC E k so gw]) (cb := [coC E x a a2 a3 b d k pa y w, stC E a g, grC E k so gw]) hx hb hml hown hts hK hZ hDD hA (c_X5_power l hst E _ x a a2 a3 b d k pa y w g B hI so gw p0) l_L_94 rfl ⟨⟨rfl, rfl⟩, Nat.le_of_ble_eq_true rfl, Nat.le_of_ble_eq_true rfl⟩ 9 rfl [1, 2, 3] rfl (by decide) rfl hP hD hS hl.1 rfl (Nat.le_of_ble_eq_true rfl) dL_power_4 ⟨Nat.le_of_ble_eq_true rfl, Nat.le_of_ble_eq_true rfl⟩) hA hP hD hS (isC := [1, 2, 3]) rfl [0] [0, 1, 2, 3] (br := [loC E ol lo]) (bs2 := fun u => [loC E ol lo, coC E x a a2 a3 b d k pa y w, stC E a g, grC E k u.1 u.2]) (bx2 := fun _ => [loC E ol lo, coC E x a a2 a3 b d k pa y w, stC E a g, grC E k so gw]) rfl (by decide) (fun _ => rfl) (fun _ => rfl) (by decide) (fun Ex ce q9 ux H locs hw hP hD hS hc1 hc2 hc3 => ?_) (fun r u H locs hw hP hD hS => ?_)
  · skip
    obtain ⟨hE, hq⟩ := hw
    subst hE
    refine vx_catch (own := RL) (name := IOX) hown [] ⟨0, 9, 12, 21⟩ [] (htab.trans rfl) (fun z hz => absurd hz List.not_mem_nil) rfl (by decide) (hts _ q615) (va_Nw.use rfl (hZ.2.2.1 _ (List.mem_of_getElem? (i := 0) rfl))) hc1 hc2 hc3 ?_
    refine lv_astore_n (lv' := [(3, .ref q9), (0, .ref (x 0)), (1, .int p0), (2, .ref ol)]) hx hb dL_power_12 rfl hl (by decide) rfl (fun ls hl => ?_)
    refine lv_iconst (v := nI 1) hx hb dL_power_13 (by decide) ?_
    exact hret _ _ (nI 1) (.inr ()) _ _ _ _ hP hD hS ⟨rfl, hq⟩ dL_power_14 (by omega) (by omega)
  refine lv_i2l hx hb dL_power_7 rfl ?_
  refine va_last hx hb hK hP hD hS 0 4 rfl rfl (vp_in_nI (show 0 < 1 by decide) (by decide)) dL_power_8 (fun H locs hP hD hS => ?_)
  rw [nI_clamp (show 0 < 2 ^ 31 by decide)] at hP hD
  have hP : va_P E.1 vwCl ([loC E ol (vp_updL lo 0 r.toInt64), coC E x a a2 a3 b d k pa y w, stC E a g, grC E k u.1 u.2] : List va_W).flatten H := hP
  have hD : va_D A ([loC E ol (vp_updL lo 0 r.toInt64), coC E x a a2 a3 b d k pa y w, stC E a g, grC E k u.1 u.2] : List va_W).flatten := hD
  refine lv_goto (tgt := 15) hx hb dL_power_9 (by decide) ?_
  refine lv_iconst (v := nI 0) hx hb dL_power_15 (by decide) ?_
  exact hret _ _ (nI 0) (.inl (u, r, (vp_updL lo 0 r.toInt64))) _ _ _ _ hP hD hS ⟨rfl, hw, rfl⟩ dL_power_16 (by omega) (by omega)
abbrev rm_L_powerByTable : Room := { frames := 8, cells := 1, slots := 6, locals := 154 }
set_option maxHeartbeats 4000000 in
set_option maxRecDepth 100000 in
theorem c_L_powerByTable (l : Launch) (hst : l.stackTraces = false) (E : EE) (sz : Nat) (x a a2 a3 b d k pa y w : Nat → Nat) (g : GG) (B : Nat) (hI : IB B g) (so gw : Nat → Nat) (p0 : Int32) (ol : Nat) (lo : Nat → Int64) : MW l yL_powerByTable cL_powerByTable 4 [(0, 9, 12, 21)] rm_L_powerByTable [.ref (x 0), .int p0, .ref ol] E sz [loC E ol lo, coC E x a a2 a3 b d k pa y w, stC E a g, grC E k so gw] (fun (r : Int32) (u : (((Nat → Nat) × (Nat → Nat)) × Int32 × (Nat → Int64)) ⊕ Unit) => Sum.elim (fun (vq : ((Nat → Nat) × (Nat → Nat)) × Int32 × (Nat → Int64)) => r = nI 0 ∧ (hasM g p0 = true ∧ vq.2.1 = nI (powN g (tn p0))) ∧ vq.2.2 0 = vq.2.1.toInt64) (fun (vq : Unit) => r = nI 1 ∧ hasM g p0 = false) u) (fun u => Sum.elim (fun (vq : ((Nat → Nat) × (Nat → Nat)) × Int32 × (Nat → Int64)) => [loC E ol vq.2.2, coC E x a a2 a3 b d k pa y w, stC E a g, grC E k vq.1.1 vq.1.2]) (fun (vq : Unit) => [loC E ol lo, coC E x a a2 a3 b d k pa y w, stC E a g, grC E k so gw]) u) 1 6 := by
  refine mw_go (by decide) (Nat.le_of_ble_eq_true rfl) ?_
  intro p e s m below meth c A Q ls hx hb hml hown hts hK hZ hDD hA hsz hP hD hl htab hret
  have hS : va_S A s.heap s.heap [] := va_S.rf
  have hl : lv_has ls 4 [(0, .ref (x 0)), (1, .int p0), (2, .ref ol)] := hl
  refine lv_aload_n hx hb dL_powerByTable_0 rfl (lv_at hl 2 rfl) ?_
  refine lv_iconst (v := nI 0) hx hb dL_powerByTable_1 (by decide) ?_
  refine lv_aload_n hx hb dL_powerByTable_2 rfl (lv_at hl 0 rfl) ?_
  refine lv_iload_n hx hb dL_powerByTable_3 rfl (lv_at hl 1 rfl) ?_
  refine run_xi (S := (Nat → Nat) × (Nat → Nat)) (SX := Unit) (run_XV (As := [.int p0]) (rest := [.int (nI 0), .ref ol]) (bs := [loC E ol lo, coC E x a a2 a3 b d k pa y w, stC E a g, grC E k so gw]) (cb := [coC E x a a2 a3 b d k pa y w, stC E a g, grC E k so gw]) hx hb hml hown hts hK hZ hDD hA (c_X5_powerByTable l hst E _ x a a2 a3 b d k pa y w g B hI so gw p0) l_L_97 rfl ⟨⟨rfl, rfl⟩, Nat.le_of_ble_eq_true rfl, Nat.le_of_ble_eq_true rfl⟩ 9 rfl [1, 2, 3] rfl (by decide) rfl hP hD hS hl.1 rfl (Nat.le_of_ble_eq_true rfl) dL_powerByTable_4 ⟨Nat.le_of_ble_eq_true rfl, Nat.le_of_ble_eq_true rfl⟩) hA hP hD hS (isC := [1, 2, 3]) rfl [0] [0, 1, 2, 3] (br := [loC E ol lo]) (bs2 := fun u => [loC E ol lo, coC E x a a2 a3 b d k pa y w, stC E a g, grC E k u.1 u.2]) (bx2 := fun _ => [loC E ol lo, coC E x a a2 a3 b d k pa y w, stC E a g, grC E k so gw]) rfl (by decide) (fun _ => rfl) (fun _ => rfl) (by decide) (fun Ex ce q9 ux H locs hw hP hD hS hc1 hc2 hc3 => ?_) (fun r u H locs hw hP hD hS => ?_)
  · skip
    obtain ⟨hE, hq⟩ := hw
    subst hE
    refine vx_catch (own := RL) (name := IOX) hown [] ⟨0, 9, 12, 21⟩ [] (htab.trans rfl) (fun z hz => absurd hz List.not_mem_nil) rfl (by decide) (hts _ q615) (va_Nw.use rfl (hZ.2.2.1 _ (List.mem_of_getElem? (i := 0) rfl))) hc1 hc2 hc3 ?_
    refine lv_astore_n (lv' := [(3, .ref q9), (0, .ref (x 0)), (1, .int p0), (2, .ref ol)]) hx hb dL_powerByTable_12 rfl hl (by decide) rfl (fun ls hl => ?_)
    refine lv_iconst (v := nI 1) hx hb dL_powerByTable_13 (by decide) ?_
    exact hret _ _ (nI 1) (.inr ()) _ _ _ _ hP hD hS ⟨rfl, hq⟩ dL_powerByTable_14 (by omega) (by omega)
  refine lv_i2l hx hb dL_powerByTable_7 rfl ?_
  refine va_last hx hb hK hP hD hS 0 4 rfl rfl (vp_in_nI (show 0 < 1 by decide) (by decide)) dL_powerByTable_8 (fun H locs hP hD hS => ?_)
  rw [nI_clamp (show 0 < 2 ^ 31 by decide)] at hP hD
  have hP : va_P E.1 vwCl ([loC E ol (vp_updL lo 0 r.toInt64), coC E x a a2 a3 b d k pa y w, stC E a g, grC E k u.1 u.2] : List va_W).flatten H := hP
  have hD : va_D A ([loC E ol (vp_updL lo 0 r.toInt64), coC E x a a2 a3 b d k pa y w, stC E a g, grC E k u.1 u.2] : List va_W).flatten := hD
  refine lv_goto (tgt := 15) hx hb dL_powerByTable_9 (by decide) ?_
  refine lv_iconst (v := nI 0) hx hb dL_powerByTable_15 (by decide) ?_
  exact hret _ _ (nI 0) (.inl (u, r, (vp_updL lo 0 r.toInt64))) _ _ _ _ hP hD hS ⟨rfl, hw, rfl⟩ dL_powerByTable_16 (by omega) (by omega)
abbrev rm_L_smallestMajority : Room := { frames := 7, cells := 1, slots := 6, locals := 145 }
set_option maxHeartbeats 4000000 in
set_option maxRecDepth 100000 in
theorem c_L_smallestMajority (l : Launch) (hst : l.stackTraces = false) (E : EE) (sz : Nat) (x a a2 a3 b d k pa y w : Nat → Nat) (g : GG) (B : Nat) (hI : IB B g) (so gw : Nat → Nat) (ol : Nat) (lo : Nat → Int64) : MW l yL_smallestMajority cL_smallestMajority 3 [(0, 8, 11, 64)] rm_L_smallestMajority [.ref (x 0), .ref ol] E sz [loC E ol lo, coC E x a a2 a3 b d k pa y w, stC E a g, grC E k so gw] (fun (r : Int32) (u : (((Nat → Nat) × (Nat → Nat)) × Int32 × (Nat → Int64)) ⊕ Unit) => Sum.elim (fun (vq : ((Nat → Nat) × (Nat → Nat)) × Int32 × (Nat → Int64)) => r = nI 0 ∧ (g 8 0 ≠ 0 ∧ vq.2.1 = nI (few8 g (2 ^ g 8 0))) ∧ vq.2.2 0 = vq.2.1.toInt64) (fun (vq : Unit) => r = nI 1 ∧ g 8 0 = 0) u) (fun u => Sum.elim (fun (vq : ((Nat → Nat) × (Nat → Nat)) × Int32 × (Nat → Int64)) => [loC E ol vq.2.2, coC E x a a2 a3 b d k pa y w, stC E a g, grC E k vq.1.1 vq.1.2]) (fun (vq : Unit) => [loC E ol lo, coC E x a a2 a3 b d k pa y w, stC E a g, grC E k so gw]) u) 1 6 := by
  refine mw_go (by decide) (Nat.le_of_ble_eq_true rfl) ?_
  intro p e s m below meth c A Q ls hx hb hml hown hts hK hZ hDD hA hsz hP hD hl htab hret
  have hS : va_S A s.heap s.heap [] := va_S.rf
  have hl : lv_has ls 3 [(0, .ref (x 0)), (1, .ref ol)] := hl
  refine lv_aload_n hx hb dL_smallestMajority_0 rfl (lv_at hl 1 rfl) ?_
  refine lv_iconst (v := nI 0) hx hb dL_smallestMajority_1 (by decide) ?_
  refine lv_aload_n hx hb dL_smallestMajority_2 rfl (lv_at hl 0 rfl) ?_
  refine run_xi (S := (Nat → Nat) × (Nat → Nat)) (SX := Unit) (run_XV (As := []) (rest := [.int (nI 0), .ref ol]) (bs := [loC E ol lo, coC E x a a2 a3 b d k pa y w, stC E a g, grC E k so gw]) (cb := [coC E x a a2 a3 b d k pa y w, stC E a g, grC E k so gw]) hx hb hml hown hts hK hZ hDD hA (c_X5_smallestMajority l hst E _ x a a2 a3 b d k pa y w g B hI so gw) l_L_100 rfl ⟨⟨rfl, rfl⟩, Nat.le_of_ble_eq_true rfl, Nat.le_of_ble_eq_true rfl⟩ 9 rfl [1, 2, 3] rfl (by decide) rfl hP hD hS hl.1 rfl (Nat.le_of_ble_eq_true rfl) dL_smallestMajority_3 ⟨Nat.le_of_ble_eq_true rfl, Nat.le_of_ble_eq_true rfl⟩) hA hP hD hS (isC := [1, 2, 3]) rfl [0] [0, 1, 2, 3] (br := [loC E ol lo]) (bs2 := fun u => [loC E ol lo, coC E x a a2 a3 b d k pa y w, stC E a g, grC E k u.1 u.2]) (bx2 := fun _ => [loC E ol lo, coC E x a a2 a3 b d k pa y w, stC E a g, grC E k so gw]) rfl (by decide) (fun _ => rfl) (fun _ => rfl) (by decide) (fun Ex ce q9 ux H locs hw hP hD hS hc1 hc2 hc3 => ?_) (fun r u H locs hw hP hD hS => ?_)
  · skip
    obtain ⟨hE, hq⟩ := hw
    subst hE
    refine vx_catch (own := RL) (name := NSE) hown [] ⟨0, 8, 11, 64⟩ [] (htab.trans rfl) (fun z hz => absurd hz List.not_mem_nil) rfl (by decide) (hts _ q806) (va_Nw.use rfl (hZ.2.2.1 _ (List.mem_of_getElem? (i := 5) rfl))) hc1 hc2 hc3 ?_
    refine lv_astore_n (lv' := [(2, .ref q9), (0, .ref (x 0)), (1, .ref ol)]) hx hb dL_smallestMajority_11 rfl hl (by decide) rfl (fun ls hl => ?_)
    refine lv_iconst (v := nI 1) hx hb dL_smallestMajority_12 (by decide) ?_
    exact hret _ _ (nI 1) (.inr ()) _ _ _ _ hP hD hS ⟨rfl, hq⟩ dL_smallestMajority_13 (by omega) (by omega)
  refine lv_i2l hx hb dL_smallestMajority_6 rfl ?_
  refine va_last hx hb hK hP hD hS 0 4 rfl rfl (vp_in_nI (show 0 < 1 by decide) (by decide)) dL_smallestMajority_7 (fun H locs hP hD hS => ?_)
  rw [nI_clamp (show 0 < 2 ^ 31 by decide)] at hP hD
  have hP : va_P E.1 vwCl ([loC E ol (vp_updL lo 0 r.toInt64), coC E x a a2 a3 b d k pa y w, stC E a g, grC E k u.1 u.2] : List va_W).flatten H := hP
  have hD : va_D A ([loC E ol (vp_updL lo 0 r.toInt64), coC E x a a2 a3 b d k pa y w, stC E a g, grC E k u.1 u.2] : List va_W).flatten := hD
  refine lv_goto (tgt := 14) hx hb dL_smallestMajority_8 (by decide) ?_
  refine lv_iconst (v := nI 0) hx hb dL_smallestMajority_14 (by decide) ?_
  exact hret _ _ (nI 0) (.inl (u, r, (vp_updL lo 0 r.toInt64))) _ _ _ _ hP hD hS ⟨rfl, hw, rfl⟩ dL_smallestMajority_15 (by omega) (by omega)
abbrev rm_L_spoiltBeat : Room := { frames := 7, cells := 1, slots := 6, locals := 121 }
set_option maxHeartbeats 4000000 in
set_option maxRecDepth 100000 in
theorem c_L_spoiltBeat (l : Launch) (hst : l.stackTraces = false) (E : EE) (sz : Nat) (x a a2 a3 b d k pa y w : Nat → Nat) (g : GG) (B : Nat) (hI : IB B g) (p0 : Int32) (ol : Nat) (lo : Nat → Int64) : MW l yL_spoiltBeat cL_spoiltBeat 4 [(0, 9, 12, 21)] rm_L_spoiltBeat [.ref (x 0), .int p0, .ref ol] E sz [loC E ol lo, coC E x a a2 a3 b d k pa y w, stC E a g] (fun (r : Int32) (u : (Unit × Int32 × (Nat → Int64)) ⊕ Unit) => Sum.elim (fun (vq : Unit × Int32 × (Nat → Int64)) => r = nI 0 ∧ ((0 ≤ p0.toInt ∧ p0.toInt < (g 8 7 : Int)) ∧ vq.2.1 = nI (g 7 (tn p0))) ∧ vq.2.2 0 = vq.2.1.toInt64) (fun (vq : Unit) => r = nI 1 ∧ ¬ (0 ≤ p0.toInt ∧ p0.toInt < (g 8 7 : Int))) u) (fun u => Sum.elim (fun (vq : Unit × Int32 × (Nat → Int64)) => [loC E ol vq.2.2, coC E x a a2 a3 b d k pa y w, stC E a g]) (fun (vq : Unit) => [loC E ol lo, coC E x a a2 a3 b d k pa y w, stC E a g]) u) 1 6 := by
  refine mw_go (by decide) (Nat.le_of_ble_eq_true rfl) ?_
  intro p e s m below meth c A Q ls hx hb hml hown hts hK hZ hDD hA hsz hP hD hl htab hret
  have hS : va_S A s.heap s.heap [] := va_S.rf
  have hl : lv_has ls 4 [(0, .ref (x 0)), (1, .int p0), (2, .ref ol)] := hl
  refine lv_aload_n hx hb dL_spoiltBeat_0 rfl (lv_at hl 2 rfl) ?_
  refine lv_iconst (v := nI 0) hx hb dL_spoiltBeat_1 (by decide) ?_
  refine lv_aload_n hx hb dL_spoiltBeat_2 rfl (lv_at hl 0 rfl) ?_
  refine lv_iload_n hx hb dL_spoiltBeat_3 rfl (lv_at hl 1 rfl) ?_
  refine run_xi (S := Unit) (SX := Unit) (run_XV (As := [.int p0]) (rest := [.int (nI 0), .ref ol]) (bs := [loC E ol lo, coC E x a a2 a3 b d k pa y w, stC E a g]) (cb := [coC E x a a2 a3 b d k pa y w, stC E a g]) hx hb hml hown hts hK hZ hDD hA (c_X5_spoiltBeat l hst E _ x a a2 a3 b d k pa y w g B hI p0) l_L_103 rfl ⟨⟨rfl, rfl⟩, Nat.le_of_ble_eq_true rfl, Nat.le_of_ble_eq_true rfl⟩ 9 rfl [1, 2] rfl (by decide) rfl hP hD hS hl.1 rfl (Nat.le_of_ble_eq_true rfl) dL_spoiltBeat_4 ⟨Nat.le_of_ble_eq_true rfl, Nat.le_of_ble_eq_true rfl⟩) hA hP hD hS (isC := [1, 2]) rfl [0] [0, 1, 2] (br := [loC E ol lo]) (bs2 := fun _ => [loC E ol lo, coC E x a a2 a3 b d k pa y w, stC E a g]) (bx2 := fun _ => [loC E ol lo, coC E x a a2 a3 b d k pa y w, stC E a g]) rfl (by decide) (fun _ => rfl) (fun _ => rfl) (by decide) (fun Ex ce q9 ux H locs hw hP hD hS hc1 hc2 hc3 => ?_) (fun r u H locs hw hP hD hS => ?_)
  · skip
    obtain ⟨hE, hq⟩ := hw
    subst hE
    refine vx_catch (own := RL) (name := IOX) hown [] ⟨0, 9, 12, 21⟩ [] (htab.trans rfl) (fun z hz => absurd hz List.not_mem_nil) rfl (by decide) (hts _ q615) (va_Nw.use rfl (hZ.2.2.1 _ (List.mem_of_getElem? (i := 0) rfl))) hc1 hc2 hc3 ?_
    refine lv_astore_n (lv' := [(3, .ref q9), (0, .ref (x 0)), (1, .int p0), (2, .ref ol)]) hx hb dL_spoiltBeat_12 rfl hl (by decide) rfl (fun ls hl => ?_)
    refine lv_iconst (v := nI 1) hx hb dL_spoiltBeat_13 (by decide) ?_
    exact hret _ _ (nI 1) (.inr ()) _ _ _ _ hP hD hS ⟨rfl, hq⟩ dL_spoiltBeat_14 (by omega) (by omega)
  refine lv_i2l hx hb dL_spoiltBeat_7 rfl ?_
  refine va_last hx hb hK hP hD hS 0 4 rfl rfl (vp_in_nI (show 0 < 1 by decide) (by decide)) dL_spoiltBeat_8 (fun H locs hP hD hS => ?_)
  rw [nI_clamp (show 0 < 2 ^ 31 by decide)] at hP hD
  have hP : va_P E.1 vwCl ([loC E ol (vp_updL lo 0 r.toInt64), coC E x a a2 a3 b d k pa y w, stC E a g] : List va_W).flatten H := hP
  have hD : va_D A ([loC E ol (vp_updL lo 0 r.toInt64), coC E x a a2 a3 b d k pa y w, stC E a g] : List va_W).flatten := hD
  refine lv_goto (tgt := 15) hx hb dL_spoiltBeat_9 (by decide) ?_
  refine lv_iconst (v := nI 0) hx hb dL_spoiltBeat_15 (by decide) ?_
  exact hret _ _ (nI 0) (.inl ((), r, (vp_updL lo 0 r.toInt64))) _ _ _ _ hP hD hS ⟨rfl, hw, rfl⟩ dL_spoiltBeat_16 (by omega) (by omega)
abbrev rm_L_meanPurse : Room := { frames := 7, cells := 1, slots := 6, locals := 120 }
set_option maxHeartbeats 4000000 in
set_option maxRecDepth 100000 in
theorem c_L_meanPurse (l : Launch) (hst : l.stackTraces = false) (E : EE) (sz : Nat) (x a a2 a3 b d k pa y w : Nat → Nat) (g : GG) (B : Nat) (hI : IB B g)  (od : Nat) (dO : Nat → UInt64) : MW l yL_meanPurse cL_meanPurse 3 [(0, 7, 10, 110)] rm_L_meanPurse [.ref (x 0), .ref od] E sz [dbC E od dO, coC E x a a2 a3 b d k pa y w, stC E a g] (fun (r : Int32) (u : (Unit × UInt64 × (Nat → UInt64)) ⊕ Unit) => Sum.elim (fun (vq : Unit × UInt64 × (Nat → UInt64)) => r = nI 0 ∧ (g 8 0 ≠ 0 ∧ vq.2.1 = mpD g) ∧ vq.2.2 0 = vq.2.1) (fun (vq : Unit) => r = nI 1 ∧ g 8 0 = 0) u) (fun u => Sum.elim (fun (vq : Unit × UInt64 × (Nat → UInt64)) => [dbC E od vq.2.2, coC E x a a2 a3 b d k pa y w, stC E a g]) (fun (vq : Unit) => [dbC E od dO, coC E x a a2 a3 b d k pa y w, stC E a g]) u) 1 6 := by
  refine mw_go (by decide) (Nat.le_of_ble_eq_true rfl) ?_
  intro p e s m below meth c A Q ls hx hb hml hown hts hK hZ hDD hA hsz hP hD hl htab hret
  have hS : va_S A s.heap s.heap [] := va_S.rf
  have hl : lv_has ls 3 [(0, .ref (x 0)), (1, .ref od)] := hl
  refine lv_aload_n hx hb dL_meanPurse_0 rfl (lv_at hl 1 rfl) ?_
  refine lv_iconst (v := nI 0) hx hb dL_meanPurse_1 (by decide) ?_
  refine lv_aload_n hx hb dL_meanPurse_2 rfl (lv_at hl 0 rfl) ?_
  refine run_xd (S := Unit) (SX := Unit) (run_XV (As := []) (rest := [.int (nI 0), .ref od]) (bs := [dbC E od dO, coC E x a a2 a3 b d k pa y w, stC E a g]) (cb := [coC E x a a2 a3 b d k pa y w, stC E a g]) hx hb hml hown hts hK hZ hDD hA (c_X5_meanPurse l hst E _ x a a2 a3 b d k pa y w g B hI) l_L_106 rfl ⟨⟨rfl, rfl⟩, Nat.le_of_ble_eq_true rfl, Nat.le_of_ble_eq_true rfl⟩ 9 rfl [1, 2] rfl (by decide) rfl hP hD hS hl.1 rfl (Nat.le_of_ble_eq_true rfl) dL_meanPurse_3 ⟨Nat.le_of_ble_eq_true rfl, Nat.le_of_ble_eq_true rfl⟩) hA hP hD hS (isC := [1, 2]) rfl [0] [0, 1, 2] (br := [dbC E od dO]) (bs2 := fun _ => [dbC E od dO, coC E x a a2 a3 b d k pa y w, stC E a g]) (bx2 := fun _ => [dbC E od dO, coC E x a a2 a3 b d k pa y w, stC E a g]) rfl (by decide) (fun _ => rfl) (fun _ => rfl) (by decide) (fun Ex ce q9 ux H locs hw hP hD hS hc1 hc2 hc3 => ?_) (fun r u H locs hw hP hD hS => ?_)
  · skip
    obtain ⟨hE, hq⟩ := hw
    subst hE
    refine vx_catch (own := RL) (name := AEX) hown [] ⟨0, 7, 10, 110⟩ [] (htab.trans rfl) (fun z hz => absurd hz List.not_mem_nil) rfl (by decide) (hts _ q956) (va_Nw.use rfl (hZ.2.2.1 _ (List.mem_of_getElem? (i := 6) rfl))) hc1 hc2 hc3 ?_
    refine lv_astore_n (lv' := [(2, .ref q9), (0, .ref (x 0)), (1, .ref od)]) hx hb dL_meanPurse_10 rfl hl (by decide) rfl (fun ls hl => ?_)
    refine lv_iconst (v := nI 1) hx hb dL_meanPurse_11 (by decide) ?_
    exact hret _ _ (nI 1) (.inr ()) _ _ _ _ hP hD hS ⟨rfl, hq⟩ dL_meanPurse_12 (by omega) (by omega)
  refine va_dast hx hb hK hP hD hS 0 5 rfl rfl (vp_in_nI (show 0 < 1 by decide) (by decide)) dL_meanPurse_6 (fun H locs hP hD hS => ?_)
  rw [nI_clamp (show 0 < 2 ^ 31 by decide)] at hP hD
  have hP : va_P E.1 vwCl ([dbC E od (vf_upd dO 0 r), coC E x a a2 a3 b d k pa y w, stC E a g] : List va_W).flatten H := hP
  have hD : va_D A ([dbC E od (vf_upd dO 0 r), coC E x a a2 a3 b d k pa y w, stC E a g] : List va_W).flatten := hD
  refine lv_goto (tgt := 13) hx hb dL_meanPurse_7 (by decide) ?_
  refine lv_iconst (v := nI 0) hx hb dL_meanPurse_13 (by decide) ?_
  exact hret _ _ (nI 0) (.inl ((), r, (vf_upd dO 0 r))) _ _ _ _ hP hD hS ⟨rfl, hw, rfl⟩ dL_meanPurse_14 (by omega) (by omega)
abbrev rm_L_powerShare : Room := { frames := 8, cells := 1, slots := 6, locals := 205 }
set_option maxHeartbeats 4000000 in
set_option maxRecDepth 100000 in
theorem c_L_powerShare (l : Launch) (hst : l.stackTraces = false) (E : EE) (sz : Nat) (x a a2 a3 b d k pa y w : Nat → Nat) (g : GG) (B : Nat) (hI : IB B g) (so gw : Nat → Nat) (p0 : Int32) (od : Nat) (dO : Nat → UInt64) : MW l yL_powerShare cL_powerShare 4 [(0, 9, 12, 21)] rm_L_powerShare [.ref (x 0), .int p0, .ref od] E sz [dbC E od dO, coC E x a a2 a3 b d k pa y w, stC E a g, grC E k so gw] (fun (r : Int32) (u : (((Nat → Nat) × (Nat → Nat)) × UInt32 × (Nat → UInt64)) ⊕ Unit) => Sum.elim (fun (vq : ((Nat → Nat) × (Nat → Nat)) × UInt32 × (Nat → UInt64)) => r = nI 0 ∧ (hasM g p0 = true ∧ vq.2.1 = psF g (tn p0)) ∧ vq.2.2 0 = FP.f2d vq.2.1) (fun (vq : Unit) => r = nI 1 ∧ hasM g p0 = false) u) (fun u => Sum.elim (fun (vq : ((Nat → Nat) × (Nat → Nat)) × UInt32 × (Nat → UInt64)) => [dbC E od vq.2.2, coC E x a a2 a3 b d k pa y w, stC E a g, grC E k vq.1.1 vq.1.2]) (fun (vq : Unit) => [dbC E od dO, coC E x a a2 a3 b d k pa y w, stC E a g, grC E k so gw]) u) 1 6 := by
  refine mw_go (by decide) (Nat.le_of_ble_eq_true rfl) ?_
  intro p e s m below meth c A Q ls hx hb hml hown hts hK hZ hDD hA hsz hP hD hl htab hret
  have hS : va_S A s.heap s.heap [] := va_S.rf
  have hl : lv_has ls 4 [(0, .ref (x 0)), (1, .int p0), (2, .ref od)] := hl
  have hmc := hI.mc
  refine lv_aload_n hx hb dL_powerShare_0 rfl (lv_at hl 2 rfl) ?_
  refine lv_iconst (v := nI 0) hx hb dL_powerShare_1 (by decide) ?_
  refine lv_aload_n hx hb dL_powerShare_2 rfl (lv_at hl 0 rfl) ?_
  refine lv_iload_n hx hb dL_powerShare_3 rfl (lv_at hl 1 rfl) ?_
  refine run_xf (S := (Nat → Nat) × (Nat → Nat)) (SX := Unit) (run_XV (As := [.int p0]) (rest := [.int (nI 0), .ref od]) (bs := [dbC E od dO, coC E x a a2 a3 b d k pa y w, stC E a g, grC E k so gw]) (cb := [coC E x a a2 a3 b d k pa y w, stC E a g, grC E k so gw]) hx hb hml hown hts hK hZ hDD hA (c_X5_powerShare l hst E _ x a a2 a3 b d k pa y w g B hI so gw p0) l_L_112 rfl ⟨⟨rfl, rfl⟩, Nat.le_of_ble_eq_true rfl, Nat.le_of_ble_eq_true rfl⟩ 9 rfl [1, 2, 3] rfl (by decide) rfl hP hD hS hl.1 rfl (Nat.le_of_ble_eq_true rfl) dL_powerShare_4 ⟨Nat.le_of_ble_eq_true rfl, Nat.le_of_ble_eq_true rfl⟩) hA hP hD hS (isC := [1, 2, 3]) rfl [0] [0, 1, 2, 3] (br := [dbC E od dO]) (bs2 := fun u => [dbC E od dO, coC E x a a2 a3 b d k pa y w, stC E a g, grC E k u.1 u.2]) (bx2 := fun _ => [dbC E od dO, coC E x a a2 a3 b d k pa y w, stC E a g, grC E k so gw]) rfl (by decide) (fun _ => rfl) (fun _ => rfl) (by decide) (fun Ex ce q9 ux H locs hw hP hD hS hc1 hc2 hc3 => ?_) (fun r u H locs hw hP hD hS => ?_)
  · skip
    obtain ⟨hE, hq⟩ := hw
    subst hE
    refine vx_catch (own := RL) (name := IOX) hown [] ⟨0, 9, 12, 21⟩ [] (htab.trans rfl) (fun z hz => absurd hz List.not_mem_nil) rfl (by decide) (hts _ q615) (va_Nw.use rfl (hZ.2.2.1 _ (List.mem_of_getElem? (i := 0) rfl))) hc1 hc2 hc3 ?_
    refine lv_astore_n (lv' := [(3, .ref q9), (0, .ref (x 0)), (1, .int p0), (2, .ref od)]) hx hb dL_powerShare_12 rfl hl (by decide) rfl (fun ls hl => ?_)
    refine lv_iconst (v := nI 1) hx hb dL_powerShare_13 (by decide) ?_
    exact hret _ _ (nI 1) (.inr ()) _ _ _ _ hP hD hS ⟨rfl, hq⟩ dL_powerShare_14 (by omega) (by omega)
  refine lv_f2d hx hb dL_powerShare_7 (by rw [hw.2]; exact f2d_n (ps_n hI (by have := hasM_t hw.1; omega) _)) ?_
  refine va_dast hx hb hK hP hD hS 0 5 rfl rfl (vp_in_nI (show 0 < 1 by decide) (by decide)) dL_powerShare_8 (fun H locs hP hD hS => ?_)
  rw [nI_clamp (show 0 < 2 ^ 31 by decide)] at hP hD
  have hP : va_P E.1 vwCl ([dbC E od (vf_upd dO 0 (FP.f2d r)), coC E x a a2 a3 b d k pa y w, stC E a g, grC E k u.1 u.2] : List va_W).flatten H := hP
  have hD : va_D A ([dbC E od (vf_upd dO 0 (FP.f2d r)), coC E x a a2 a3 b d k pa y w, stC E a g, grC E k u.1 u.2] : List va_W).flatten := hD
  refine lv_goto (tgt := 15) hx hb dL_powerShare_9 (by decide) ?_
  refine lv_iconst (v := nI 0) hx hb dL_powerShare_15 (by decide) ?_
  exact hret _ _ (nI 0) (.inl (u, r, (vf_upd dO 0 (FP.f2d r)))) _ _ _ _ hP hD hS ⟨rfl, hw, rfl⟩ dL_powerShare_16 (by omega) (by omega)
abbrev rm_L_append : Room := { frames := 7, cells := 1, slots := 6, locals := 121 }
set_option maxHeartbeats 4000000 in
set_option maxRecDepth 100000 in
theorem c_L_append (l : Launch) (hst : l.stackTraces = false) (E : EE) (sz : Nat) (x a a2 a3 b d k pa y w : Nat → Nat) (q : Nat → Nat) (F : GG) (n0 : Nat) (hn : n0 < 65536) (h0 : q 0 ≤ 60) (ol : Nat) (lo : Nat → Int64) : MW l yL_append cL_append 4 [(0, 9, 12, 15)] rm_L_append [.ref (x 0), .int (nI n0), .ref ol] E sz [loC E ol lo, coC E x a a2 a3 b d k pa y w, prC E pa q F] (fun (r : Int32) (u : (Unit × Int32 × (Nat → Int64)) ⊕ Unit) => Sum.elim (fun (vq : Unit × Int32 × (Nat → Int64)) => r = nI 0 ∧ (q 0 < 60 ∧ vq.2.1 = nI (q 0 + 1)) ∧ vq.2.2 0 = vq.2.1.toInt64) (fun (vq : Unit) => r = nI 1 ∧ ¬ q 0 < 60) u) (fun u => Sum.elim (fun (vq : Unit × Int32 × (Nat → Int64)) => [loC E ol vq.2.2, coC E x a a2 a3 b d k pa y w, prC E pa (upn q 0 (q 0 + 1)) (upr F 0 (upn (F 0) (q 0) n0))]) (fun (vq : Unit) => [loC E ol lo, coC E x a a2 a3 b d k pa y w, prC E pa q F]) u) 1 6 := by
  refine mw_go (by decide) (Nat.le_of_ble_eq_true rfl) ?_
  intro p e s m below meth c A Q ls hx hb hml hown hts hK hZ hDD hA hsz hP hD hl htab hret
  have hS : va_S A s.heap s.heap [] := va_S.rf
  have hl : lv_has ls 4 [(0, .ref (x 0)), (1, .int (nI n0)), (2, .ref ol)] := hl
  refine lv_aload_n hx hb dL_append_0 rfl (lv_at hl 2 rfl) ?_
  refine lv_iconst (v := nI 0) hx hb dL_append_1 (by decide) ?_
  refine lv_aload_n hx hb dL_append_2 rfl (lv_at hl 0 rfl) ?_
  refine lv_iload_n hx hb dL_append_3 rfl (lv_at hl 1 rfl) ?_
  refine run_xi (S := Unit) (SX := Unit) (run_XV (As := [.int (nI n0)]) (rest := [.int (nI 0), .ref ol]) (bs := [loC E ol lo, coC E x a a2 a3 b d k pa y w, prC E pa q F]) (cb := [coC E x a a2 a3 b d k pa y w, prC E pa q F]) hx hb hml hown hts hK hZ hDD hA (c_X5_append l hst E _ x a a2 a3 b d k pa y w q F n0 hn h0) l_L_116 rfl ⟨⟨rfl, rfl⟩, Nat.le_of_ble_eq_true rfl, Nat.le_of_ble_eq_true rfl⟩ 9 rfl [1, 2] rfl (by decide) rfl hP hD hS hl.1 rfl (Nat.le_of_ble_eq_true rfl) dL_append_4 ⟨Nat.le_of_ble_eq_true rfl, Nat.le_of_ble_eq_true rfl⟩) hA hP hD hS (isC := [1, 2]) rfl [0] [0, 1, 2] (br := [loC E ol lo]) (bs2 := fun _ => [loC E ol lo, coC E x a a2 a3 b d k pa y w, prC E pa (upn q 0 (q 0 + 1)) (upr F 0 (upn (F 0) (q 0) n0))]) (bx2 := fun _ => [loC E ol lo, coC E x a a2 a3 b d k pa y w, prC E pa q F]) rfl (by decide) (fun _ => rfl) (fun _ => rfl) (by decide) (fun Ex ce q9 ux H locs hw hP hD hS hc1 hc2 hc3 => ?_) (fun r u H locs hw hP hD hS => ?_)
  · skip
    obtain ⟨hE, hq⟩ := hw
    subst hE
    refine vx_catch (own := RL) (name := ISX) hown [] ⟨0, 9, 12, 15⟩ [] (htab.trans rfl) (fun z hz => absurd hz List.not_mem_nil) rfl (by decide) (hts _ q465) (va_Nw.use rfl (hZ.2.2.1 _ (List.mem_of_getElem? (i := 2) rfl))) hc1 hc2 hc3 ?_
    refine lv_astore_n (lv' := [(3, .ref q9), (0, .ref (x 0)), (1, .int (nI n0)), (2, .ref ol)]) hx hb dL_append_12 rfl hl (by decide) rfl (fun ls hl => ?_)
    refine lv_iconst (v := nI 1) hx hb dL_append_13 (by decide) ?_
    exact hret _ _ (nI 1) (.inr ()) _ _ _ _ hP hD hS ⟨rfl, hq⟩ dL_append_14 (by omega) (by omega)
  refine lv_i2l hx hb dL_append_7 rfl ?_
  refine va_last hx hb hK hP hD hS 0 4 rfl rfl (vp_in_nI (show 0 < 1 by decide) (by decide)) dL_append_8 (fun H locs hP hD hS => ?_)
  rw [nI_clamp (show 0 < 2 ^ 31 by decide)] at hP hD
  have hP : va_P E.1 vwCl ([loC E ol (vp_updL lo 0 r.toInt64), coC E x a a2 a3 b d k pa y w, prC E pa (upn q 0 (q 0 + 1)) (upr F 0 (upn (F 0) (q 0) n0))] : List va_W).flatten H := hP
  have hD : va_D A ([loC E ol (vp_updL lo 0 r.toInt64), coC E x a a2 a3 b d k pa y w, prC E pa (upn q 0 (q 0 + 1)) (upr F 0 (upn (F 0) (q 0) n0))] : List va_W).flatten := hD
  refine lv_goto (tgt := 15) hx hb dL_append_9 (by decide) ?_
  refine lv_iconst (v := nI 0) hx hb dL_append_15 (by decide) ?_
  exact hret _ _ (nI 0) (.inl ((), r, (vp_updL lo 0 r.toInt64))) _ _ _ _ hP hD hS ⟨rfl, hw, rfl⟩ dL_append_16 (by omega) (by omega)
abbrev rm_L_run : Room := { frames := 8, cells := 2, slots := 12, locals := 259 }
set_option maxHeartbeats 4000000 in
set_option maxRecDepth 100000 in
theorem c_L_run (l : Launch) (hst : l.stackTraces = false) (E : EE) (sz : Nat) (x a a2 a3 b d k pa y w : Nat → Nat) (g : GG) (B : Nat) (hI : IB B g) (hs : Nat → Nat → Nat) (hg : Nat → GG) (nx ct : Nat) (hnx : nx < 8) (hct : ct ≤ 8) (g3 : GG) (q : Nat → Nat) (F : GG) (co re : Nat → Nat) (h0 : q 0 ≤ 60) (ho : ∀ j, F 0 j < 65536) (hB : B + 420 ≤ 300000) (t : Nat → Nat) (ol : Nat) (lo : Nat → Int64) : MW l yL_run cL_run 3 [(0, 8, 11, 13), (0, 8, 14, 29)] rm_L_run [.ref (x 0), .ref ol] E sz [loC E ol lo, coC E x a a2 a3 b d k pa y w, stC E a g, stC E a3 g3, hhC E b hs hg nx ct, prC E pa q F, diC E d co re] (fun (r : Int32) (u : (((Nat → Nat) × GG × (Nat → Nat) × GG × (Nat → Nat) × (Nat → Nat)) × Int32 × (Nat → Int64)) ⊕ ((Nat → Nat) × GG × (Nat → Nat) × GG × (Nat → Nat) × (Nat → Nat))) => Sum.elim (fun (vq : ((Nat → Nat) × GG × (Nat → Nat) × GG × (Nat → Nat) × (Nat → Nat)) × Int32 × (Nat → Int64)) => r = nI 0 ∧ ((vq.1.2.2.1 0 = 0 ∧ vq.1.2.2.2.1 0 = F 0) ∧ ((prgR (F 0) (q 0) 20 0 0 t).2.2.1 = 0 ∧ (prgR (F 0) (q 0) 20 0 0 t).2.1 = q 0) ∧ (exN g (prgR (F 0) (q 0) 20 0 0 t).2.2.2 (prgR (F 0) (q 0) 20 0 0 t).1) = (prgR (F 0) (q 0) 20 0 0 t).1 ∧ vq.2.1 = nI (prgR (F 0) (q 0) 20 0 0 t).1) ∧ vq.2.2 0 = vq.2.1.toInt64) (fun (vq : (Nat → Nat) × GG × (Nat → Nat) × GG × (Nat → Nat) × (Nat → Nat)) => (vq.2.2.1 0 = 0 ∧ vq.2.2.2.1 0 = F 0) ∧ ((r = nI 1 ∧ ¬ ((prgR (F 0) (q 0) 20 0 0 t).2.2.1 = 0 ∧ (prgR (F 0) (q 0) 20 0 0 t).2.1 = q 0) ∧ vq.1 = upn w 1 ((prgR (F 0) (q 0) 20 0 0 t).2.1 + 1)) ∨ (r = nI 2 ∧ ((prgR (F 0) (q 0) 20 0 0 t).2.2.1 = 0 ∧ (prgR (F 0) (q 0) 20 0 0 t).2.1 = q 0) ∧ (exN g (prgR (F 0) (q 0) 20 0 0 t).2.2.2 (prgR (F 0) (q 0) 20 0 0 t).1) < (prgR (F 0) (q 0) 20 0 0 t).1 ∧ vq.1 = upn w 2 ((exN g (prgR (F 0) (q 0) 20 0 0 t).2.2.2 (prgR (F 0) (q 0) 20 0 0 t).1) + 1)))) u) (fun u => Sum.elim (fun (vq : ((Nat → Nat) × GG × (Nat → Nat) × GG × (Nat → Nat) × (Nat → Nat)) × Int32 × (Nat → Int64)) => [loC E ol vq.2.2, coC E x a a2 a3 b d k pa y w, stC E a (exG g (prgR (F 0) (q 0) 20 0 0 t).2.2.2 (prgR (F 0) (q 0) 20 0 0 t).1), stC E a3 vq.1.2.1, hhC E b hs (upa hg nx g) ((nx + 1) % 8) (if 8 < ct + 1 then 8 else ct + 1), prC E pa vq.1.2.2.1 vq.1.2.2.2.1, diC E d vq.1.2.2.2.2.1 vq.1.2.2.2.2.2]) (fun (vq : (Nat → Nat) × GG × (Nat → Nat) × GG × (Nat → Nat) × (Nat → Nat)) => [loC E ol lo, coC E x a a2 a3 b d k pa y vq.1, stC E a g, stC E a3 vq.2.1, hhC E b hs hg nx ct, prC E pa vq.2.2.1 vq.2.2.2.1, diC E d vq.2.2.2.2.1 vq.2.2.2.2.2]) u) 2 12 := by
  refine mw_go (by decide) (Nat.le_of_ble_eq_true rfl) ?_
  intro p e s m below meth c A Q ls hx hb hml hown hts hK hZ hDD hA hsz hP hD hl htab hret
  have hS : va_S A s.heap s.heap [] := va_S.rf
  have hl : lv_has ls 3 [(0, .ref (x 0)), (1, .ref ol)] := hl
  refine lv_aload_n hx hb dL_run_0 rfl (lv_at hl 1 rfl) ?_
  refine lv_iconst (v := nI 0) hx hb dL_run_1 (by decide) ?_
  refine lv_aload_n hx hb dL_run_2 rfl (lv_at hl 0 rfl) ?_
  refine run_xi (S := (Nat → Nat) × GG × (Nat → Nat) × GG × (Nat → Nat) × (Nat → Nat)) (SX := (Nat → Nat) × GG × (Nat → Nat) × GG × (Nat → Nat) × (Nat → Nat)) (run_XV (As := []) (rest := [.int (nI 0), .ref ol]) (bs := [loC E ol lo, coC E x a a2 a3 b d k pa y w, stC E a g, stC E a3 g3, hhC E b hs hg nx ct, prC E pa q F, diC E d co re]) (cb := [coC E x a a2 a3 b d k pa y w, stC E a g, stC E a3 g3, hhC E b hs hg nx ct, prC E pa q F, diC E d co re]) hx hb hml hown hts hK hZ hDD hA (c_X5_run l hst E _ x a a2 a3 b d k pa y w g B hI hs hg nx ct hnx hct g3 q F co re h0 ho hB t) l_L_120 rfl ⟨⟨rfl, rfl⟩, Nat.le_of_ble_eq_true rfl, Nat.le_of_ble_eq_true rfl⟩ 9 rfl [1, 2, 3, 4, 5, 6] rfl (by decide) rfl hP hD hS hl.1 rfl (Nat.le_of_ble_eq_true rfl) dL_run_3 ⟨Nat.le_of_ble_eq_true rfl, Nat.le_of_ble_eq_true rfl⟩) hA hP hD hS (isC := [1, 2, 3, 4, 5, 6]) rfl [0] [0, 1, 2, 3, 4, 5, 6] (br := [loC E ol lo]) (bs2 := fun u => [loC E ol lo, coC E x a a2 a3 b d k pa y w, stC E a (exG g (prgR (F 0) (q 0) 20 0 0 t).2.2.2 (prgR (F 0) (q 0) 20 0 0 t).1), stC E a3 u.2.1, hhC E b hs (upa hg nx g) ((nx + 1) % 8) (if 8 < ct + 1 then 8 else ct + 1), prC E pa u.2.2.1 u.2.2.2.1, diC E d u.2.2.2.2.1 u.2.2.2.2.2]) (bx2 := fun u => [loC E ol lo, coC E x a a2 a3 b d k pa y u.1, stC E a g, stC E a3 u.2.1, hhC E b hs hg nx ct, prC E pa u.2.2.1 u.2.2.2.1, diC E d u.2.2.2.2.1 u.2.2.2.2.2]) rfl (by decide) (fun _ => rfl) (fun _ => rfl) (by decide) (fun Ex ce q9 ux H locs hw hP hD hS hc1 hc2 hc3 => ?_) (fun r u H locs hw hP hD hS => ?_)
  · skip
    obtain ⟨h9, hw⟩ := hw
    rcases hw with ⟨hE, hq⟩ | ⟨hE, hq⟩
    · skip
      subst hE
      refine vx_catch (own := RL) (name := IAX) hown [] ⟨0, 8, 11, 13⟩ [⟨0, 8, 14, 29⟩] (htab.trans rfl) (fun z hz => absurd hz List.not_mem_nil) rfl (by decide) (hts _ q464) (va_Nw.use rfl (hZ.2.2.1 _ (List.mem_of_getElem? (i := 1) rfl))) hc1 hc2 hc3 ?_
      refine lv_astore_n (lv' := [(2, .ref q9), (0, .ref (x 0)), (1, .ref ol)]) hx hb dL_run_11 rfl hl (by decide) rfl (fun ls hl => ?_)
      refine lv_iconst (v := nI 1) hx hb dL_run_12 (by decide) ?_
      exact hret _ _ (nI 1) (.inr ux) _ _ _ _ hP hD hS ⟨h9, Or.inl ⟨rfl, hq⟩⟩ dL_run_13 (by omega) (by omega)
    · skip
      subst hE
      refine vx_catch (own := RL) (name := UOX) hown [⟨0, 8, 11, 13⟩] ⟨0, 8, 14, 29⟩ [] (htab.trans rfl) (fun z hz => by
          rcases List.mem_cons.mp hz with rfl | hz
          · exact Or.inr ⟨by decide, IAX, hts _ q464, hZ.2.2.2.1 _ (List.mem_of_getElem? (i := 3) rfl)⟩
          · exact absurd hz List.not_mem_nil) rfl (by decide) (hts _ q670) (va_Nw.use rfl (hZ.2.2.1 _ (List.mem_of_getElem? (i := 3) rfl))) hc1 hc2 hc3 ?_
      refine lv_astore_n (lv' := [(2, .ref q9), (0, .ref (x 0)), (1, .ref ol)]) hx hb dL_run_14 rfl hl (by decide) rfl (fun ls hl => ?_)
      refine lv_iconst (v := nI 2) hx hb dL_run_15 (by decide) ?_
      exact hret _ _ (nI 2) (.inr ux) _ _ _ _ hP hD hS ⟨h9, Or.inr ⟨rfl, hq⟩⟩ dL_run_16 (by omega) (by omega)
  refine lv_i2l hx hb dL_run_6 rfl ?_
  refine va_last hx hb hK hP hD hS 0 4 rfl rfl (vp_in_nI (show 0 < 1 by decide) (by decide)) dL_run_7 (fun H locs hP hD hS => ?_)
  rw [nI_clamp (show 0 < 2 ^ 31 by decide)] at hP hD
  have hP : va_P E.1 vwCl ([loC E ol (vp_updL lo 0 r.toInt64), coC E x a a2 a3 b d k pa y w, stC E a (exG g (prgR (F 0) (q 0) 20 0 0 t).2.2.2 (prgR (F 0) (q 0) 20 0 0 t).1), stC E a3 u.2.1, hhC E b hs (upa hg nx g) ((nx + 1) % 8) (if 8 < ct + 1 then 8 else ct + 1), prC E pa u.2.2.1 u.2.2.2.1, diC E d u.2.2.2.2.1 u.2.2.2.2.2] : List va_W).flatten H := hP
  have hD : va_D A ([loC E ol (vp_updL lo 0 r.toInt64), coC E x a a2 a3 b d k pa y w, stC E a (exG g (prgR (F 0) (q 0) 20 0 0 t).2.2.2 (prgR (F 0) (q 0) 20 0 0 t).1), stC E a3 u.2.1, hhC E b hs (upa hg nx g) ((nx + 1) % 8) (if 8 < ct + 1 then 8 else ct + 1), prC E pa u.2.2.1 u.2.2.2.1, diC E d u.2.2.2.2.1 u.2.2.2.2.2] : List va_W).flatten := hD
  refine lv_goto (tgt := 17) hx hb dL_run_8 (by decide) ?_
  refine lv_iconst (v := nI 0) hx hb dL_run_17 (by decide) ?_
  exact hret _ _ (nI 0) (.inl (u, r, (vp_updL lo 0 r.toInt64))) _ _ _ _ hP hD hS ⟨rfl, hw, rfl⟩ dL_run_18 (by omega) (by omega)
abbrev rm_L_errorPosition : Room := { frames := 7, cells := 1, slots := 6, locals := 120 }
set_option maxHeartbeats 4000000 in
set_option maxRecDepth 100000 in
theorem c_L_errorPosition (l : Launch) (hst : l.stackTraces = false) (E : EE) (sz : Nat) (x a a2 a3 b d k pa y w : Nat → Nat) (hw : w 1 ≤ 1000) (ol : Nat) (lo : Nat → Int64) : MW l yL_errorPosition cL_errorPosition 3 [(0, 8, 11, 64)] rm_L_errorPosition [.ref (x 0), .ref ol] E sz [loC E ol lo, coC E x a a2 a3 b d k pa y w] (fun (r : Int32) (u : (Unit × Int32 × (Nat → Int64)) ⊕ Unit) => Sum.elim (fun (vq : Unit × Int32 × (Nat → Int64)) => r = nI 0 ∧ (w 1 ≠ 0 ∧ vq.2.1 = nI (w 1) - 1) ∧ vq.2.2 0 = vq.2.1.toInt64) (fun (vq : Unit) => r = nI 1 ∧ w 1 = 0) u) (fun u => Sum.elim (fun (vq : Unit × Int32 × (Nat → Int64)) => [loC E ol vq.2.2, coC E x a a2 a3 b d k pa y w]) (fun (vq : Unit) => [loC E ol lo, coC E x a a2 a3 b d k pa y w]) u) 1 6 := by
  refine mw_go (by decide) (Nat.le_of_ble_eq_true rfl) ?_
  intro p e s m below meth c A Q ls hx hb hml hown hts hK hZ hDD hA hsz hP hD hl htab hret
  have hS : va_S A s.heap s.heap [] := va_S.rf
  have hl : lv_has ls 3 [(0, .ref (x 0)), (1, .ref ol)] := hl
  refine lv_aload_n hx hb dL_errorPosition_0 rfl (lv_at hl 1 rfl) ?_
  refine lv_iconst (v := nI 0) hx hb dL_errorPosition_1 (by decide) ?_
  refine lv_aload_n hx hb dL_errorPosition_2 rfl (lv_at hl 0 rfl) ?_
  refine run_xi (S := Unit) (SX := Unit) (run_XV (As := []) (rest := [.int (nI 0), .ref ol]) (bs := [loC E ol lo, coC E x a a2 a3 b d k pa y w]) (cb := [coC E x a a2 a3 b d k pa y w]) hx hb hml hown hts hK hZ hDD hA (c_X5_errorPosition l hst E _ x a a2 a3 b d k pa y w hw) l_L_123 rfl ⟨⟨rfl, rfl⟩, Nat.le_of_ble_eq_true rfl, Nat.le_of_ble_eq_true rfl⟩ 9 rfl [1] rfl (by decide) rfl hP hD hS hl.1 rfl (Nat.le_of_ble_eq_true rfl) dL_errorPosition_3 ⟨Nat.le_of_ble_eq_true rfl, Nat.le_of_ble_eq_true rfl⟩) hA hP hD hS (isC := [1]) rfl [0] [0, 1] (br := [loC E ol lo]) (bs2 := fun _ => [loC E ol lo, coC E x a a2 a3 b d k pa y w]) (bx2 := fun _ => [loC E ol lo, coC E x a a2 a3 b d k pa y w]) rfl (by decide) (fun _ => rfl) (fun _ => rfl) (by decide) (fun Ex ce q9 ux H locs hw hP hD hS hc1 hc2 hc3 => ?_) (fun r u H locs hw hP hD hS => ?_)
  · skip
    obtain ⟨hE, hq⟩ := hw
    subst hE
    refine vx_catch (own := RL) (name := NSE) hown [] ⟨0, 8, 11, 64⟩ [] (htab.trans rfl) (fun z hz => absurd hz List.not_mem_nil) rfl (by decide) (hts _ q806) (va_Nw.use rfl (hZ.2.2.1 _ (List.mem_of_getElem? (i := 5) rfl))) hc1 hc2 hc3 ?_
    refine lv_astore_n (lv' := [(2, .ref q9), (0, .ref (x 0)), (1, .ref ol)]) hx hb dL_errorPosition_11 rfl hl (by decide) rfl (fun ls hl => ?_)
    refine lv_iconst (v := nI 1) hx hb dL_errorPosition_12 (by decide) ?_
    exact hret _ _ (nI 1) (.inr ()) _ _ _ _ hP hD hS ⟨rfl, hq⟩ dL_errorPosition_13 (by omega) (by omega)
  refine lv_i2l hx hb dL_errorPosition_6 rfl ?_
  refine va_last hx hb hK hP hD hS 0 4 rfl rfl (vp_in_nI (show 0 < 1 by decide) (by decide)) dL_errorPosition_7 (fun H locs hP hD hS => ?_)
  rw [nI_clamp (show 0 < 2 ^ 31 by decide)] at hP hD
  have hP : va_P E.1 vwCl ([loC E ol (vp_updL lo 0 r.toInt64), coC E x a a2 a3 b d k pa y w] : List va_W).flatten H := hP
  have hD : va_D A ([loC E ol (vp_updL lo 0 r.toInt64), coC E x a a2 a3 b d k pa y w] : List va_W).flatten := hD
  refine lv_goto (tgt := 14) hx hb dL_errorPosition_8 (by decide) ?_
  refine lv_iconst (v := nI 0) hx hb dL_errorPosition_14 (by decide) ?_
  exact hret _ _ (nI 0) (.inl ((), r, (vp_updL lo 0 r.toInt64))) _ _ _ _ hP hD hS ⟨rfl, hw, rfl⟩ dL_errorPosition_15 (by omega) (by omega)
abbrev rm_L_failedCommand : Room := { frames := 7, cells := 1, slots := 6, locals := 120 }
set_option maxHeartbeats 4000000 in
set_option maxRecDepth 100000 in
theorem c_L_failedCommand (l : Launch) (hst : l.stackTraces = false) (E : EE) (sz : Nat) (x a a2 a3 b d k pa y w : Nat → Nat) (hw : w 2 ≤ 1000) (ol : Nat) (lo : Nat → Int64) : MW l yL_failedCommand cL_failedCommand 3 [(0, 8, 11, 64)] rm_L_failedCommand [.ref (x 0), .ref ol] E sz [loC E ol lo, coC E x a a2 a3 b d k pa y w] (fun (r : Int32) (u : (Unit × Int32 × (Nat → Int64)) ⊕ Unit) => Sum.elim (fun (vq : Unit × Int32 × (Nat → Int64)) => r = nI 0 ∧ (w 2 ≠ 0 ∧ vq.2.1 = nI (w 2) - 1) ∧ vq.2.2 0 = vq.2.1.toInt64) (fun (vq : Unit) => r = nI 1 ∧ w 2 = 0) u) (fun u => Sum.elim (fun (vq : Unit × Int32 × (Nat → Int64)) => [loC E ol vq.2.2, coC E x a a2 a3 b d k pa y w]) (fun (vq : Unit) => [loC E ol lo, coC E x a a2 a3 b d k pa y w]) u) 1 6 := by
  refine mw_go (by decide) (Nat.le_of_ble_eq_true rfl) ?_
  intro p e s m below meth c A Q ls hx hb hml hown hts hK hZ hDD hA hsz hP hD hl htab hret
  have hS : va_S A s.heap s.heap [] := va_S.rf
  have hl : lv_has ls 3 [(0, .ref (x 0)), (1, .ref ol)] := hl
  refine lv_aload_n hx hb dL_failedCommand_0 rfl (lv_at hl 1 rfl) ?_
  refine lv_iconst (v := nI 0) hx hb dL_failedCommand_1 (by decide) ?_
  refine lv_aload_n hx hb dL_failedCommand_2 rfl (lv_at hl 0 rfl) ?_
  refine run_xi (S := Unit) (SX := Unit) (run_XV (As := []) (rest := [.int (nI 0), .ref ol]) (bs := [loC E ol lo, coC E x a a2 a3 b d k pa y w]) (cb := [coC E x a a2 a3 b d k pa y w]) hx hb hml hown hts hK hZ hDD hA (c_X5_failedCommand l hst E _ x a a2 a3 b d k pa y w hw) l_L_126 rfl ⟨⟨rfl, rfl⟩, Nat.le_of_ble_eq_true rfl, Nat.le_of_ble_eq_true rfl⟩ 9 rfl [1] rfl (by decide) rfl hP hD hS hl.1 rfl (Nat.le_of_ble_eq_true rfl) dL_failedCommand_3 ⟨Nat.le_of_ble_eq_true rfl, Nat.le_of_ble_eq_true rfl⟩) hA hP hD hS (isC := [1]) rfl [0] [0, 1] (br := [loC E ol lo]) (bs2 := fun _ => [loC E ol lo, coC E x a a2 a3 b d k pa y w]) (bx2 := fun _ => [loC E ol lo, coC E x a a2 a3 b d k pa y w]) rfl (by decide) (fun _ => rfl) (fun _ => rfl) (by decide) (fun Ex ce q9 ux H locs hw hP hD hS hc1 hc2 hc3 => ?_) (fun r u H locs hw hP hD hS => ?_)
  · skip
    obtain ⟨hE, hq⟩ := hw
    subst hE
    refine vx_catch (own := RL) (name := NSE) hown [] ⟨0, 8, 11, 64⟩ [] (htab.trans rfl) (fun z hz => absurd hz List.not_mem_nil) rfl (by decide) (hts _ q806) (va_Nw.use rfl (hZ.2.2.1 _ (List.mem_of_getElem? (i := 5) rfl))) hc1 hc2 hc3 ?_
    refine lv_astore_n (lv' := [(2, .ref q9), (0, .ref (x 0)), (1, .ref ol)]) hx hb dL_failedCommand_11 rfl hl (by decide) rfl (fun ls hl => ?_)
    refine lv_iconst (v := nI 1) hx hb dL_failedCommand_12 (by decide) ?_
    exact hret _ _ (nI 1) (.inr ()) _ _ _ _ hP hD hS ⟨rfl, hq⟩ dL_failedCommand_13 (by omega) (by omega)
  refine lv_i2l hx hb dL_failedCommand_6 rfl ?_
  refine va_last hx hb hK hP hD hS 0 4 rfl rfl (vp_in_nI (show 0 < 1 by decide) (by decide)) dL_failedCommand_7 (fun H locs hP hD hS => ?_)
  rw [nI_clamp (show 0 < 2 ^ 31 by decide)] at hP hD
  have hP : va_P E.1 vwCl ([loC E ol (vp_updL lo 0 r.toInt64), coC E x a a2 a3 b d k pa y w] : List va_W).flatten H := hP
  have hD : va_D A ([loC E ol (vp_updL lo 0 r.toInt64), coC E x a a2 a3 b d k pa y w] : List va_W).flatten := hD
  refine lv_goto (tgt := 14) hx hb dL_failedCommand_8 (by decide) ?_
  refine lv_iconst (v := nI 0) hx hb dL_failedCommand_14 (by decide) ?_
  exact hret _ _ (nI 0) (.inl ((), r, (vp_updL lo 0 r.toInt64))) _ _ _ _ hP hD hS ⟨rfl, hw, rfl⟩ dL_failedCommand_15 (by omega) (by omega)
abbrev rm_L_writeMember : Room := { frames := 8, cells := 13, slots := 414, locals := 229 }
set_option maxHeartbeats 4000000 in
set_option maxRecDepth 100000 in
theorem c_L_writeMember (l : Launch) (hst : l.stackTraces = false) (E : EE) (sz : Nat) (x a a2 a3 b d k pa y w : Nat → Nat) (g : GG) (B : Nat) (hI : IB B g) (v ml n cp : Nat) (t : Nat → Nat) (ht : ∀ j, t j < 128) (hm : cp = 16 ∨ cp = 34) (hn9 : n ≤ 34) (p0 : Int32) (ol : Nat) (lo : Nat → Int64) : MW l yL_writeMember cL_writeMember 4 [(0, 9, 12, 21)] rm_L_writeMember [.ref (x 0), .int p0, .ref ol] E sz [loC E ol lo, coC E x a a2 a3 b d k pa y w, stC E a g, sbO E y v ml n, baC E v cp t] (fun (r : Int32) (u : ((Nat × Nat × Nat × (Nat → Nat)) × Int32 × (Nat → Int64)) ⊕ Unit) => Sum.elim (fun (vq : (Nat × Nat × Nat × (Nat → Nat)) × Int32 × (Nat → Int64)) => r = nI 0 ∧ (hasM g p0 = true ∧ vq.2.1 = nI (memL g (tn p0)).length ∧ TX vq.1.2.2.2 (memL g (tn p0)) ∧ (memL g (tn p0)).length ≤ vq.1.2.2.1 ∧ (vq.1.2.2.1 = 16 ∨ vq.1.2.2.1 = 34) ∧ ∀ j, vq.1.2.2.2 j < 128) ∧ vq.2.2 0 = vq.2.1.toInt64) (fun (vq : Unit) => r = nI 1 ∧ hasM g p0 = false) u) (fun u => Sum.elim (fun (vq : (Nat × Nat × Nat × (Nat → Nat)) × Int32 × (Nat → Int64)) => [loC E ol vq.2.2, coC E x a a2 a3 b d k pa y w, stC E a g, sbO E y vq.1.1 vq.1.2.1 (memL g (tn p0)).length, baC E vq.1.1 vq.1.2.2.1 vq.1.2.2.2]) (fun (vq : Unit) => [loC E ol lo, coC E x a a2 a3 b d k pa y w, stC E a g, sbO E y v ml n, baC E v cp t]) u) 13 414 := by
  refine mw_go (by decide) (Nat.le_of_ble_eq_true rfl) ?_
  intro p e s m below meth c A Q ls hx hb hml hown hts hK hZ hDD hA hsz hP hD hl htab hret
  have hS : va_S A s.heap s.heap [] := va_S.rf
  have hl : lv_has ls 4 [(0, .ref (x 0)), (1, .int p0), (2, .ref ol)] := hl
  refine lv_aload_n hx hb dL_writeMember_0 rfl (lv_at hl 2 rfl) ?_
  refine lv_iconst (v := nI 0) hx hb dL_writeMember_1 (by decide) ?_
  refine lv_aload_n hx hb dL_writeMember_2 rfl (lv_at hl 0 rfl) ?_
  refine lv_iload_n hx hb dL_writeMember_3 rfl (lv_at hl 1 rfl) ?_
  refine run_xi (S := Nat × Nat × Nat × (Nat → Nat)) (SX := Unit) (run_XV (As := [.int p0]) (rest := [.int (nI 0), .ref ol]) (bs := [loC E ol lo, coC E x a a2 a3 b d k pa y w, stC E a g, sbO E y v ml n, baC E v cp t]) (cb := [coC E x a a2 a3 b d k pa y w, stC E a g, sbO E y v ml n, baC E v cp t]) hx hb hml hown hts hK hZ hDD hA (c_X5_writeMember l hst E _ x a a2 a3 b d k pa y w g B hI v ml n cp t ht hm hn9 p0) l_L_129 rfl ⟨⟨rfl, rfl⟩, Nat.le_of_ble_eq_true rfl, Nat.le_of_ble_eq_true rfl⟩ 9 rfl [1, 2, 3, 4] rfl (by decide) rfl hP hD hS hl.1 rfl (Nat.le_of_ble_eq_true rfl) dL_writeMember_4 ⟨Nat.le_of_ble_eq_true rfl, Nat.le_of_ble_eq_true rfl⟩) hA hP hD hS (isC := [1, 2, 3, 4]) rfl [0] [0, 1, 2, 3, 4] (br := [loC E ol lo]) (bs2 := fun u => [loC E ol lo, coC E x a a2 a3 b d k pa y w, stC E a g, sbO E y u.1 u.2.1 (memL g (tn p0)).length, baC E u.1 u.2.2.1 u.2.2.2]) (bx2 := fun _ => [loC E ol lo, coC E x a a2 a3 b d k pa y w, stC E a g, sbO E y v ml n, baC E v cp t]) rfl (by decide) (fun _ => rfl) (fun _ => rfl) (by decide) (fun Ex ce q9 ux H locs hw hP hD hS hc1 hc2 hc3 => ?_) (fun r u H locs hw hP hD hS => ?_)
  · skip
    obtain ⟨hE, hq⟩ := hw
    subst hE
    refine vx_catch (own := RL) (name := IOX) hown [] ⟨0, 9, 12, 21⟩ [] (htab.trans rfl) (fun z hz => absurd hz List.not_mem_nil) rfl (by decide) (hts _ q615) (va_Nw.use rfl (hZ.2.2.1 _ (List.mem_of_getElem? (i := 0) rfl))) hc1 hc2 hc3 ?_
    refine lv_astore_n (lv' := [(3, .ref q9), (0, .ref (x 0)), (1, .int p0), (2, .ref ol)]) hx hb dL_writeMember_12 rfl hl (by decide) rfl (fun ls hl => ?_)
    refine lv_iconst (v := nI 1) hx hb dL_writeMember_13 (by decide) ?_
    exact hret _ _ (nI 1) (.inr ()) _ _ _ _ hP hD hS ⟨rfl, hq⟩ dL_writeMember_14 (by omega) (by omega)
  refine lv_i2l hx hb dL_writeMember_7 rfl ?_
  refine va_last hx hb hK hP hD hS 0 4 rfl rfl (vp_in_nI (show 0 < 1 by decide) (by decide)) dL_writeMember_8 (fun H locs hP hD hS => ?_)
  rw [nI_clamp (show 0 < 2 ^ 31 by decide)] at hP hD
  have hP : va_P E.1 vwCl ([loC E ol (vp_updL lo 0 r.toInt64), coC E x a a2 a3 b d k pa y w, stC E a g, sbO E y u.1 u.2.1 (memL g (tn p0)).length, baC E u.1 u.2.2.1 u.2.2.2] : List va_W).flatten H := hP
  have hD : va_D A ([loC E ol (vp_updL lo 0 r.toInt64), coC E x a a2 a3 b d k pa y w, stC E a g, sbO E y u.1 u.2.1 (memL g (tn p0)).length, baC E u.1 u.2.2.1 u.2.2.2] : List va_W).flatten := hD
  refine lv_goto (tgt := 15) hx hb dL_writeMember_9 (by decide) ?_
  refine lv_iconst (v := nI 0) hx hb dL_writeMember_15 (by decide) ?_
  exact hret _ _ (nI 0) (.inl (u, r, (vp_updL lo 0 r.toInt64))) _ _ _ _ hP hD hS ⟨rfl, hw, rfl⟩ dL_writeMember_16 (by omega) (by omega)
abbrev rm_L_outputAt : Room := { frames := 7, cells := 1, slots := 6, locals := 121 }
set_option maxHeartbeats 4000000 in
set_option maxRecDepth 100000 in
theorem c_L_outputAt (l : Launch) (hst : l.stackTraces = false) (E : EE) (sz : Nat) (x a a2 a3 b d k pa y w : Nat → Nat) (v ml n cp : Nat) (t : Nat → Nat) (ht : ∀ j, t j < 128) (hn : n ≤ cp) (h34 : cp ≤ 34) (p0 : Int32) (ol : Nat) (lo : Nat → Int64) : MW l yL_outputAt cL_outputAt 4 [(0, 9, 12, 21)] rm_L_outputAt [.ref (x 0), .int p0, .ref ol] E sz [loC E ol lo, coC E x a a2 a3 b d k pa y w, sbO E y v ml n, baC E v cp t] (fun (r : Int32) (u : (Unit × Int32 × (Nat → Int64)) ⊕ Unit) => Sum.elim (fun (vq : Unit × Int32 × (Nat → Int64)) => r = nI 0 ∧ ((0 ≤ p0.toInt ∧ p0.toInt < (n : Int)) ∧ vq.2.1 = nI (t (tn p0))) ∧ vq.2.2 0 = vq.2.1.toInt64) (fun (vq : Unit) => r = nI 1 ∧ ¬ (0 ≤ p0.toInt ∧ p0.toInt < (n : Int))) u) (fun u => Sum.elim (fun (vq : Unit × Int32 × (Nat → Int64)) => [loC E ol vq.2.2, coC E x a a2 a3 b d k pa y w, sbO E y v ml n, baC E v cp t]) (fun (vq : Unit) => [loC E ol lo, coC E x a a2 a3 b d k pa y w, sbO E y v ml n, baC E v cp t]) u) 1 6 := by
  refine mw_go (by decide) (Nat.le_of_ble_eq_true rfl) ?_
  intro p e s m below meth c A Q ls hx hb hml hown hts hK hZ hDD hA hsz hP hD hl htab hret
  have hS : va_S A s.heap s.heap [] := va_S.rf
  have hl : lv_has ls 4 [(0, .ref (x 0)), (1, .int p0), (2, .ref ol)] := hl
  refine lv_aload_n hx hb dL_outputAt_0 rfl (lv_at hl 2 rfl) ?_
  refine lv_iconst (v := nI 0) hx hb dL_outputAt_1 (by decide) ?_
  refine lv_aload_n hx hb dL_outputAt_2 rfl (lv_at hl 0 rfl) ?_
  refine lv_iload_n hx hb dL_outputAt_3 rfl (lv_at hl 1 rfl) ?_
  refine run_xi (S := Unit) (SX := Unit) (run_XV (As := [.int p0]) (rest := [.int (nI 0), .ref ol]) (bs := [loC E ol lo, coC E x a a2 a3 b d k pa y w, sbO E y v ml n, baC E v cp t]) (cb := [coC E x a a2 a3 b d k pa y w, sbO E y v ml n, baC E v cp t]) hx hb hml hown hts hK hZ hDD hA (c_X5_outputAt l hst E _ x a a2 a3 b d k pa y w v ml n cp t ht hn h34 p0) l_L_132 rfl ⟨⟨rfl, rfl⟩, Nat.le_of_ble_eq_true rfl, Nat.le_of_ble_eq_true rfl⟩ 9 rfl [1, 2, 3] rfl (by decide) rfl hP hD hS hl.1 rfl (Nat.le_of_ble_eq_true rfl) dL_outputAt_4 ⟨Nat.le_of_ble_eq_true rfl, Nat.le_of_ble_eq_true rfl⟩) hA hP hD hS (isC := [1, 2, 3]) rfl [0] [0, 1, 2, 3] (br := [loC E ol lo]) (bs2 := fun _ => [loC E ol lo, coC E x a a2 a3 b d k pa y w, sbO E y v ml n, baC E v cp t]) (bx2 := fun _ => [loC E ol lo, coC E x a a2 a3 b d k pa y w, sbO E y v ml n, baC E v cp t]) rfl (by decide) (fun _ => rfl) (fun _ => rfl) (by decide) (fun Ex ce q9 ux H locs hw hP hD hS hc1 hc2 hc3 => ?_) (fun r u H locs hw hP hD hS => ?_)
  · skip
    obtain ⟨hE, hq⟩ := hw
    subst hE
    refine vx_catch (own := RL) (name := IOX) hown [] ⟨0, 9, 12, 21⟩ [] (htab.trans rfl) (fun z hz => absurd hz List.not_mem_nil) rfl (by decide) (hts _ q615) (va_Nw.use rfl (hZ.2.2.1 _ (List.mem_of_getElem? (i := 0) rfl))) hc1 hc2 hc3 ?_
    refine lv_astore_n (lv' := [(3, .ref q9), (0, .ref (x 0)), (1, .int p0), (2, .ref ol)]) hx hb dL_outputAt_12 rfl hl (by decide) rfl (fun ls hl => ?_)
    refine lv_iconst (v := nI 1) hx hb dL_outputAt_13 (by decide) ?_
    exact hret _ _ (nI 1) (.inr ()) _ _ _ _ hP hD hS ⟨rfl, hq⟩ dL_outputAt_14 (by omega) (by omega)
  refine lv_i2l hx hb dL_outputAt_7 rfl ?_
  refine va_last hx hb hK hP hD hS 0 4 rfl rfl (vp_in_nI (show 0 < 1 by decide) (by decide)) dL_outputAt_8 (fun H locs hP hD hS => ?_)
  rw [nI_clamp (show 0 < 2 ^ 31 by decide)] at hP hD
  have hP : va_P E.1 vwCl ([loC E ol (vp_updL lo 0 r.toInt64), coC E x a a2 a3 b d k pa y w, sbO E y v ml n, baC E v cp t] : List va_W).flatten H := hP
  have hD : va_D A ([loC E ol (vp_updL lo 0 r.toInt64), coC E x a a2 a3 b d k pa y w, sbO E y v ml n, baC E v cp t] : List va_W).flatten := hD
  refine lv_goto (tgt := 15) hx hb dL_outputAt_9 (by decide) ?_
  refine lv_iconst (v := nI 0) hx hb dL_outputAt_15 (by decide) ?_
  exact hret _ _ (nI 0) (.inl ((), r, (vp_updL lo 0 r.toInt64))) _ _ _ _ hP hD hS ⟨rfl, hw, rfl⟩ dL_outputAt_16 (by omega) (by omega)
abbrev rm_L_undo : Room := { frames := 7, cells := 1, slots := 6, locals := 182 }
set_option maxHeartbeats 4000000 in
set_option maxRecDepth 100000 in
theorem c_L_undo (l : Launch) (hst : l.stackTraces = false) (E : EE) (sz : Nat) (x a a2 a3 b d k pa y w : Nat → Nat) (g : GG) (B : Nat) (hI : IB B g) (hs : Nat → Nat → Nat) (hg : Nat → GG) (nx ct : Nat) (hnx : nx < 8) (hct : ct ≤ 8)  (ol : Nat) (lo : Nat → Int64) : MW l yL_undo cL_undo 3 [(0, 8, 11, 15)] rm_L_undo [.ref (x 0), .ref ol] E sz [loC E ol lo, coC E x a a2 a3 b d k pa y w, hhC E b hs hg nx ct, stC E a g] (fun (r : Int32) (u : (Unit × Int32 × (Nat → Int64)) ⊕ Unit) => Sum.elim (fun (vq : Unit × Int32 × (Nat → Int64)) => r = nI 0 ∧ (ct ≠ 0 ∧ vq.2.1 = nI (ct - 1)) ∧ vq.2.2 0 = vq.2.1.toInt64) (fun (vq : Unit) => r = nI 1 ∧ ct = 0) u) (fun u => Sum.elim (fun (vq : Unit × Int32 × (Nat → Int64)) => [loC E ol vq.2.2, coC E x a a2 a3 b d k pa y w, hhC E b hs hg ((nx + 8 - 1) % 8) (ct - 1), stC E a (hg ((nx + 8 - 1) % 8))]) (fun (vq : Unit) => [loC E ol lo, coC E x a a2 a3 b d k pa y w, hhC E b hs hg nx ct, stC E a g]) u) 1 6 := by
  refine mw_go (by decide) (Nat.le_of_ble_eq_true rfl) ?_
  intro p e s m below meth c A Q ls hx hb hml hown hts hK hZ hDD hA hsz hP hD hl htab hret
  have hS : va_S A s.heap s.heap [] := va_S.rf
  have hl : lv_has ls 3 [(0, .ref (x 0)), (1, .ref ol)] := hl
  refine lv_aload_n hx hb dL_undo_0 rfl (lv_at hl 1 rfl) ?_
  refine lv_iconst (v := nI 0) hx hb dL_undo_1 (by decide) ?_
  refine lv_aload_n hx hb dL_undo_2 rfl (lv_at hl 0 rfl) ?_
  refine run_xi (S := Unit) (SX := Unit) (run_XV (As := []) (rest := [.int (nI 0), .ref ol]) (bs := [loC E ol lo, coC E x a a2 a3 b d k pa y w, hhC E b hs hg nx ct, stC E a g]) (cb := [coC E x a a2 a3 b d k pa y w, hhC E b hs hg nx ct, stC E a g]) hx hb hml hown hts hK hZ hDD hA (c_X5_undo l hst E _ x a a2 a3 b d k pa y w g B hI hs hg nx ct hnx hct) l_L_136 rfl ⟨⟨rfl, rfl⟩, Nat.le_of_ble_eq_true rfl, Nat.le_of_ble_eq_true rfl⟩ 9 rfl [1, 2, 3] rfl (by decide) rfl hP hD hS hl.1 rfl (Nat.le_of_ble_eq_true rfl) dL_undo_3 ⟨Nat.le_of_ble_eq_true rfl, Nat.le_of_ble_eq_true rfl⟩) hA hP hD hS (isC := [1, 2, 3]) rfl [0] [0, 1, 2, 3] (br := [loC E ol lo]) (bs2 := fun _ => [loC E ol lo, coC E x a a2 a3 b d k pa y w, hhC E b hs hg ((nx + 8 - 1) % 8) (ct - 1), stC E a (hg ((nx + 8 - 1) % 8))]) (bx2 := fun _ => [loC E ol lo, coC E x a a2 a3 b d k pa y w, hhC E b hs hg nx ct, stC E a g]) rfl (by decide) (fun _ => rfl) (fun _ => rfl) (by decide) (fun Ex ce q9 ux H locs hw hP hD hS hc1 hc2 hc3 => ?_) (fun r u H locs hw hP hD hS => ?_)
  · skip
    obtain ⟨hE, hq⟩ := hw
    subst hE
    refine vx_catch (own := RL) (name := ISX) hown [] ⟨0, 8, 11, 15⟩ [] (htab.trans rfl) (fun z hz => absurd hz List.not_mem_nil) rfl (by decide) (hts _ q465) (va_Nw.use rfl (hZ.2.2.1 _ (List.mem_of_getElem? (i := 2) rfl))) hc1 hc2 hc3 ?_
    refine lv_astore_n (lv' := [(2, .ref q9), (0, .ref (x 0)), (1, .ref ol)]) hx hb dL_undo_11 rfl hl (by decide) rfl (fun ls hl => ?_)
    refine lv_iconst (v := nI 1) hx hb dL_undo_12 (by decide) ?_
    exact hret _ _ (nI 1) (.inr ()) _ _ _ _ hP hD hS ⟨rfl, hq⟩ dL_undo_13 (by omega) (by omega)
  refine lv_i2l hx hb dL_undo_6 rfl ?_
  refine va_last hx hb hK hP hD hS 0 4 rfl rfl (vp_in_nI (show 0 < 1 by decide) (by decide)) dL_undo_7 (fun H locs hP hD hS => ?_)
  rw [nI_clamp (show 0 < 2 ^ 31 by decide)] at hP hD
  have hP : va_P E.1 vwCl ([loC E ol (vp_updL lo 0 r.toInt64), coC E x a a2 a3 b d k pa y w, hhC E b hs hg ((nx + 8 - 1) % 8) (ct - 1), stC E a (hg ((nx + 8 - 1) % 8))] : List va_W).flatten H := hP
  have hD : va_D A ([loC E ol (vp_updL lo 0 r.toInt64), coC E x a a2 a3 b d k pa y w, hhC E b hs hg ((nx + 8 - 1) % 8) (ct - 1), stC E a (hg ((nx + 8 - 1) % 8))] : List va_W).flatten := hD
  refine lv_goto (tgt := 14) hx hb dL_undo_8 (by decide) ?_
  refine lv_iconst (v := nI 0) hx hb dL_undo_14 (by decide) ?_
  exact hret _ _ (nI 0) (.inl ((), r, (vp_updL lo 0 r.toInt64))) _ _ _ _ hP hD hS ⟨rfl, hw, rfl⟩ dL_undo_15 (by omega) (by omega)
abbrev rm_L_restore : Room := { frames := 7, cells := 1, slots := 6, locals := 161 }
set_option maxHeartbeats 4000000 in
set_option maxRecDepth 100000 in
theorem c_L_restore (l : Launch) (hst : l.stackTraces = false) (E : EE) (sz : Nat) (x a a2 a3 b d k pa y w : Nat → Nat) (hs : Nat → Nat → Nat) (hg : Nat → GG) (nx ct : Nat) (hnx : nx < 8) (hct : ct ≤ 8) (g g2 : GG) (hw : w 0 ≤ 1) : MW l yL_restore cL_restore 2 [(0, 4, 7, 15)] rm_L_restore [.ref (x 0)] E sz [coC E x a a2 a3 b d k pa y w, hhC E b hs hg nx ct, stC E a g, stC E a2 g2] (fun (r : Int32) (u : (Unit) ⊕ Unit) => Sum.elim (fun (vq : Unit) => r = nI 0 ∧ w 0 ≠ 0) (fun (vq : Unit) => r = nI 1 ∧ w 0 = 0) u) (fun u => Sum.elim (fun (vq : Unit) => [coC E x a a2 a3 b d k pa y w, hhC E b hs hg nx 0, stC E a g2, stC E a2 g2]) (fun (vq : Unit) => [coC E x a a2 a3 b d k pa y w, hhC E b hs hg nx ct, stC E a g, stC E a2 g2]) u) 1 6 := by
  refine mw_go (by decide) (Nat.le_of_ble_eq_true rfl) ?_
  intro p e s m below meth c A Q ls hx hb hml hown hts hK hZ hDD hA hsz hP hD hl htab hret
  have hS : va_S A s.heap s.heap [] := va_S.rf
  have hl : lv_has ls 2 [(0, .ref (x 0))] := hl
  refine lv_aload_n hx hb dL_restore_0 rfl (lv_at hl 0 rfl) ?_
  refine run_xv (S := Unit) (SX := Unit) (run_XV (As := []) (rest := []) (bs := [coC E x a a2 a3 b d k pa y w, hhC E b hs hg nx ct, stC E a g, stC E a2 g2]) (cb := [coC E x a a2 a3 b d k pa y w, hhC E b hs hg nx ct, stC E a g, stC E a2 g2]) hx hb hml hown hts hK hZ hDD hA (c_X5_restore l hst E _ x a a2 a3 b d k pa y w hs hg nx ct hnx hct g g2 hw) l_L_139 rfl ⟨⟨rfl, rfl⟩, Nat.le_of_ble_eq_true rfl, Nat.le_of_ble_eq_true rfl⟩ 9 rfl [0, 1, 2, 3] rfl (by decide) rfl hP hD hS hl.1 rfl (Nat.le_of_ble_eq_true rfl) dL_restore_1 ⟨Nat.le_of_ble_eq_true rfl, Nat.le_of_ble_eq_true rfl⟩) hA hP hD hS (isC := [0, 1, 2, 3]) rfl [] [0, 1, 2, 3] (br := []) (bs2 := fun _ => [coC E x a a2 a3 b d k pa y w, hhC E b hs hg nx 0, stC E a g2, stC E a2 g2]) (bx2 := fun _ => [coC E x a a2 a3 b d k pa y w, hhC E b hs hg nx ct, stC E a g, stC E a2 g2]) rfl (by decide) (fun _ => rfl) (fun _ => rfl) (by decide) (fun Ex ce q9 ux H locs hw hP hD hS hc1 hc2 hc3 => ?_) (fun u H locs hw hP hD hS => ?_)
  · skip
    obtain ⟨hE, hq⟩ := hw
    subst hE
    refine vx_catch (own := RL) (name := ISX) hown [] ⟨0, 4, 7, 15⟩ [] (htab.trans rfl) (fun z hz => absurd hz List.not_mem_nil) rfl (by decide) (hts _ q465) (va_Nw.use rfl (hZ.2.2.1 _ (List.mem_of_getElem? (i := 2) rfl))) hc1 hc2 hc3 ?_
    refine lv_astore_n (lv' := [(1, .ref q9), (0, .ref (x 0))]) hx hb dL_restore_7 rfl hl (by decide) rfl (fun ls hl => ?_)
    refine lv_iconst (v := nI 1) hx hb dL_restore_8 (by decide) ?_
    exact hret _ _ (nI 1) (.inr ()) _ _ _ _ hP hD hS ⟨rfl, hq⟩ dL_restore_9 (by omega) (by omega)
  refine lv_goto (tgt := 10) hx hb dL_restore_4 (by decide) ?_
  refine lv_iconst (v := nI 0) hx hb dL_restore_10 (by decide) ?_
  exact hret _ _ (nI 0) (.inl ()) _ _ _ _ hP hD hS ⟨rfl, hw⟩ dL_restore_11 (by omega) (by omega)
theorem l_L_146 : CWW RL 146 yL_addMember cL_addMember 7 [(0, 14, 17, 13), (0, 14, 21, 15)] 6 := ⟨⟨q461, q462, q56, q463⟩, by decide +kernel⟩
theorem l_L_155 : CWW RL 155 yL_wind cL_wind 5 [(0, 10, 13, 21), (0, 10, 17, 13), (0, 10, 21, 15)] 4 := ⟨⟨q612, q613, q56, q614⟩, by decide +kernel⟩
theorem l_L_159 : CWW RL 159 yL_tune cL_tune 5 [(0, 10, 13, 21), (0, 10, 17, 13)] 4 := ⟨⟨q652, q653, q56, q654⟩, by decide +kernel⟩
theorem l_L_162 : CWW RL 162 yL_buyShares cL_buyShares 5 [(0, 10, 13, 21), (0, 10, 17, 13), (0, 10, 21, 15), (0, 10, 25, 29)] 4 := ⟨⟨q667, q668, q56, q669⟩, by decide +kernel⟩
theorem l_L_165 : CWW RL 165 yL_passBeats cL_passBeats 4 [(0, 9, 12, 13)] 3 := ⟨⟨q683, q684, q56, q685⟩, by decide +kernel⟩
theorem l_L_169 : CWW RL 169 yL_endQuarter cL_endQuarter 3 [(0, 8, 11, 15)] 2 := ⟨⟨q713, q714, q56, q715⟩, by decide +kernel⟩
theorem l_L_173 : CWW RL 173 yL_vote cL_vote 5 [(0, 17, 20, 13)] 4 := ⟨⟨q728, q729, q56, q730⟩, by decide +kernel⟩
theorem l_L_180 : CWW RL 180 yL_shares cL_shares 4 [(0, 9, 12, 21)] 3 := ⟨⟨q755, q756, q56, q757⟩, by decide +kernel⟩
theorem l_L_183 : CWW RL 183 yL_spring cL_spring 4 [(0, 9, 12, 21)] 3 := ⟨⟨q767, q768, q56, q769⟩, by decide +kernel⟩
theorem l_L_186 : CWW RL 186 yL_tone cL_tone 4 [(0, 9, 12, 21)] 3 := ⟨⟨q774, q775, q56, q776⟩, by decide +kernel⟩
theorem l_L_189 : CWW RL 189 yL_purse cL_purse 4 [(0, 9, 12, 21)] 3 := ⟨⟨q781, q782, q56, q783⟩, by decide +kernel⟩
theorem l_L_192 : CWW RL 192 yL_dissents cL_dissents 4 [(0, 9, 12, 21)] 3 := ⟨⟨q788, q789, q56, q790⟩, by decide +kernel⟩
theorem l_L_195 : CWW RL 195 yL_interval cL_interval 5 [(0, 10, 13, 21)] 4 := ⟨⟨q795, q796, q56, q797⟩, by decide +kernel⟩
theorem l_L_198 : CWW RL 198 yL_memberAtRank cL_memberAtRank 4 [(0, 9, 12, 64)] 3 := ⟨⟨q803, q804, q56, q805⟩, by decide +kernel⟩
theorem l_L_201 : CWW RL 201 yL_dueBeats cL_dueBeats 4 [(0, 8, 11, 21)] 3 := ⟨⟨q835, q836, q56, q837⟩, by decide +kernel⟩
theorem l_L_204 : CWW RL 204 yL_dueBeatsByDoubling cL_dueBeatsByDoubling 4 [(0, 8, 11, 21)] 3 := ⟨⟨q842, q843, q56, q844⟩, by decide +kernel⟩
theorem l_L_207 : CWW RL 207 yL_commonBeats cL_commonBeats 5 [(0, 10, 13, 21)] 4 := ⟨⟨q849, q850, q56, q851⟩, by decide +kernel⟩
theorem l_L_210 : CWW RL 210 yL_beatsUntilChorus cL_beatsUntilChorus 3 [(0, 8, 11, 64)] 2 := ⟨⟨q862, q863, q56, q864⟩, by decide +kernel⟩
theorem l_L_213 : CWW RL 213 yL_earningsIn cL_earningsIn 4 [(0, 9, 12, 13)] 3 := ⟨⟨q874, q875, q56, q876⟩, by decide +kernel⟩
theorem l_L_216 : CWW RL 216 yL_dividend cL_dividend 4 [(0, 9, 12, 21)] 3 := ⟨⟨q882, q883, q56, q884⟩, by decide +kernel⟩
theorem l_L_219 : CWW RL 219 yL_dividendByCounting cL_dividendByCounting 4 [(0, 9, 12, 21)] 3 := ⟨⟨q889, q890, q56, q891⟩, by decide +kernel⟩
theorem l_L_222 : CWW RL 222 yL_sharesInFavour cL_sharesInFavour 5 [(0, 10, 13, 13)] 4 := ⟨⟨q896, q897, q56, q898⟩, by decide +kernel⟩
theorem l_L_225 : CWW RL 225 yL_carriedTone cL_carriedTone 4 [(0, 9, 12, 13), (0, 9, 15, 64)] 3 := ⟨⟨q904, q905, q56, q906⟩, by decide +kernel⟩
theorem l_L_240 : CWW RL 240 yL_power cL_power 4 [(0, 9, 12, 21)] 3 := ⟨⟨q912, q913, q56, q914⟩, by decide +kernel⟩
theorem l_L_243 : CWW RL 243 yL_powerByTable cL_powerByTable 4 [(0, 9, 12, 21)] 3 := ⟨⟨q919, q920, q56, q921⟩, by decide +kernel⟩
theorem l_L_246 : CWW RL 246 yL_smallestMajority cL_smallestMajority 3 [(0, 8, 11, 64)] 2 := ⟨⟨q926, q927, q56, q928⟩, by decide +kernel⟩
theorem l_L_277 : CWW RL 277 yL_spoiltBeat cL_spoiltBeat 4 [(0, 9, 12, 21)] 3 := ⟨⟨q945, q946, q56, q947⟩, by decide +kernel⟩
theorem l_L_280 : CWW RL 280 yL_meanPurse cL_meanPurse 3 [(0, 7, 10, 110)] 2 := ⟨⟨q953, q954, q56, q955⟩, by decide +kernel⟩
theorem l_L_284 : CWW RL 284 yL_powerShare cL_powerShare 4 [(0, 9, 12, 21)] 3 := ⟨⟨q976, q977, q56, q978⟩, by decide +kernel⟩
theorem l_L_293 : CWW RL 293 yL_append cL_append 4 [(0, 9, 12, 15)] 3 := ⟨⟨q988, q989, q56, q990⟩, by decide +kernel⟩
theorem l_L_297 : CWW RL 297 yL_run cL_run 3 [(0, 8, 11, 13), (0, 8, 14, 29)] 2 := ⟨⟨q1004, q1005, q56, q1006⟩, by decide +kernel⟩
theorem l_L_300 : CWW RL 300 yL_errorPosition cL_errorPosition 3 [(0, 8, 11, 64)] 2 := ⟨⟨q1119, q1120, q56, q1121⟩, by decide +kernel⟩
theorem l_L_303 : CWW RL 303 yL_failedCommand cL_failedCommand 3 [(0, 8, 11, 64)] 2 := ⟨⟨q1127, q1128, q56, q1129⟩, by decide +kernel⟩
theorem l_L_306 : CWW RL 306 yL_writeMember cL_writeMember 4 [(0, 9, 12, 21)] 3 := ⟨⟨q1135, q1136, q56, q1137⟩, by decide +kernel⟩
theorem l_L_309 : CWW RL 309 yL_outputAt cL_outputAt 4 [(0, 9, 12, 21)] 3 := ⟨⟨q1386, q1387, q56, q1388⟩, by decide +kernel⟩
theorem l_L_312 : CWW RL 312 yL_undo cL_undo 3 [(0, 8, 11, 15)] 2 := ⟨⟨q1404, q1405, q56, q1406⟩, by decide +kernel⟩
theorem l_L_319 : CWW RL 319 yL_restore cL_restore 2 [(0, 4, 7, 15)] 1 := ⟨⟨q1416, q1417, q56, q1418⟩, by decide +kernel⟩
