set_option maxHeartbeats 4000000 in
set_option maxRecDepth 100000 in
theorem st_dividend {p : Program} {l : Launch} {e : Env} {s : State} {m : MethodId} {args : Array Value} {below : List Frame} {meth : Method} {c : Code} {E : EE} {A : Nat → Prop} {Q : State → Prop} {x a a2 a3 b d k pa y : Nat → Nat} {hs : Nat → Nat → Nat} {mb : Nat → Nat} {ol od sb : Nat} {i B cells slots L : Nat} {xs : Nat → Int32} (C : LCx p l s m args c E A sb L xs) (hL : L ≤ 2560) (hi : i + 5 ≤ L) (hB4 : B + 420 ≤ 300000) (hrc : cells + 13 ≤ 603072 ∧ slots + 414 ≤ 7174250) (kk : LGo p l e s m args below meth c E A Q x a a2 a3 b d k pa y hs mb ol od sb i (B + 420) (cells + 13) (slots + 414) 2541) : LGo p l e s m args below meth c E A Q x a a2 a3 b d k pa y hs mb ol od sb i B cells slots 1426 := by
  obtain ⟨hx, hb, hml, hown, hts, hK, hZ, hDD, hA, hX, hbl, hbA, hst⟩ := C
  intro w g g2 g3 hg nx ct co re so gw q F v ml n cp t z gs ar lo dO H locs ls hR hP hD hS hl
  obtain ⟨hI, ⟨hs1, hs2, hs3⟩, ⟨hnx, hct, hz1, hh9⟩, ⟨hw1, hw2, hz5, hz6⟩, ⟨hq1, hq2, hF0, hF9⟩, ⟨hn1, hn2, hcp, ht9, htx, ho2⟩⟩ := id hR
  have hmc := hI.mc
  obtain ⟨p0, hp0⟩ : ∃ y9, y9 = xs (i + 1) := ⟨_, rfl⟩
  refine lv_aload_n hx hb dL_law_1426 rfl (lv_at hl 1 rfl) ?_
  refine lv_aload_n hx hb dL_law_1427 rfl (lv_at hl 0 rfl) ?_
  refine lv_iload hx hb dL_law_1428 (lv_at hl 5 rfl) ?_
  refine lv_iconst (v := nI 1) hx hb dL_law_1430 (by decide) ?_
  refine nv_iadd hx hb dL_law_1431 ?_
  refine va_sld hx hb hX hbl hbA hS (vp_in_nI (show i + 1 < L by omega) (by omega)) dL_law_1432 ?_
  refine tp_i (show xs (nI (i + 1)).toNatClampNeg = p0 from by rw [nI_clamp (by omega), hp0]) ?_
  refine lv_aload_n hx hb dL_law_1433 rfl (lv_at hl 3 rfl) ?_
  refine run_i (S := (((Nat → Nat) × (Nat → Nat)) × Int32 × (Nat → Int64)) ⊕ Unit) (run_SW (As := [.ref (x 0), .int p0, .ref ol]) (rest := []) (bs := [loC E ol lo, dbC E od dO, coC E x a a2 a3 b d k pa y w, stC E a g, stC E a2 g2, stC E a3 g3, hhC E b hs hg nx ct, diC E d co re, grC E k so gw, prC E pa q F, sbO E y v ml n, baC E v cp t, moC E mb z g gs ar]) (cb := [loC E ol lo, coC E x a a2 a3 b d k pa y w, stC E a g, diC E d co re]) hx hb hml hown hts hK hZ hDD hA (c_L_dividend l hst E _ x a a2 a3 b d k pa y w g B hI co re p0 ol lo) l_L_216 rfl ⟨⟨rfl, rfl⟩, Nat.le_of_ble_eq_true rfl, Nat.le_of_ble_eq_true rfl⟩ [0, 2, 3, 7] rfl (by decide) hP hD hS hl.1 rfl (Nat.le_of_ble_eq_true rfl) dL_law_1434 ⟨by show cells + 1 ≤ 603072; omega, by show slots + 6 ≤ 7174250; omega⟩) hA hP hD hS (isC := [0, 2, 3, 7]) rfl [1, 4, 5, 6, 8, 9, 10, 11, 12] [9, 0, 10, 11, 1, 2, 3, 12, 4, 5, 6, 7, 8] (br := [dbC E od dO, stC E a2 g2, stC E a3 g3, hhC E b hs hg nx ct, grC E k so gw, prC E pa q F, sbO E y v ml n, baC E v cp t, moC E mb z g gs ar]) (bs2 := fun u => Sum.elim (fun (vq : ((Nat → Nat) × (Nat → Nat)) × Int32 × (Nat → Int64)) => [loC E ol vq.2.2, dbC E od dO, coC E x a a2 a3 b d k pa y w, stC E a g, stC E a2 g2, stC E a3 g3, hhC E b hs hg nx ct, diC E d vq.1.1 vq.1.2, grC E k so gw, prC E pa q F, sbO E y v ml n, baC E v cp t, moC E mb z g gs ar]) (fun (vq : Unit) => [loC E ol lo, dbC E od dO, coC E x a a2 a3 b d k pa y w, stC E a g, stC E a2 g2, stC E a3 g3, hhC E b hs hg nx ct, diC E d co re, grC E k so gw, prC E pa q F, sbO E y v ml n, baC E v cp t, moC E mb z g gs ar]) u) rfl (by decide) (fun u => by rcases u with u | u <;> rfl) (by decide) (fun r u H locs hw hP hD hS => ?_)
  rcases u with vq | vq
  · skip
    obtain ⟨u9, r9, lo9⟩ := vq
    have hw7 : r = nI 0 ∧ (hasM g p0 = true ∧ r9 = nI (dv g (tn p0))) ∧ lo9 0 = r9.toInt64 := hw
    clear hw
    obtain ⟨rfl, hw⟩ := hw7
    have hP : va_P E.1 vwCl ([loC E ol lo9, dbC E od dO, coC E x a a2 a3 b d k pa y w, stC E a g, stC E a2 g2, stC E a3 g3, hhC E b hs hg nx ct, diC E d u9.1 u9.2, grC E k so gw, prC E pa q F, sbO E y v ml n, baC E v cp t, moC E mb z g gs ar] : List va_W).flatten H := hP
    have hD : va_D A ([loC E ol lo9, dbC E od dO, coC E x a a2 a3 b d k pa y w, stC E a g, stC E a2 g2, stC E a3 g3, hhC E b hs hg nx ct, diC E d u9.1 u9.2, grC E k so gw, prC E pa q F, sbO E y v ml n, baC E v cp t, moC E mb z g gs ar] : List va_W).flatten := hD
    obtain ⟨⟨hcnd, hr9⟩, hlo⟩ := hw
    subst hr9
    refine lv_istore (lv' := [(6, .int (nI 0)), (0, .ref sb), (1, .ref (x 0)), (2, .ref (mb 0)), (3, .ref ol), (4, .ref od), (5, .int (nI i))]) hx hb dL_law_1437 hl (by decide) rfl (fun ls hl => ?_)
    refine lv_aload_n hx hb dL_law_1439 rfl (lv_at hl 3 rfl) ?_
    refine lv_aload_n hx hb dL_law_1440 rfl (lv_at hl 1 rfl) ?_
    refine lv_iload hx hb dL_law_1441 (lv_at hl 6 rfl) ?_
    refine lv_iconst (v := nI 1) hx hb dL_law_1443 (by decide) ?_
    refine nv_iadd hx hb dL_law_1444 ?_
    refine va_sld hx hb hX hbl hbA hS (vp_in_nI (show i + 1 < L by omega) (by omega)) dL_law_1445 ?_
    refine tp_i (show xs (nI (i + 1)).toNatClampNeg = p0 from by rw [nI_clamp (by omega), hp0]) ?_
    refine run_i (S := Unit) (run_V (As := [.int p0]) (rest := []) (bs := [loC E ol lo9, dbC E od dO, coC E x a a2 a3 b d k pa y w, stC E a g, stC E a2 g2, stC E a3 g3, hhC E b hs hg nx ct, diC E d u9.1 u9.2, grC E k so gw, prC E pa q F, sbO E y v ml n, baC E v cp t, moC E mb z g gs ar]) (cb := [moC E mb z g gs ar]) hx hb hml hown hts hK hZ hA (c_X6_dividend l E _ mb z g gs ar B hI p0) l_L_218 rfl ⟨⟨rfl, rfl⟩, Nat.le_of_ble_eq_true rfl, Nat.le_of_ble_eq_true rfl⟩ 10 rfl [12] rfl (by decide) rfl hP hD hS hl.1 rfl (Nat.le_of_ble_eq_true rfl) dL_law_1446 ⟨by show (cells + 1) + 0 ≤ 603072; omega, by show (slots + 6) + 0 ≤ 7174250; omega⟩) hA hP hD hS (isC := [12]) rfl [0, 1, 2, 3, 4, 5, 6, 7, 8, 9, 10, 11] [0, 1, 2, 3, 4, 5, 6, 7, 8, 9, 10, 11, 12] (br := [loC E ol lo9, dbC E od dO, coC E x a a2 a3 b d k pa y w, stC E a g, stC E a2 g2, stC E a3 g3, hhC E b hs hg nx ct, diC E d u9.1 u9.2, grC E k so gw, prC E pa q F, sbO E y v ml n, baC E v cp t]) (bs2 := fun _ => [loC E ol lo9, dbC E od dO, coC E x a a2 a3 b d k pa y w, stC E a g, stC E a2 g2, stC E a3 g3, hhC E b hs hg nx ct, diC E d u9.1 u9.2, grC E k so gw, prC E pa q F, sbO E y v ml n, baC E v cp t, moC E mb (upn z 0 (if hasM g p0 = true then 0 else 1)) g gs ar]) rfl (by decide) (fun _ => rfl) (by decide) (fun r u6 H locs hw6 hP hD hS => ?_)
    have hw6 : r = nI (if hasM g p0 = true then dv g (tn p0) else 0) := hw6
    subst hw6
    refine tp_i (show nI (if hasM g p0 = true then dv g (tn p0) else 0) = nI (dv g (tn p0)) from congrArg nI (if_pos hcnd)) ?_
    refine lv_istore (lv' := [(7, .int (nI (dv g (tn p0)))), (6, .int (nI 0)), (0, .ref sb), (1, .ref (x 0)), (2, .ref (mb 0)), (3, .ref ol), (4, .ref od), (5, .int (nI i))]) hx hb dL_law_1449 hl (by decide) rfl (fun ls hl => ?_)
    refine lv_aload_n hx hb dL_law_1451 rfl (lv_at hl 4 rfl) ?_
    refine run_i (S := Unit) (run_V (As := []) (rest := []) (bs := [loC E ol lo9, dbC E od dO, coC E x a a2 a3 b d k pa y w, stC E a g, stC E a2 g2, stC E a3 g3, hhC E b hs hg nx ct, diC E d u9.1 u9.2, grC E k so gw, prC E pa q F, sbO E y v ml n, baC E v cp t, moC E mb (upn z 0 (if hasM g p0 = true then 0 else 1)) g gs ar]) (cb := [moC E mb (upn z 0 (if hasM g p0 = true then 0 else 1)) g gs ar]) hx hb hml hown hts hK hZ hA (c_X6_thrown l E _ mb (upn z 0 (if hasM g p0 = true then 0 else 1)) g gs ar) l_L_152 rfl ⟨⟨rfl, rfl⟩, Nat.le_of_ble_eq_true rfl, Nat.le_of_ble_eq_true rfl⟩ 10 rfl [12] rfl (by decide) rfl hP hD hS hl.1 rfl (Nat.le_of_ble_eq_true rfl) dL_law_1452 ⟨by show ((cells + 1) + 0) + 0 ≤ 603072; omega, by show ((slots + 6) + 0) + 0 ≤ 7174250; omega⟩) hA hP hD hS (isC := [12]) rfl [0, 1, 2, 3, 4, 5, 6, 7, 8, 9, 10, 11] [0, 1, 2, 3, 4, 5, 6, 7, 8, 9, 10, 11, 12] (br := [loC E ol lo9, dbC E od dO, coC E x a a2 a3 b d k pa y w, stC E a g, stC E a2 g2, stC E a3 g3, hhC E b hs hg nx ct, diC E d u9.1 u9.2, grC E k so gw, prC E pa q F, sbO E y v ml n, baC E v cp t]) (bs2 := fun _ => [loC E ol lo9, dbC E od dO, coC E x a a2 a3 b d k pa y w, stC E a g, stC E a2 g2, stC E a3 g3, hhC E b hs hg nx ct, diC E d u9.1 u9.2, grC E k so gw, prC E pa q F, sbO E y v ml n, baC E v cp t, moC E mb (upn z 0 (if hasM g p0 = true then 0 else 1)) g gs ar]) rfl (by decide) (fun _ => rfl) (by decide) (fun r u6 H locs hw6 hP hD hS => ?_)
    have hw6 : r = nI ((upn z 0 (if hasM g p0 = true then 0 else 1)) 0) := hw6
    subst hw6
    refine lv_iload hx hb dL_law_1455 (lv_at hl 1 rfl) ?_
    refine lv_icmp_eq (tgt := 1462) hx hb dL_law_1457 (by decide) (fun _ => ?_) (fun hc => absurd (show nI ((upn z 0 (if hasM g p0 = true then 0 else 1)) 0) = nI 0 from congrArg nI (upn_s.trans (if_pos hcnd))) hc)
    refine lv_iload hx hb dL_law_1462 (lv_at hl 1 rfl) ?_
    refine nv_if_ne (X := ((0 : Nat) : Int)) hx hb (nI_toInt (by omega)) (tgt := 1479) dL_law_1464 (by decide) (fun c_1 => ?_) (fun c_1 => ?_)
    · exact absurd c_1 (by omega)
    · skip
      refine lv_aload_n hx hb dL_law_1467 rfl (lv_at hl 5 rfl) ?_
      refine lv_iconst (v := nI 0) hx hb dL_law_1468 (by decide) ?_
      refine va_lald hx hb hK hP 0 4 rfl rfl (vp_in_nI (show 0 < 1 by decide) (by decide)) dL_law_1469 ?_
      rw [show lo9 (nI 0).toNatClampNeg = (nI (dv g (tn p0))).toInt64 from by rw [nI_clamp (show 0 < 2 ^ 31 by decide)]; exact hlo]
      refine lv_iload hx hb dL_law_1470 (lv_at hl 0 rfl) ?_
      refine lv_i2l hx hb dL_law_1472 rfl ?_
      refine W.lcmp hx hb dL_law_1473 ?_
      refine tp_i (show lg_cmp ((nI (dv g (tn p0))).toInt64) ((nI (dv g (tn p0))).toInt64) = nI 0 from lg_eq _) ?_
      refine nv_if_eq (X := ((0 : Nat) : Int)) hx hb (nI_toInt (by omega)) (tgt := 1479) dL_law_1474 (by decide) (fun c_2 => ?_) (fun c_2 => ?_)
      · skip
        refine lv_goto (tgt := 2541) hx hb dL_law_1479 (by decide) ?_
        exact W_widen (by omega) (by omega) (kk w g g2 g3 hg nx ct u9.1 u9.2 so gw q F v ml n cp t (upn z 0 (if hasM g p0 = true then 0 else 1)) gs ar lo9 dO _ _ _ (rel_q hR hB4) hP hD hS (lv_sub hl [2, 3, 4, 5, 6, 7] rfl))
      · exact absurd c_2 (by omega)
  · skip
    have hw : r = nI 1 ∧ hasM g p0 = false := hw
    have hP : va_P E.1 vwCl ([loC E ol lo, dbC E od dO, coC E x a a2 a3 b d k pa y w, stC E a g, stC E a2 g2, stC E a3 g3, hhC E b hs hg nx ct, diC E d co re, grC E k so gw, prC E pa q F, sbO E y v ml n, baC E v cp t, moC E mb z g gs ar] : List va_W).flatten H := hP
    have hD : va_D A ([loC E ol lo, dbC E od dO, coC E x a a2 a3 b d k pa y w, stC E a g, stC E a2 g2, stC E a3 g3, hhC E b hs hg nx ct, diC E d co re, grC E k so gw, prC E pa q F, sbO E y v ml n, baC E v cp t, moC E mb z g gs ar] : List va_W).flatten := hD
    obtain ⟨rfl, hq⟩ := hw
    refine lv_istore (lv' := [(6, .int (nI 1)), (0, .ref sb), (1, .ref (x 0)), (2, .ref (mb 0)), (3, .ref ol), (4, .ref od), (5, .int (nI i))]) hx hb dL_law_1437 hl (by decide) rfl (fun ls hl => ?_)
    refine lv_aload_n hx hb dL_law_1439 rfl (lv_at hl 3 rfl) ?_
    refine lv_aload_n hx hb dL_law_1440 rfl (lv_at hl 1 rfl) ?_
    refine lv_iload hx hb dL_law_1441 (lv_at hl 6 rfl) ?_
    refine lv_iconst (v := nI 1) hx hb dL_law_1443 (by decide) ?_
    refine nv_iadd hx hb dL_law_1444 ?_
    refine va_sld hx hb hX hbl hbA hS (vp_in_nI (show i + 1 < L by omega) (by omega)) dL_law_1445 ?_
    refine tp_i (show xs (nI (i + 1)).toNatClampNeg = p0 from by rw [nI_clamp (by omega), hp0]) ?_
    refine run_i (S := Unit) (run_V (As := [.int p0]) (rest := []) (bs := [loC E ol lo, dbC E od dO, coC E x a a2 a3 b d k pa y w, stC E a g, stC E a2 g2, stC E a3 g3, hhC E b hs hg nx ct, diC E d co re, grC E k so gw, prC E pa q F, sbO E y v ml n, baC E v cp t, moC E mb z g gs ar]) (cb := [moC E mb z g gs ar]) hx hb hml hown hts hK hZ hA (c_X6_dividend l E _ mb z g gs ar B hI p0) l_L_218 rfl ⟨⟨rfl, rfl⟩, Nat.le_of_ble_eq_true rfl, Nat.le_of_ble_eq_true rfl⟩ 10 rfl [12] rfl (by decide) rfl hP hD hS hl.1 rfl (Nat.le_of_ble_eq_true rfl) dL_law_1446 ⟨by show (cells + 1) + 0 ≤ 603072; omega, by show (slots + 6) + 0 ≤ 7174250; omega⟩) hA hP hD hS (isC := [12]) rfl [0, 1, 2, 3, 4, 5, 6, 7, 8, 9, 10, 11] [0, 1, 2, 3, 4, 5, 6, 7, 8, 9, 10, 11, 12] (br := [loC E ol lo, dbC E od dO, coC E x a a2 a3 b d k pa y w, stC E a g, stC E a2 g2, stC E a3 g3, hhC E b hs hg nx ct, diC E d co re, grC E k so gw, prC E pa q F, sbO E y v ml n, baC E v cp t]) (bs2 := fun _ => [loC E ol lo, dbC E od dO, coC E x a a2 a3 b d k pa y w, stC E a g, stC E a2 g2, stC E a3 g3, hhC E b hs hg nx ct, diC E d co re, grC E k so gw, prC E pa q F, sbO E y v ml n, baC E v cp t, moC E mb (upn z 0 (if hasM g p0 = true then 0 else 1)) g gs ar]) rfl (by decide) (fun _ => rfl) (by decide) (fun r u6 H locs hw6 hP hD hS => ?_)
    have hw6 : r = nI (if hasM g p0 = true then dv g (tn p0) else 0) := hw6
    subst hw6
    refine lv_istore (lv' := [(7, .int (nI (if hasM g p0 = true then dv g (tn p0) else 0))), (6, .int (nI 1)), (0, .ref sb), (1, .ref (x 0)), (2, .ref (mb 0)), (3, .ref ol), (4, .ref od), (5, .int (nI i))]) hx hb dL_law_1449 hl (by decide) rfl (fun ls hl => ?_)
    refine lv_aload_n hx hb dL_law_1451 rfl (lv_at hl 4 rfl) ?_
    refine run_i (S := Unit) (run_V (As := []) (rest := []) (bs := [loC E ol lo, dbC E od dO, coC E x a a2 a3 b d k pa y w, stC E a g, stC E a2 g2, stC E a3 g3, hhC E b hs hg nx ct, diC E d co re, grC E k so gw, prC E pa q F, sbO E y v ml n, baC E v cp t, moC E mb (upn z 0 (if hasM g p0 = true then 0 else 1)) g gs ar]) (cb := [moC E mb (upn z 0 (if hasM g p0 = true then 0 else 1)) g gs ar]) hx hb hml hown hts hK hZ hA (c_X6_thrown l E _ mb (upn z 0 (if hasM g p0 = true then 0 else 1)) g gs ar) l_L_152 rfl ⟨⟨rfl, rfl⟩, Nat.le_of_ble_eq_true rfl, Nat.le_of_ble_eq_true rfl⟩ 10 rfl [12] rfl (by decide) rfl hP hD hS hl.1 rfl (Nat.le_of_ble_eq_true rfl) dL_law_1452 ⟨by show ((cells + 1) + 0) + 0 ≤ 603072; omega, by show ((slots + 6) + 0) + 0 ≤ 7174250; omega⟩) hA hP hD hS (isC := [12]) rfl [0, 1, 2, 3, 4, 5, 6, 7, 8, 9, 10, 11] [0, 1, 2, 3, 4, 5, 6, 7, 8, 9, 10, 11, 12] (br := [loC E ol lo, dbC E od dO, coC E x a a2 a3 b d k pa y w, stC E a g, stC E a2 g2, stC E a3 g3, hhC E b hs hg nx ct, diC E d co re, grC E k so gw, prC E pa q F, sbO E y v ml n, baC E v cp t]) (bs2 := fun _ => [loC E ol lo, dbC E od dO, coC E x a a2 a3 b d k pa y w, stC E a g, stC E a2 g2, stC E a3 g3, hhC E b hs hg nx ct, diC E d co re, grC E k so gw, prC E pa q F, sbO E y v ml n, baC E v cp t, moC E mb (upn z 0 (if hasM g p0 = true then 0 else 1)) g gs ar]) rfl (by decide) (fun _ => rfl) (by decide) (fun r u6 H locs hw6 hP hD hS => ?_)
    have hw6 : r = nI ((upn z 0 (if hasM g p0 = true then 0 else 1)) 0) := hw6
    subst hw6
    refine lv_iload hx hb dL_law_1455 (lv_at hl 1 rfl) ?_
    refine lv_icmp_eq (tgt := 1462) hx hb dL_law_1457 (by decide) (fun _ => ?_) (fun hc => absurd (show nI ((upn z 0 (if hasM g p0 = true then 0 else 1)) 0) = nI 1 from congrArg nI (upn_s.trans (if_neg (fun h9 => by rw [hq] at h9; cases h9)))) hc)
    refine lv_iload hx hb dL_law_1462 (lv_at hl 1 rfl) ?_
    refine nv_if_ne (X := ((1 : Nat) : Int)) hx hb (nI_toInt (by omega)) (tgt := 1479) dL_law_1464 (by decide) (fun c_3 => ?_) (fun c_3 => ?_)
    · skip
      refine lv_goto (tgt := 2541) hx hb dL_law_1479 (by decide) ?_
      exact W_widen (by omega) (by omega) (kk w g g2 g3 hg nx ct co re so gw q F v ml n cp t (upn z 0 (if hasM g p0 = true then 0 else 1)) gs ar lo dO _ _ _ (rel_q hR hB4) hP hD hS (lv_sub hl [2, 3, 4, 5, 6, 7] rfl))
    · exact absurd c_3 (by omega)
set_option maxHeartbeats 4000000 in
set_option maxRecDepth 100000 in
theorem st_dividendByCounting {p : Program} {l : Launch} {e : Env} {s : State} {m : MethodId} {args : Array Value} {below : List Frame} {meth : Method} {c : Code} {E : EE} {A : Nat → Prop} {Q : State → Prop} {x a a2 a3 b d k pa y : Nat → Nat} {hs : Nat → Nat → Nat} {mb : Nat → Nat} {ol od sb : Nat} {i B cells slots L : Nat} {xs : Nat → Int32} (C : LCx p l s m args c E A sb L xs) (hL : L ≤ 2560) (hi : i + 5 ≤ L) (hB4 : B + 420 ≤ 300000) (hrc : cells + 13 ≤ 603072 ∧ slots + 414 ≤ 7174250) (kk : LGo p l e s m args below meth c E A Q x a a2 a3 b d k pa y hs mb ol od sb i (B + 420) (cells + 13) (slots + 414) 2541) : LGo p l e s m args below meth c E A Q x a a2 a3 b d k pa y hs mb ol od sb i B cells slots 1482 := by
  obtain ⟨hx, hb, hml, hown, hts, hK, hZ, hDD, hA, hX, hbl, hbA, hst⟩ := C
  intro w g g2 g3 hg nx ct co re so gw q F v ml n cp t z gs ar lo dO H locs ls hR hP hD hS hl
  obtain ⟨hI, ⟨hs1, hs2, hs3⟩, ⟨hnx, hct, hz1, hh9⟩, ⟨hw1, hw2, hz5, hz6⟩, ⟨hq1, hq2, hF0, hF9⟩, ⟨hn1, hn2, hcp, ht9, htx, ho2⟩⟩ := id hR
  have hmc := hI.mc
  obtain ⟨p0, hp0⟩ : ∃ y9, y9 = xs (i + 1) := ⟨_, rfl⟩
  refine lv_aload_n hx hb dL_law_1482 rfl (lv_at hl 1 rfl) ?_
  refine lv_aload_n hx hb dL_law_1483 rfl (lv_at hl 0 rfl) ?_
  refine lv_iload hx hb dL_law_1484 (lv_at hl 5 rfl) ?_
  refine lv_iconst (v := nI 1) hx hb dL_law_1486 (by decide) ?_
  refine nv_iadd hx hb dL_law_1487 ?_
  refine va_sld hx hb hX hbl hbA hS (vp_in_nI (show i + 1 < L by omega) (by omega)) dL_law_1488 ?_
  refine tp_i (show xs (nI (i + 1)).toNatClampNeg = p0 from by rw [nI_clamp (by omega), hp0]) ?_
  refine lv_aload_n hx hb dL_law_1489 rfl (lv_at hl 3 rfl) ?_
  refine run_i (S := (((Nat → Nat) × (Nat → Nat)) × Int32 × (Nat → Int64)) ⊕ Unit) (run_SW (As := [.ref (x 0), .int p0, .ref ol]) (rest := []) (bs := [loC E ol lo, dbC E od dO, coC E x a a2 a3 b d k pa y w, stC E a g, stC E a2 g2, stC E a3 g3, hhC E b hs hg nx ct, diC E d co re, grC E k so gw, prC E pa q F, sbO E y v ml n, baC E v cp t, moC E mb z g gs ar]) (cb := [loC E ol lo, coC E x a a2 a3 b d k pa y w, stC E a g, diC E d co re]) hx hb hml hown hts hK hZ hDD hA (c_L_dividendByCounting l hst E _ x a a2 a3 b d k pa y w g B hI co re p0 ol lo) l_L_219 rfl ⟨⟨rfl, rfl⟩, Nat.le_of_ble_eq_true rfl, Nat.le_of_ble_eq_true rfl⟩ [0, 2, 3, 7] rfl (by decide) hP hD hS hl.1 rfl (Nat.le_of_ble_eq_true rfl) dL_law_1490 ⟨by show cells + 1 ≤ 603072; omega, by show slots + 6 ≤ 7174250; omega⟩) hA hP hD hS (isC := [0, 2, 3, 7]) rfl [1, 4, 5, 6, 8, 9, 10, 11, 12] [9, 0, 10, 11, 1, 2, 3, 12, 4, 5, 6, 7, 8] (br := [dbC E od dO, stC E a2 g2, stC E a3 g3, hhC E b hs hg nx ct, grC E k so gw, prC E pa q F, sbO E y v ml n, baC E v cp t, moC E mb z g gs ar]) (bs2 := fun u => Sum.elim (fun (vq : ((Nat → Nat) × (Nat → Nat)) × Int32 × (Nat → Int64)) => [loC E ol vq.2.2, dbC E od dO, coC E x a a2 a3 b d k pa y w, stC E a g, stC E a2 g2, stC E a3 g3, hhC E b hs hg nx ct, diC E d vq.1.1 vq.1.2, grC E k so gw, prC E pa q F, sbO E y v ml n, baC E v cp t, moC E mb z g gs ar]) (fun (vq : Unit) => [loC E ol lo, dbC E od dO, coC E x a a2 a3 b d k pa y w, stC E a g, stC E a2 g2, stC E a3 g3, hhC E b hs hg nx ct, diC E d co re, grC E k so gw, prC E pa q F, sbO E y v ml n, baC E v cp t, moC E mb z g gs ar]) u) rfl (by decide) (fun u => by rcases u with u | u <;> rfl) (by decide) (fun r u H locs hw hP hD hS => ?_)
  rcases u with vq | vq
  · skip
    obtain ⟨u9, r9, lo9⟩ := vq
    have hw7 : r = nI 0 ∧ (hasM g p0 = true ∧ r9 = nI (dv g (tn p0))) ∧ lo9 0 = r9.toInt64 := hw
    clear hw
    obtain ⟨rfl, hw⟩ := hw7
    have hP : va_P E.1 vwCl ([loC E ol lo9, dbC E od dO, coC E x a a2 a3 b d k pa y w, stC E a g, stC E a2 g2, stC E a3 g3, hhC E b hs hg nx ct, diC E d u9.1 u9.2, grC E k so gw, prC E pa q F, sbO E y v ml n, baC E v cp t, moC E mb z g gs ar] : List va_W).flatten H := hP
    have hD : va_D A ([loC E ol lo9, dbC E od dO, coC E x a a2 a3 b d k pa y w, stC E a g, stC E a2 g2, stC E a3 g3, hhC E b hs hg nx ct, diC E d u9.1 u9.2, grC E k so gw, prC E pa q F, sbO E y v ml n, baC E v cp t, moC E mb z g gs ar] : List va_W).flatten := hD
    obtain ⟨⟨hcnd, hr9⟩, hlo⟩ := hw
    subst hr9
    refine lv_istore (lv' := [(6, .int (nI 0)), (0, .ref sb), (1, .ref (x 0)), (2, .ref (mb 0)), (3, .ref ol), (4, .ref od), (5, .int (nI i))]) hx hb dL_law_1493 hl (by decide) rfl (fun ls hl => ?_)
    refine lv_aload_n hx hb dL_law_1495 rfl (lv_at hl 3 rfl) ?_
    refine lv_aload_n hx hb dL_law_1496 rfl (lv_at hl 1 rfl) ?_
    refine lv_iload hx hb dL_law_1497 (lv_at hl 6 rfl) ?_
    refine lv_iconst (v := nI 1) hx hb dL_law_1499 (by decide) ?_
    refine nv_iadd hx hb dL_law_1500 ?_
    refine va_sld hx hb hX hbl hbA hS (vp_in_nI (show i + 1 < L by omega) (by omega)) dL_law_1501 ?_
    refine tp_i (show xs (nI (i + 1)).toNatClampNeg = p0 from by rw [nI_clamp (by omega), hp0]) ?_
    refine run_i (S := Unit) (run_V (As := [.int p0]) (rest := []) (bs := [loC E ol lo9, dbC E od dO, coC E x a a2 a3 b d k pa y w, stC E a g, stC E a2 g2, stC E a3 g3, hhC E b hs hg nx ct, diC E d u9.1 u9.2, grC E k so gw, prC E pa q F, sbO E y v ml n, baC E v cp t, moC E mb z g gs ar]) (cb := [moC E mb z g gs ar]) hx hb hml hown hts hK hZ hA (c_X6_dividendByCounting l E _ mb z g gs ar B hI p0) l_L_221 rfl ⟨⟨rfl, rfl⟩, Nat.le_of_ble_eq_true rfl, Nat.le_of_ble_eq_true rfl⟩ 10 rfl [12] rfl (by decide) rfl hP hD hS hl.1 rfl (Nat.le_of_ble_eq_true rfl) dL_law_1502 ⟨by show (cells + 1) + 0 ≤ 603072; omega, by show (slots + 6) + 0 ≤ 7174250; omega⟩) hA hP hD hS (isC := [12]) rfl [0, 1, 2, 3, 4, 5, 6, 7, 8, 9, 10, 11] [0, 1, 2, 3, 4, 5, 6, 7, 8, 9, 10, 11, 12] (br := [loC E ol lo9, dbC E od dO, coC E x a a2 a3 b d k pa y w, stC E a g, stC E a2 g2, stC E a3 g3, hhC E b hs hg nx ct, diC E d u9.1 u9.2, grC E k so gw, prC E pa q F, sbO E y v ml n, baC E v cp t]) (bs2 := fun _ => [loC E ol lo9, dbC E od dO, coC E x a a2 a3 b d k pa y w, stC E a g, stC E a2 g2, stC E a3 g3, hhC E b hs hg nx ct, diC E d u9.1 u9.2, grC E k so gw, prC E pa q F, sbO E y v ml n, baC E v cp t, moC E mb (upn z 0 (if hasM g p0 = true then 0 else 1)) g gs ar]) rfl (by decide) (fun _ => rfl) (by decide) (fun r u6 H locs hw6 hP hD hS => ?_)
    have hw6 : r = nI (if hasM g p0 = true then dv g (tn p0) else 0) := hw6
    subst hw6
    refine tp_i (show nI (if hasM g p0 = true then dv g (tn p0) else 0) = nI (dv g (tn p0)) from congrArg nI (if_pos hcnd)) ?_
    refine lv_istore (lv' := [(7, .int (nI (dv g (tn p0)))), (6, .int (nI 0)), (0, .ref sb), (1, .ref (x 0)), (2, .ref (mb 0)), (3, .ref ol), (4, .ref od), (5, .int (nI i))]) hx hb dL_law_1505 hl (by decide) rfl (fun ls hl => ?_)
    refine lv_aload_n hx hb dL_law_1507 rfl (lv_at hl 4 rfl) ?_
    refine run_i (S := Unit) (run_V (As := []) (rest := []) (bs := [loC E ol lo9, dbC E od dO, coC E x a a2 a3 b d k pa y w, stC E a g, stC E a2 g2, stC E a3 g3, hhC E b hs hg nx ct, diC E d u9.1 u9.2, grC E k so gw, prC E pa q F, sbO E y v ml n, baC E v cp t, moC E mb (upn z 0 (if hasM g p0 = true then 0 else 1)) g gs ar]) (cb := [moC E mb (upn z 0 (if hasM g p0 = true then 0 else 1)) g gs ar]) hx hb hml hown hts hK hZ hA (c_X6_thrown l E _ mb (upn z 0 (if hasM g p0 = true then 0 else 1)) g gs ar) l_L_152 rfl ⟨⟨rfl, rfl⟩, Nat.le_of_ble_eq_true rfl, Nat.le_of_ble_eq_true rfl⟩ 10 rfl [12] rfl (by decide) rfl hP hD hS hl.1 rfl (Nat.le_of_ble_eq_true rfl) dL_law_1508 ⟨by show ((cells + 1) + 0) + 0 ≤ 603072; omega, by show ((slots + 6) + 0) + 0 ≤ 7174250; omega⟩) hA hP hD hS (isC := [12]) rfl [0, 1, 2, 3, 4, 5, 6, 7, 8, 9, 10, 11] [0, 1, 2, 3, 4, 5, 6, 7, 8, 9, 10, 11, 12] (br := [loC E ol lo9, dbC E od dO, coC E x a a2 a3 b d k pa y w, stC E a g, stC E a2 g2, stC E a3 g3, hhC E b hs hg nx ct, diC E d u9.1 u9.2, grC E k so gw, prC E pa q F, sbO E y v ml n, baC E v cp t]) (bs2 := fun _ => [loC E ol lo9, dbC E od dO, coC E x a a2 a3 b d k pa y w, stC E a g, stC E a2 g2, stC E a3 g3, hhC E b hs hg nx ct, diC E d u9.1 u9.2, grC E k so gw, prC E pa q F, sbO E y v ml n, baC E v cp t, moC E mb (upn z 0 (if hasM g p0 = true then 0 else 1)) g gs ar]) rfl (by decide) (fun _ => rfl) (by decide) (fun r u6 H locs hw6 hP hD hS => ?_)
    have hw6 : r = nI ((upn z 0 (if hasM g p0 = true then 0 else 1)) 0) := hw6
    subst hw6
    refine lv_iload hx hb dL_law_1511 (lv_at hl 1 rfl) ?_
    refine lv_icmp_eq (tgt := 1518) hx hb dL_law_1513 (by decide) (fun _ => ?_) (fun hc => absurd (show nI ((upn z 0 (if hasM g p0 = true then 0 else 1)) 0) = nI 0 from congrArg nI (upn_s.trans (if_pos hcnd))) hc)
    refine lv_iload hx hb dL_law_1518 (lv_at hl 1 rfl) ?_
    refine nv_if_ne (X := ((0 : Nat) : Int)) hx hb (nI_toInt (by omega)) (tgt := 1535) dL_law_1520 (by decide) (fun c_1 => ?_) (fun c_1 => ?_)
    · exact absurd c_1 (by omega)
    · skip
      refine lv_aload_n hx hb dL_law_1523 rfl (lv_at hl 5 rfl) ?_
      refine lv_iconst (v := nI 0) hx hb dL_law_1524 (by decide) ?_
      refine va_lald hx hb hK hP 0 4 rfl rfl (vp_in_nI (show 0 < 1 by decide) (by decide)) dL_law_1525 ?_
      rw [show lo9 (nI 0).toNatClampNeg = (nI (dv g (tn p0))).toInt64 from by rw [nI_clamp (show 0 < 2 ^ 31 by decide)]; exact hlo]
      refine lv_iload hx hb dL_law_1526 (lv_at hl 0 rfl) ?_
      refine lv_i2l hx hb dL_law_1528 rfl ?_
      refine W.lcmp hx hb dL_law_1529 ?_
      refine tp_i (show lg_cmp ((nI (dv g (tn p0))).toInt64) ((nI (dv g (tn p0))).toInt64) = nI 0 from lg_eq _) ?_
      refine nv_if_eq (X := ((0 : Nat) : Int)) hx hb (nI_toInt (by omega)) (tgt := 1535) dL_law_1530 (by decide) (fun c_2 => ?_) (fun c_2 => ?_)
      · skip
        refine lv_goto (tgt := 2541) hx hb dL_law_1535 (by decide) ?_
        exact W_widen (by omega) (by omega) (kk w g g2 g3 hg nx ct u9.1 u9.2 so gw q F v ml n cp t (upn z 0 (if hasM g p0 = true then 0 else 1)) gs ar lo9 dO _ _ _ (rel_q hR hB4) hP hD hS (lv_sub hl [2, 3, 4, 5, 6, 7] rfl))
      · exact absurd c_2 (by omega)
  · skip
    have hw : r = nI 1 ∧ hasM g p0 = false := hw
    have hP : va_P E.1 vwCl ([loC E ol lo, dbC E od dO, coC E x a a2 a3 b d k pa y w, stC E a g, stC E a2 g2, stC E a3 g3, hhC E b hs hg nx ct, diC E d co re, grC E k so gw, prC E pa q F, sbO E y v ml n, baC E v cp t, moC E mb z g gs ar] : List va_W).flatten H := hP
    have hD : va_D A ([loC E ol lo, dbC E od dO, coC E x a a2 a3 b d k pa y w, stC E a g, stC E a2 g2, stC E a3 g3, hhC E b hs hg nx ct, diC E d co re, grC E k so gw, prC E pa q F, sbO E y v ml n, baC E v cp t, moC E mb z g gs ar] : List va_W).flatten := hD
    obtain ⟨rfl, hq⟩ := hw
    refine lv_istore (lv' := [(6, .int (nI 1)), (0, .ref sb), (1, .ref (x 0)), (2, .ref (mb 0)), (3, .ref ol), (4, .ref od), (5, .int (nI i))]) hx hb dL_law_1493 hl (by decide) rfl (fun ls hl => ?_)
    refine lv_aload_n hx hb dL_law_1495 rfl (lv_at hl 3 rfl) ?_
    refine lv_aload_n hx hb dL_law_1496 rfl (lv_at hl 1 rfl) ?_
    refine lv_iload hx hb dL_law_1497 (lv_at hl 6 rfl) ?_
    refine lv_iconst (v := nI 1) hx hb dL_law_1499 (by decide) ?_
    refine nv_iadd hx hb dL_law_1500 ?_
    refine va_sld hx hb hX hbl hbA hS (vp_in_nI (show i + 1 < L by omega) (by omega)) dL_law_1501 ?_
    refine tp_i (show xs (nI (i + 1)).toNatClampNeg = p0 from by rw [nI_clamp (by omega), hp0]) ?_
    refine run_i (S := Unit) (run_V (As := [.int p0]) (rest := []) (bs := [loC E ol lo, dbC E od dO, coC E x a a2 a3 b d k pa y w, stC E a g, stC E a2 g2, stC E a3 g3, hhC E b hs hg nx ct, diC E d co re, grC E k so gw, prC E pa q F, sbO E y v ml n, baC E v cp t, moC E mb z g gs ar]) (cb := [moC E mb z g gs ar]) hx hb hml hown hts hK hZ hA (c_X6_dividendByCounting l E _ mb z g gs ar B hI p0) l_L_221 rfl ⟨⟨rfl, rfl⟩, Nat.le_of_ble_eq_true rfl, Nat.le_of_ble_eq_true rfl⟩ 10 rfl [12] rfl (by decide) rfl hP hD hS hl.1 rfl (Nat.le_of_ble_eq_true rfl) dL_law_1502 ⟨by show (cells + 1) + 0 ≤ 603072; omega, by show (slots + 6) + 0 ≤ 7174250; omega⟩) hA hP hD hS (isC := [12]) rfl [0, 1, 2, 3, 4, 5, 6, 7, 8, 9, 10, 11] [0, 1, 2, 3, 4, 5, 6, 7, 8, 9, 10, 11, 12] (br := [loC E ol lo, dbC E od dO, coC E x a a2 a3 b d k pa y w, stC E a g, stC E a2 g2, stC E a3 g3, hhC E b hs hg nx ct, diC E d co re, grC E k so gw, prC E pa q F, sbO E y v ml n, baC E v cp t]) (bs2 := fun _ => [loC E ol lo, dbC E od dO, coC E x a a2 a3 b d k pa y w, stC E a g, stC E a2 g2, stC E a3 g3, hhC E b hs hg nx ct, diC E d co re, grC E k so gw, prC E pa q F, sbO E y v ml n, baC E v cp t, moC E mb (upn z 0 (if hasM g p0 = true then 0 else 1)) g gs ar]) rfl (by decide) (fun _ => rfl) (by decide) (fun r u6 H locs hw6 hP hD hS => ?_)
    have hw6 : r = nI (if hasM g p0 = true then dv g (tn p0) else 0) := hw6
    subst hw6
    refine lv_istore (lv' := [(7, .int (nI (if hasM g p0 = true then dv g (tn p0) else 0))), (6, .int (nI 1)), (0, .ref sb), (1, .ref (x 0)), (2, .ref (mb 0)), (3, .ref ol), (4, .ref od), (5, .int (nI i))]) hx hb dL_law_1505 hl (by decide) rfl (fun ls hl => ?_)
    refine lv_aload_n hx hb dL_law_1507 rfl (lv_at hl 4 rfl) ?_
    refine run_i (S := Unit) (run_V (As := []) (rest := []) (bs := [loC E ol lo, dbC E od dO, coC E x a a2 a3 b d k pa y w, stC E a g, stC E a2 g2, stC E a3 g3, hhC E b hs hg nx ct, diC E d co re, grC E k so gw, prC E pa q F, sbO E y v ml n, baC E v cp t, moC E mb (upn z 0 (if hasM g p0 = true then 0 else 1)) g gs ar]) (cb := [moC E mb (upn z 0 (if hasM g p0 = true then 0 else 1)) g gs ar]) hx hb hml hown hts hK hZ hA (c_X6_thrown l E _ mb (upn z 0 (if hasM g p0 = true then 0 else 1)) g gs ar) l_L_152 rfl ⟨⟨rfl, rfl⟩, Nat.le_of_ble_eq_true rfl, Nat.le_of_ble_eq_true rfl⟩ 10 rfl [12] rfl (by decide) rfl hP hD hS hl.1 rfl (Nat.le_of_ble_eq_true rfl) dL_law_1508 ⟨by show ((cells + 1) + 0) + 0 ≤ 603072; omega, by show ((slots + 6) + 0) + 0 ≤ 7174250; omega⟩) hA hP hD hS (isC := [12]) rfl [0, 1, 2, 3, 4, 5, 6, 7, 8, 9, 10, 11] [0, 1, 2, 3, 4, 5, 6, 7, 8, 9, 10, 11, 12] (br := [loC E ol lo, dbC E od dO, coC E x a a2 a3 b d k pa y w, stC E a g, stC E a2 g2, stC E a3 g3, hhC E b hs hg nx ct, diC E d co re, grC E k so gw, prC E pa q F, sbO E y v ml n, baC E v cp t]) (bs2 := fun _ => [loC E ol lo, dbC E od dO, coC E x a a2 a3 b d k pa y w, stC E a g, stC E a2 g2, stC E a3 g3, hhC E b hs hg nx ct, diC E d co re, grC E k so gw, prC E pa q F, sbO E y v ml n, baC E v cp t, moC E mb (upn z 0 (if hasM g p0 = true then 0 else 1)) g gs ar]) rfl (by decide) (fun _ => rfl) (by decide) (fun r u6 H locs hw6 hP hD hS => ?_)
    have hw6 : r = nI ((upn z 0 (if hasM g p0 = true then 0 else 1)) 0) := hw6
    subst hw6
    refine lv_iload hx hb dL_law_1511 (lv_at hl 1 rfl) ?_
    refine lv_icmp_eq (tgt := 1518) hx hb dL_law_1513 (by decide) (fun _ => ?_) (fun hc => absurd (show nI ((upn z 0 (if hasM g p0 = true then 0 else 1)) 0) = nI 1 from congrArg nI (upn_s.trans (if_neg (fun h9 => by rw [hq] at h9; cases h9)))) hc)
    refine lv_iload hx hb dL_law_1518 (lv_at hl 1 rfl) ?_
    refine nv_if_ne (X := ((1 : Nat) : Int)) hx hb (nI_toInt (by omega)) (tgt := 1535) dL_law_1520 (by decide) (fun c_3 => ?_) (fun c_3 => ?_)
    · skip
      refine lv_goto (tgt := 2541) hx hb dL_law_1535 (by decide) ?_
      exact W_widen (by omega) (by omega) (kk w g g2 g3 hg nx ct co re so gw q F v ml n cp t (upn z 0 (if hasM g p0 = true then 0 else 1)) gs ar lo dO _ _ _ (rel_q hR hB4) hP hD hS (lv_sub hl [2, 3, 4, 5, 6, 7] rfl))
    · exact absurd c_3 (by omega)
set_option maxHeartbeats 4000000 in
set_option maxRecDepth 100000 in
theorem st_sharesInFavour {p : Program} {l : Launch} {e : Env} {s : State} {m : MethodId} {args : Array Value} {below : List Frame} {meth : Method} {c : Code} {E : EE} {A : Nat → Prop} {Q : State → Prop} {x a a2 a3 b d k pa y : Nat → Nat} {hs : Nat → Nat → Nat} {mb : Nat → Nat} {ol od sb : Nat} {i B cells slots L : Nat} {xs : Nat → Int32} (C : LCx p l s m args c E A sb L xs) (hL : L ≤ 2560) (hi : i + 5 ≤ L) (hB4 : B + 420 ≤ 300000) (hrc : cells + 13 ≤ 603072 ∧ slots + 414 ≤ 7174250) (kk : LGo p l e s m args below meth c E A Q x a a2 a3 b d k pa y hs mb ol od sb i (B + 420) (cells + 13) (slots + 414) 2541) : LGo p l e s m args below meth c E A Q x a a2 a3 b d k pa y hs mb ol od sb i B cells slots 1538 := by
  obtain ⟨hx, hb, hml, hown, hts, hK, hZ, hDD, hA, hX, hbl, hbA, hst⟩ := C
  intro w g g2 g3 hg nx ct co re so gw q F v ml n cp t z gs ar lo dO H locs ls hR hP hD hS hl
  obtain ⟨hI, ⟨hs1, hs2, hs3⟩, ⟨hnx, hct, hz1, hh9⟩, ⟨hw1, hw2, hz5, hz6⟩, ⟨hq1, hq2, hF0, hF9⟩, ⟨hn1, hn2, hcp, ht9, htx, ho2⟩⟩ := id hR
  have hmc := hI.mc
  obtain ⟨p0, hp0⟩ : ∃ y9, y9 = xs (i + 1) := ⟨_, rfl⟩
  obtain ⟨p1, hp1⟩ : ∃ y9, y9 = xs (i + 2) := ⟨_, rfl⟩
  refine lv_aload_n hx hb dL_law_1538 rfl (lv_at hl 1 rfl) ?_
  refine lv_aload_n hx hb dL_law_1539 rfl (lv_at hl 0 rfl) ?_
  refine lv_iload hx hb dL_law_1540 (lv_at hl 5 rfl) ?_
  refine lv_iconst (v := nI 1) hx hb dL_law_1542 (by decide) ?_
  refine nv_iadd hx hb dL_law_1543 ?_
  refine va_sld hx hb hX hbl hbA hS (vp_in_nI (show i + 1 < L by omega) (by omega)) dL_law_1544 ?_
  refine tp_i (show xs (nI (i + 1)).toNatClampNeg = p0 from by rw [nI_clamp (by omega), hp0]) ?_
  refine lv_aload_n hx hb dL_law_1545 rfl (lv_at hl 0 rfl) ?_
  refine lv_iload hx hb dL_law_1546 (lv_at hl 5 rfl) ?_
  refine lv_iconst (v := nI 2) hx hb dL_law_1548 (by decide) ?_
  refine nv_iadd hx hb dL_law_1549 ?_
  refine va_sld hx hb hX hbl hbA hS (vp_in_nI (show i + 2 < L by omega) (by omega)) dL_law_1550 ?_
  refine tp_i (show xs (nI (i + 2)).toNatClampNeg = p1 from by rw [nI_clamp (by omega), hp1]) ?_
  refine lv_aload_n hx hb dL_law_1551 rfl (lv_at hl 3 rfl) ?_
  refine run_i (S := (Unit × Int32 × (Nat → Int64)) ⊕ Unit) (run_SW (As := [.ref (x 0), .int p0, .int p1, .ref ol]) (rest := []) (bs := [loC E ol lo, dbC E od dO, coC E x a a2 a3 b d k pa y w, stC E a g, stC E a2 g2, stC E a3 g3, hhC E b hs hg nx ct, diC E d co re, grC E k so gw, prC E pa q F, sbO E y v ml n, baC E v cp t, moC E mb z g gs ar]) (cb := [loC E ol lo, coC E x a a2 a3 b d k pa y w, stC E a g]) hx hb hml hown hts hK hZ hDD hA (c_L_sharesInFavour l hst E _ x a a2 a3 b d k pa y w g B hI p0 p1 ol lo) l_L_222 rfl ⟨⟨rfl, rfl⟩, Nat.le_of_ble_eq_true rfl, Nat.le_of_ble_eq_true rfl⟩ [0, 2, 3] rfl (by decide) hP hD hS hl.1 rfl (Nat.le_of_ble_eq_true rfl) dL_law_1552 ⟨by show cells + 1 ≤ 603072; omega, by show slots + 6 ≤ 7174250; omega⟩) hA hP hD hS (isC := [0, 2, 3]) rfl [1, 4, 5, 6, 7, 8, 9, 10, 11, 12] [10, 0, 11, 12, 1, 2, 3, 4, 5, 6, 7, 8, 9] (br := [dbC E od dO, stC E a2 g2, stC E a3 g3, hhC E b hs hg nx ct, diC E d co re, grC E k so gw, prC E pa q F, sbO E y v ml n, baC E v cp t, moC E mb z g gs ar]) (bs2 := fun u => Sum.elim (fun (vq : Unit × Int32 × (Nat → Int64)) => [loC E ol vq.2.2, dbC E od dO, coC E x a a2 a3 b d k pa y w, stC E a g, stC E a2 g2, stC E a3 g3, hhC E b hs hg nx ct, diC E d co re, grC E k so gw, prC E pa q F, sbO E y v ml n, baC E v cp t, moC E mb z g gs ar]) (fun (vq : Unit) => [loC E ol lo, dbC E od dO, coC E x a a2 a3 b d k pa y w, stC E a g, stC E a2 g2, stC E a3 g3, hhC E b hs hg nx ct, diC E d co re, grC E k so gw, prC E pa q F, sbO E y v ml n, baC E v cp t, moC E mb z g gs ar]) u) rfl (by decide) (fun u => by rcases u with u | u <;> rfl) (by decide) (fun r u H locs hw hP hD hS => ?_)
  rcases u with vq | vq
  · skip
    obtain ⟨u9, r9, lo9⟩ := vq
    have hw7 : r = nI 0 ∧ (fMot p0 p1 = 0 ∧ r9 = nI (favN g (tn p0) (tn p1))) ∧ lo9 0 = r9.toInt64 := hw
    clear hw
    obtain ⟨rfl, hw⟩ := hw7
    have hP : va_P E.1 vwCl ([loC E ol lo9, dbC E od dO, coC E x a a2 a3 b d k pa y w, stC E a g, stC E a2 g2, stC E a3 g3, hhC E b hs hg nx ct, diC E d co re, grC E k so gw, prC E pa q F, sbO E y v ml n, baC E v cp t, moC E mb z g gs ar] : List va_W).flatten H := hP
    have hD : va_D A ([loC E ol lo9, dbC E od dO, coC E x a a2 a3 b d k pa y w, stC E a g, stC E a2 g2, stC E a3 g3, hhC E b hs hg nx ct, diC E d co re, grC E k so gw, prC E pa q F, sbO E y v ml n, baC E v cp t, moC E mb z g gs ar] : List va_W).flatten := hD
    obtain ⟨⟨hcnd, hr9⟩, hlo⟩ := hw
    subst hr9
    refine lv_istore (lv' := [(6, .int (nI 0)), (0, .ref sb), (1, .ref (x 0)), (2, .ref (mb 0)), (3, .ref ol), (4, .ref od), (5, .int (nI i))]) hx hb dL_law_1555 hl (by decide) rfl (fun ls hl => ?_)
    refine lv_aload_n hx hb dL_law_1557 rfl (lv_at hl 3 rfl) ?_
    refine lv_aload_n hx hb dL_law_1558 rfl (lv_at hl 1 rfl) ?_
    refine lv_iload hx hb dL_law_1559 (lv_at hl 6 rfl) ?_
    refine lv_iconst (v := nI 1) hx hb dL_law_1561 (by decide) ?_
    refine nv_iadd hx hb dL_law_1562 ?_
    refine va_sld hx hb hX hbl hbA hS (vp_in_nI (show i + 1 < L by omega) (by omega)) dL_law_1563 ?_
    refine tp_i (show xs (nI (i + 1)).toNatClampNeg = p0 from by rw [nI_clamp (by omega), hp0]) ?_
    refine lv_aload_n hx hb dL_law_1564 rfl (lv_at hl 1 rfl) ?_
    refine lv_iload hx hb dL_law_1565 (lv_at hl 6 rfl) ?_
    refine lv_iconst (v := nI 2) hx hb dL_law_1567 (by decide) ?_
    refine nv_iadd hx hb dL_law_1568 ?_
    refine va_sld hx hb hX hbl hbA hS (vp_in_nI (show i + 2 < L by omega) (by omega)) dL_law_1569 ?_
    refine tp_i (show xs (nI (i + 2)).toNatClampNeg = p1 from by rw [nI_clamp (by omega), hp1]) ?_
    refine run_i (S := Unit) (run_V (As := [.int p0, .int p1]) (rest := []) (bs := [loC E ol lo9, dbC E od dO, coC E x a a2 a3 b d k pa y w, stC E a g, stC E a2 g2, stC E a3 g3, hhC E b hs hg nx ct, diC E d co re, grC E k so gw, prC E pa q F, sbO E y v ml n, baC E v cp t, moC E mb z g gs ar]) (cb := [moC E mb z g gs ar]) hx hb hml hown hts hK hZ hA (c_X6_sharesInFavour l E _ mb z g gs ar B hI p0 p1) l_L_224 rfl ⟨⟨rfl, rfl⟩, Nat.le_of_ble_eq_true rfl, Nat.le_of_ble_eq_true rfl⟩ 10 rfl [12] rfl (by decide) rfl hP hD hS hl.1 rfl (Nat.le_of_ble_eq_true rfl) dL_law_1570 ⟨by show (cells + 1) + 0 ≤ 603072; omega, by show (slots + 6) + 0 ≤ 7174250; omega⟩) hA hP hD hS (isC := [12]) rfl [0, 1, 2, 3, 4, 5, 6, 7, 8, 9, 10, 11] [0, 1, 2, 3, 4, 5, 6, 7, 8, 9, 10, 11, 12] (br := [loC E ol lo9, dbC E od dO, coC E x a a2 a3 b d k pa y w, stC E a g, stC E a2 g2, stC E a3 g3, hhC E b hs hg nx ct, diC E d co re, grC E k so gw, prC E pa q F, sbO E y v ml n, baC E v cp t]) (bs2 := fun _ => [loC E ol lo9, dbC E od dO, coC E x a a2 a3 b d k pa y w, stC E a g, stC E a2 g2, stC E a3 g3, hhC E b hs hg nx ct, diC E d co re, grC E k so gw, prC E pa q F, sbO E y v ml n, baC E v cp t, moC E mb (upn z 0 (if fMot p0 p1 = 0 then 0 else 1)) g gs ar]) rfl (by decide) (fun _ => rfl) (by decide) (fun r u6 H locs hw6 hP hD hS => ?_)
    have hw6 : r = nI (if fMot p0 p1 = 0 then favN g (tn p0) (tn p1) else 0) := hw6
    subst hw6
    refine tp_i (show nI (if fMot p0 p1 = 0 then favN g (tn p0) (tn p1) else 0) = nI (favN g (tn p0) (tn p1)) from congrArg nI (if_pos hcnd)) ?_
    refine lv_istore (lv' := [(7, .int (nI (favN g (tn p0) (tn p1)))), (6, .int (nI 0)), (0, .ref sb), (1, .ref (x 0)), (2, .ref (mb 0)), (3, .ref ol), (4, .ref od), (5, .int (nI i))]) hx hb dL_law_1573 hl (by decide) rfl (fun ls hl => ?_)
    refine lv_aload_n hx hb dL_law_1575 rfl (lv_at hl 4 rfl) ?_
    refine run_i (S := Unit) (run_V (As := []) (rest := []) (bs := [loC E ol lo9, dbC E od dO, coC E x a a2 a3 b d k pa y w, stC E a g, stC E a2 g2, stC E a3 g3, hhC E b hs hg nx ct, diC E d co re, grC E k so gw, prC E pa q F, sbO E y v ml n, baC E v cp t, moC E mb (upn z 0 (if fMot p0 p1 = 0 then 0 else 1)) g gs ar]) (cb := [moC E mb (upn z 0 (if fMot p0 p1 = 0 then 0 else 1)) g gs ar]) hx hb hml hown hts hK hZ hA (c_X6_thrown l E _ mb (upn z 0 (if fMot p0 p1 = 0 then 0 else 1)) g gs ar) l_L_152 rfl ⟨⟨rfl, rfl⟩, Nat.le_of_ble_eq_true rfl, Nat.le_of_ble_eq_true rfl⟩ 10 rfl [12] rfl (by decide) rfl hP hD hS hl.1 rfl (Nat.le_of_ble_eq_true rfl) dL_law_1576 ⟨by show ((cells + 1) + 0) + 0 ≤ 603072; omega, by show ((slots + 6) + 0) + 0 ≤ 7174250; omega⟩) hA hP hD hS (isC := [12]) rfl [0, 1, 2, 3, 4, 5, 6, 7, 8, 9, 10, 11] [0, 1, 2, 3, 4, 5, 6, 7, 8, 9, 10, 11, 12] (br := [loC E ol lo9, dbC E od dO, coC E x a a2 a3 b d k pa y w, stC E a g, stC E a2 g2, stC E a3 g3, hhC E b hs hg nx ct, diC E d co re, grC E k so gw, prC E pa q F, sbO E y v ml n, baC E v cp t]) (bs2 := fun _ => [loC E ol lo9, dbC E od dO, coC E x a a2 a3 b d k pa y w, stC E a g, stC E a2 g2, stC E a3 g3, hhC E b hs hg nx ct, diC E d co re, grC E k so gw, prC E pa q F, sbO E y v ml n, baC E v cp t, moC E mb (upn z 0 (if fMot p0 p1 = 0 then 0 else 1)) g gs ar]) rfl (by decide) (fun _ => rfl) (by decide) (fun r u6 H locs hw6 hP hD hS => ?_)
    have hw6 : r = nI ((upn z 0 (if fMot p0 p1 = 0 then 0 else 1)) 0) := hw6
    subst hw6
    refine lv_iload hx hb dL_law_1579 (lv_at hl 1 rfl) ?_
    refine lv_icmp_eq (tgt := 1586) hx hb dL_law_1581 (by decide) (fun _ => ?_) (fun hc => absurd (show nI ((upn z 0 (if fMot p0 p1 = 0 then 0 else 1)) 0) = nI 0 from congrArg nI (upn_s.trans (if_pos hcnd))) hc)
    refine lv_iload hx hb dL_law_1586 (lv_at hl 1 rfl) ?_
    refine nv_if_ne (X := ((0 : Nat) : Int)) hx hb (nI_toInt (by omega)) (tgt := 1603) dL_law_1588 (by decide) (fun c_1 => ?_) (fun c_1 => ?_)
    · exact absurd c_1 (by omega)
    · skip
      refine lv_aload_n hx hb dL_law_1591 rfl (lv_at hl 5 rfl) ?_
      refine lv_iconst (v := nI 0) hx hb dL_law_1592 (by decide) ?_
      refine va_lald hx hb hK hP 0 4 rfl rfl (vp_in_nI (show 0 < 1 by decide) (by decide)) dL_law_1593 ?_
      rw [show lo9 (nI 0).toNatClampNeg = (nI (favN g (tn p0) (tn p1))).toInt64 from by rw [nI_clamp (show 0 < 2 ^ 31 by decide)]; exact hlo]
      refine lv_iload hx hb dL_law_1594 (lv_at hl 0 rfl) ?_
      refine lv_i2l hx hb dL_law_1596 rfl ?_
      refine W.lcmp hx hb dL_law_1597 ?_
      refine tp_i (show lg_cmp ((nI (favN g (tn p0) (tn p1))).toInt64) ((nI (favN g (tn p0) (tn p1))).toInt64) = nI 0 from lg_eq _) ?_
      refine nv_if_eq (X := ((0 : Nat) : Int)) hx hb (nI_toInt (by omega)) (tgt := 1603) dL_law_1598 (by decide) (fun c_2 => ?_) (fun c_2 => ?_)
      · skip
        refine lv_goto (tgt := 2541) hx hb dL_law_1603 (by decide) ?_
        exact W_widen (by omega) (by omega) (kk w g g2 g3 hg nx ct co re so gw q F v ml n cp t (upn z 0 (if fMot p0 p1 = 0 then 0 else 1)) gs ar lo9 dO _ _ _ (rel_q hR hB4) hP hD hS (lv_sub hl [2, 3, 4, 5, 6, 7] rfl))
      · exact absurd c_2 (by omega)
  · skip
    have hw : fMot p0 p1 ≠ 0 ∧ r = nI (fMot p0 p1 - 1) := hw
    have hP : va_P E.1 vwCl ([loC E ol lo, dbC E od dO, coC E x a a2 a3 b d k pa y w, stC E a g, stC E a2 g2, stC E a3 g3, hhC E b hs hg nx ct, diC E d co re, grC E k so gw, prC E pa q F, sbO E y v ml n, baC E v cp t, moC E mb z g gs ar] : List va_W).flatten H := hP
    have hD : va_D A ([loC E ol lo, dbC E od dO, coC E x a a2 a3 b d k pa y w, stC E a g, stC E a2 g2, stC E a3 g3, hhC E b hs hg nx ct, diC E d co re, grC E k so gw, prC E pa q F, sbO E y v ml n, baC E v cp t, moC E mb z g gs ar] : List va_W).flatten := hD
    obtain ⟨hf, rfl⟩ := hw
    have hf4 : fMot p0 p1 ≤ 4 ∧ fMot p0 p1 - 1 ≠ 0 := by rcases (fM_v : fMot p0 p1 = 0 ∨ fMot p0 p1 = 2) with h | h <;> omega
    refine lv_istore (lv' := [(6, .int (nI (fMot p0 p1 - 1))), (0, .ref sb), (1, .ref (x 0)), (2, .ref (mb 0)), (3, .ref ol), (4, .ref od), (5, .int (nI i))]) hx hb dL_law_1555 hl (by decide) rfl (fun ls hl => ?_)
    refine lv_aload_n hx hb dL_law_1557 rfl (lv_at hl 3 rfl) ?_
    refine lv_aload_n hx hb dL_law_1558 rfl (lv_at hl 1 rfl) ?_
    refine lv_iload hx hb dL_law_1559 (lv_at hl 6 rfl) ?_
    refine lv_iconst (v := nI 1) hx hb dL_law_1561 (by decide) ?_
    refine nv_iadd hx hb dL_law_1562 ?_
    refine va_sld hx hb hX hbl hbA hS (vp_in_nI (show i + 1 < L by omega) (by omega)) dL_law_1563 ?_
    refine tp_i (show xs (nI (i + 1)).toNatClampNeg = p0 from by rw [nI_clamp (by omega), hp0]) ?_
    refine lv_aload_n hx hb dL_law_1564 rfl (lv_at hl 1 rfl) ?_
    refine lv_iload hx hb dL_law_1565 (lv_at hl 6 rfl) ?_
    refine lv_iconst (v := nI 2) hx hb dL_law_1567 (by decide) ?_
    refine nv_iadd hx hb dL_law_1568 ?_
    refine va_sld hx hb hX hbl hbA hS (vp_in_nI (show i + 2 < L by omega) (by omega)) dL_law_1569 ?_
    refine tp_i (show xs (nI (i + 2)).toNatClampNeg = p1 from by rw [nI_clamp (by omega), hp1]) ?_
    refine run_i (S := Unit) (run_V (As := [.int p0, .int p1]) (rest := []) (bs := [loC E ol lo, dbC E od dO, coC E x a a2 a3 b d k pa y w, stC E a g, stC E a2 g2, stC E a3 g3, hhC E b hs hg nx ct, diC E d co re, grC E k so gw, prC E pa q F, sbO E y v ml n, baC E v cp t, moC E mb z g gs ar]) (cb := [moC E mb z g gs ar]) hx hb hml hown hts hK hZ hA (c_X6_sharesInFavour l E _ mb z g gs ar B hI p0 p1) l_L_224 rfl ⟨⟨rfl, rfl⟩, Nat.le_of_ble_eq_true rfl, Nat.le_of_ble_eq_true rfl⟩ 10 rfl [12] rfl (by decide) rfl hP hD hS hl.1 rfl (Nat.le_of_ble_eq_true rfl) dL_law_1570 ⟨by show (cells + 1) + 0 ≤ 603072; omega, by show (slots + 6) + 0 ≤ 7174250; omega⟩) hA hP hD hS (isC := [12]) rfl [0, 1, 2, 3, 4, 5, 6, 7, 8, 9, 10, 11] [0, 1, 2, 3, 4, 5, 6, 7, 8, 9, 10, 11, 12] (br := [loC E ol lo, dbC E od dO, coC E x a a2 a3 b d k pa y w, stC E a g, stC E a2 g2, stC E a3 g3, hhC E b hs hg nx ct, diC E d co re, grC E k so gw, prC E pa q F, sbO E y v ml n, baC E v cp t]) (bs2 := fun _ => [loC E ol lo, dbC E od dO, coC E x a a2 a3 b d k pa y w, stC E a g, stC E a2 g2, stC E a3 g3, hhC E b hs hg nx ct, diC E d co re, grC E k so gw, prC E pa q F, sbO E y v ml n, baC E v cp t, moC E mb (upn z 0 (if fMot p0 p1 = 0 then 0 else 1)) g gs ar]) rfl (by decide) (fun _ => rfl) (by decide) (fun r u6 H locs hw6 hP hD hS => ?_)
    have hw6 : r = nI (if fMot p0 p1 = 0 then favN g (tn p0) (tn p1) else 0) := hw6
    subst hw6
    have hf2 : fMot p0 p1 = 2 := fM_v.resolve_left hf
    refine lv_istore (lv' := [(7, .int (nI (if fMot p0 p1 = 0 then favN g (tn p0) (tn p1) else 0))), (6, .int (nI (fMot p0 p1 - 1))), (0, .ref sb), (1, .ref (x 0)), (2, .ref (mb 0)), (3, .ref ol), (4, .ref od), (5, .int (nI i))]) hx hb dL_law_1573 hl (by decide) rfl (fun ls hl => ?_)
    refine lv_aload_n hx hb dL_law_1575 rfl (lv_at hl 4 rfl) ?_
    refine run_i (S := Unit) (run_V (As := []) (rest := []) (bs := [loC E ol lo, dbC E od dO, coC E x a a2 a3 b d k pa y w, stC E a g, stC E a2 g2, stC E a3 g3, hhC E b hs hg nx ct, diC E d co re, grC E k so gw, prC E pa q F, sbO E y v ml n, baC E v cp t, moC E mb (upn z 0 (if fMot p0 p1 = 0 then 0 else 1)) g gs ar]) (cb := [moC E mb (upn z 0 (if fMot p0 p1 = 0 then 0 else 1)) g gs ar]) hx hb hml hown hts hK hZ hA (c_X6_thrown l E _ mb (upn z 0 (if fMot p0 p1 = 0 then 0 else 1)) g gs ar) l_L_152 rfl ⟨⟨rfl, rfl⟩, Nat.le_of_ble_eq_true rfl, Nat.le_of_ble_eq_true rfl⟩ 10 rfl [12] rfl (by decide) rfl hP hD hS hl.1 rfl (Nat.le_of_ble_eq_true rfl) dL_law_1576 ⟨by show ((cells + 1) + 0) + 0 ≤ 603072; omega, by show ((slots + 6) + 0) + 0 ≤ 7174250; omega⟩) hA hP hD hS (isC := [12]) rfl [0, 1, 2, 3, 4, 5, 6, 7, 8, 9, 10, 11] [0, 1, 2, 3, 4, 5, 6, 7, 8, 9, 10, 11, 12] (br := [loC E ol lo, dbC E od dO, coC E x a a2 a3 b d k pa y w, stC E a g, stC E a2 g2, stC E a3 g3, hhC E b hs hg nx ct, diC E d co re, grC E k so gw, prC E pa q F, sbO E y v ml n, baC E v cp t]) (bs2 := fun _ => [loC E ol lo, dbC E od dO, coC E x a a2 a3 b d k pa y w, stC E a g, stC E a2 g2, stC E a3 g3, hhC E b hs hg nx ct, diC E d co re, grC E k so gw, prC E pa q F, sbO E y v ml n, baC E v cp t, moC E mb (upn z 0 (if fMot p0 p1 = 0 then 0 else 1)) g gs ar]) rfl (by decide) (fun _ => rfl) (by decide) (fun r u6 H locs hw6 hP hD hS => ?_)
    have hw6 : r = nI ((upn z 0 (if fMot p0 p1 = 0 then 0 else 1)) 0) := hw6
    subst hw6
    refine lv_iload hx hb dL_law_1579 (lv_at hl 1 rfl) ?_
    refine lv_icmp_eq (tgt := 1586) hx hb dL_law_1581 (by decide) (fun _ => ?_) (fun hc => absurd (show nI ((upn z 0 (if fMot p0 p1 = 0 then 0 else 1)) 0) = nI (fMot p0 p1 - 1) from congrArg nI (upn_s.trans ((if_neg hf).trans (by omega)))) hc)
    refine lv_iload hx hb dL_law_1586 (lv_at hl 1 rfl) ?_
    refine nv_if_ne (X := ((fMot p0 p1 - 1 : Nat) : Int)) hx hb (nI_toInt (by omega)) (tgt := 1603) dL_law_1588 (by decide) (fun c_3 => ?_) (fun c_3 => ?_)
    · skip
      refine lv_goto (tgt := 2541) hx hb dL_law_1603 (by decide) ?_
      exact W_widen (by omega) (by omega) (kk w g g2 g3 hg nx ct co re so gw q F v ml n cp t (upn z 0 (if fMot p0 p1 = 0 then 0 else 1)) gs ar lo dO _ _ _ (rel_q hR hB4) hP hD hS (lv_sub hl [2, 3, 4, 5, 6, 7] rfl))
    · exact absurd c_3 (by omega)
set_option maxHeartbeats 4000000 in
set_option maxRecDepth 100000 in
theorem st_carriedTone {p : Program} {l : Launch} {e : Env} {s : State} {m : MethodId} {args : Array Value} {below : List Frame} {meth : Method} {c : Code} {E : EE} {A : Nat → Prop} {Q : State → Prop} {x a a2 a3 b d k pa y : Nat → Nat} {hs : Nat → Nat → Nat} {mb : Nat → Nat} {ol od sb : Nat} {i B cells slots L : Nat} {xs : Nat → Int32} (C : LCx p l s m args c E A sb L xs) (hL : L ≤ 2560) (hi : i + 5 ≤ L) (hB4 : B + 420 ≤ 300000) (hrc : cells + 13 ≤ 603072 ∧ slots + 414 ≤ 7174250) (kk : LGo p l e s m args below meth c E A Q x a a2 a3 b d k pa y hs mb ol od sb i (B + 420) (cells + 13) (slots + 414) 2541) : LGo p l e s m args below meth c E A Q x a a2 a3 b d k pa y hs mb ol od sb i B cells slots 1606 := by
  obtain ⟨hx, hb, hml, hown, hts, hK, hZ, hDD, hA, hX, hbl, hbA, hst⟩ := C
  intro w g g2 g3 hg nx ct co re so gw q F v ml n cp t z gs ar lo dO H locs ls hR hP hD hS hl
  obtain ⟨hI, ⟨hs1, hs2, hs3⟩, ⟨hnx, hct, hz1, hh9⟩, ⟨hw1, hw2, hz5, hz6⟩, ⟨hq1, hq2, hF0, hF9⟩, ⟨hn1, hn2, hcp, ht9, htx, ho2⟩⟩ := id hR
  have hmc := hI.mc
  obtain ⟨p0, hp0⟩ : ∃ y9, y9 = xs (i + 1) := ⟨_, rfl⟩
  refine lv_aload_n hx hb dL_law_1606 rfl (lv_at hl 1 rfl) ?_
  refine lv_aload_n hx hb dL_law_1607 rfl (lv_at hl 0 rfl) ?_
  refine lv_iload hx hb dL_law_1608 (lv_at hl 5 rfl) ?_
  refine lv_iconst (v := nI 1) hx hb dL_law_1610 (by decide) ?_
  refine nv_iadd hx hb dL_law_1611 ?_
  refine va_sld hx hb hX hbl hbA hS (vp_in_nI (show i + 1 < L by omega) (by omega)) dL_law_1612 ?_
  refine tp_i (show xs (nI (i + 1)).toNatClampNeg = p0 from by rw [nI_clamp (by omega), hp0]) ?_
  refine lv_aload_n hx hb dL_law_1613 rfl (lv_at hl 3 rfl) ?_
  refine run_i (S := (Unit × Int32 × (Nat → Int64)) ⊕ Unit) (run_SW (As := [.ref (x 0), .int p0, .ref ol]) (rest := []) (bs := [loC E ol lo, dbC E od dO, coC E x a a2 a3 b d k pa y w, stC E a g, stC E a2 g2, stC E a3 g3, hhC E b hs hg nx ct, diC E d co re, grC E k so gw, prC E pa q F, sbO E y v ml n, baC E v cp t, moC E mb z g gs ar]) (cb := [loC E ol lo, coC E x a a2 a3 b d k pa y w, stC E a g]) hx hb hml hown hts hK hZ hDD hA (c_L_carriedTone l hst E _ x a a2 a3 b d k pa y w g B hI p0 ol lo) l_L_225 rfl ⟨⟨rfl, rfl⟩, Nat.le_of_ble_eq_true rfl, Nat.le_of_ble_eq_true rfl⟩ [0, 2, 3] rfl (by decide) hP hD hS hl.1 rfl (Nat.le_of_ble_eq_true rfl) dL_law_1614 ⟨by show cells + 2 ≤ 603072; omega, by show slots + 12 ≤ 7174250; omega⟩) hA hP hD hS (isC := [0, 2, 3]) rfl [1, 4, 5, 6, 7, 8, 9, 10, 11, 12] [10, 0, 11, 12, 1, 2, 3, 4, 5, 6, 7, 8, 9] (br := [dbC E od dO, stC E a2 g2, stC E a3 g3, hhC E b hs hg nx ct, diC E d co re, grC E k so gw, prC E pa q F, sbO E y v ml n, baC E v cp t, moC E mb z g gs ar]) (bs2 := fun u => Sum.elim (fun (vq : Unit × Int32 × (Nat → Int64)) => [loC E ol vq.2.2, dbC E od dO, coC E x a a2 a3 b d k pa y w, stC E a g, stC E a2 g2, stC E a3 g3, hhC E b hs hg nx ct, diC E d co re, grC E k so gw, prC E pa q F, sbO E y v ml n, baC E v cp t, moC E mb z g gs ar]) (fun (vq : Unit) => [loC E ol lo, dbC E od dO, coC E x a a2 a3 b d k pa y w, stC E a g, stC E a2 g2, stC E a3 g3, hhC E b hs hg nx ct, diC E d co re, grC E k so gw, prC E pa q F, sbO E y v ml n, baC E v cp t, moC E mb z g gs ar]) u) rfl (by decide) (fun u => by rcases u with u | u <;> rfl) (by decide) (fun r u H locs hw hP hD hS => ?_)
  rcases u with vq | vq
  · skip
    obtain ⟨u9, r9, lo9⟩ := vq
    have hw7 : r = nI 0 ∧ (((0 ≤ p0.toInt ∧ p0.toInt ≤ 6) ∧ fst1 (fun t => decide (quo g ≤ favN g t (tn p0))) 12 < 12) ∧ r9 = nI (fst1 (fun t => decide (quo g ≤ favN g t (tn p0))) 12)) ∧ lo9 0 = r9.toInt64 := hw
    clear hw
    obtain ⟨rfl, hw⟩ := hw7
    have hP : va_P E.1 vwCl ([loC E ol lo9, dbC E od dO, coC E x a a2 a3 b d k pa y w, stC E a g, stC E a2 g2, stC E a3 g3, hhC E b hs hg nx ct, diC E d co re, grC E k so gw, prC E pa q F, sbO E y v ml n, baC E v cp t, moC E mb z g gs ar] : List va_W).flatten H := hP
    have hD : va_D A ([loC E ol lo9, dbC E od dO, coC E x a a2 a3 b d k pa y w, stC E a g, stC E a2 g2, stC E a3 g3, hhC E b hs hg nx ct, diC E d co re, grC E k so gw, prC E pa q F, sbO E y v ml n, baC E v cp t, moC E mb z g gs ar] : List va_W).flatten := hD
    obtain ⟨⟨hcnd, hr9⟩, hlo⟩ := hw
    subst hr9
    refine lv_istore (lv' := [(6, .int (nI 0)), (0, .ref sb), (1, .ref (x 0)), (2, .ref (mb 0)), (3, .ref ol), (4, .ref od), (5, .int (nI i))]) hx hb dL_law_1617 hl (by decide) rfl (fun ls hl => ?_)
    refine lv_aload_n hx hb dL_law_1619 rfl (lv_at hl 3 rfl) ?_
    refine lv_aload_n hx hb dL_law_1620 rfl (lv_at hl 1 rfl) ?_
    refine lv_iload hx hb dL_law_1621 (lv_at hl 6 rfl) ?_
    refine lv_iconst (v := nI 1) hx hb dL_law_1623 (by decide) ?_
    refine nv_iadd hx hb dL_law_1624 ?_
    refine va_sld hx hb hX hbl hbA hS (vp_in_nI (show i + 1 < L by omega) (by omega)) dL_law_1625 ?_
    refine tp_i (show xs (nI (i + 1)).toNatClampNeg = p0 from by rw [nI_clamp (by omega), hp0]) ?_
    refine run_i (S := Unit) (run_V (As := [.int p0]) (rest := []) (bs := [loC E ol lo9, dbC E od dO, coC E x a a2 a3 b d k pa y w, stC E a g, stC E a2 g2, stC E a3 g3, hhC E b hs hg nx ct, diC E d co re, grC E k so gw, prC E pa q F, sbO E y v ml n, baC E v cp t, moC E mb z g gs ar]) (cb := [moC E mb z g gs ar]) hx hb hml hown hts hK hZ hA (c_X6_carriedTone l E _ mb z g gs ar B hI p0) l_L_227 rfl ⟨⟨rfl, rfl⟩, Nat.le_of_ble_eq_true rfl, Nat.le_of_ble_eq_true rfl⟩ 10 rfl [12] rfl (by decide) rfl hP hD hS hl.1 rfl (Nat.le_of_ble_eq_true rfl) dL_law_1626 ⟨by show (cells + 2) + 0 ≤ 603072; omega, by show (slots + 12) + 0 ≤ 7174250; omega⟩) hA hP hD hS (isC := [12]) rfl [0, 1, 2, 3, 4, 5, 6, 7, 8, 9, 10, 11] [0, 1, 2, 3, 4, 5, 6, 7, 8, 9, 10, 11, 12] (br := [loC E ol lo9, dbC E od dO, coC E x a a2 a3 b d k pa y w, stC E a g, stC E a2 g2, stC E a3 g3, hhC E b hs hg nx ct, diC E d co re, grC E k so gw, prC E pa q F, sbO E y v ml n, baC E v cp t]) (bs2 := fun _ => [loC E ol lo9, dbC E od dO, coC E x a a2 a3 b d k pa y w, stC E a g, stC E a2 g2, stC E a3 g3, hhC E b hs hg nx ct, diC E d co re, grC E k so gw, prC E pa q F, sbO E y v ml n, baC E v cp t, moC E mb (upn z 0 (if 0 ≤ p0.toInt ∧ p0.toInt ≤ 6 then (if fst1 (fun t => decide (quo g ≤ favN g t (tn p0))) 12 < 12 then 0 else 2) else 1)) g gs ar]) rfl (by decide) (fun _ => rfl) (by decide) (fun r u6 H locs hw6 hP hD hS => ?_)
    have hw6 : r = nI (if (0 ≤ p0.toInt ∧ p0.toInt ≤ 6) ∧ fst1 (fun t => decide (quo g ≤ favN g t (tn p0))) 12 < 12 then fst1 (fun t => decide (quo g ≤ favN g t (tn p0))) 12 else 0) := hw6
    subst hw6
    refine tp_i (show nI (if (0 ≤ p0.toInt ∧ p0.toInt ≤ 6) ∧ fst1 (fun t => decide (quo g ≤ favN g t (tn p0))) 12 < 12 then fst1 (fun t => decide (quo g ≤ favN g t (tn p0))) 12 else 0) = nI (fst1 (fun t => decide (quo g ≤ favN g t (tn p0))) 12) from congrArg nI (if_pos hcnd)) ?_
    refine lv_istore (lv' := [(7, .int (nI (fst1 (fun t => decide (quo g ≤ favN g t (tn p0))) 12))), (6, .int (nI 0)), (0, .ref sb), (1, .ref (x 0)), (2, .ref (mb 0)), (3, .ref ol), (4, .ref od), (5, .int (nI i))]) hx hb dL_law_1629 hl (by decide) rfl (fun ls hl => ?_)
    refine lv_aload_n hx hb dL_law_1631 rfl (lv_at hl 4 rfl) ?_
    refine run_i (S := Unit) (run_V (As := []) (rest := []) (bs := [loC E ol lo9, dbC E od dO, coC E x a a2 a3 b d k pa y w, stC E a g, stC E a2 g2, stC E a3 g3, hhC E b hs hg nx ct, diC E d co re, grC E k so gw, prC E pa q F, sbO E y v ml n, baC E v cp t, moC E mb (upn z 0 (if 0 ≤ p0.toInt ∧ p0.toInt ≤ 6 then (if fst1 (fun t => decide (quo g ≤ favN g t (tn p0))) 12 < 12 then 0 else 2) else 1)) g gs ar]) (cb := [moC E mb (upn z 0 (if 0 ≤ p0.toInt ∧ p0.toInt ≤ 6 then (if fst1 (fun t => decide (quo g ≤ favN g t (tn p0))) 12 < 12 then 0 else 2) else 1)) g gs ar]) hx hb hml hown hts hK hZ hA (c_X6_thrown l E _ mb (upn z 0 (if 0 ≤ p0.toInt ∧ p0.toInt ≤ 6 then (if fst1 (fun t => decide (quo g ≤ favN g t (tn p0))) 12 < 12 then 0 else 2) else 1)) g gs ar) l_L_152 rfl ⟨⟨rfl, rfl⟩, Nat.le_of_ble_eq_true rfl, Nat.le_of_ble_eq_true rfl⟩ 10 rfl [12] rfl (by decide) rfl hP hD hS hl.1 rfl (Nat.le_of_ble_eq_true rfl) dL_law_1632 ⟨by show ((cells + 2) + 0) + 0 ≤ 603072; omega, by show ((slots + 12) + 0) + 0 ≤ 7174250; omega⟩) hA hP hD hS (isC := [12]) rfl [0, 1, 2, 3, 4, 5, 6, 7, 8, 9, 10, 11] [0, 1, 2, 3, 4, 5, 6, 7, 8, 9, 10, 11, 12] (br := [loC E ol lo9, dbC E od dO, coC E x a a2 a3 b d k pa y w, stC E a g, stC E a2 g2, stC E a3 g3, hhC E b hs hg nx ct, diC E d co re, grC E k so gw, prC E pa q F, sbO E y v ml n, baC E v cp t]) (bs2 := fun _ => [loC E ol lo9, dbC E od dO, coC E x a a2 a3 b d k pa y w, stC E a g, stC E a2 g2, stC E a3 g3, hhC E b hs hg nx ct, diC E d co re, grC E k so gw, prC E pa q F, sbO E y v ml n, baC E v cp t, moC E mb (upn z 0 (if 0 ≤ p0.toInt ∧ p0.toInt ≤ 6 then (if fst1 (fun t => decide (quo g ≤ favN g t (tn p0))) 12 < 12 then 0 else 2) else 1)) g gs ar]) rfl (by decide) (fun _ => rfl) (by decide) (fun r u6 H locs hw6 hP hD hS => ?_)
    have hw6 : r = nI ((upn z 0 (if 0 ≤ p0.toInt ∧ p0.toInt ≤ 6 then (if fst1 (fun t => decide (quo g ≤ favN g t (tn p0))) 12 < 12 then 0 else 2) else 1)) 0) := hw6
    subst hw6
    refine lv_iload hx hb dL_law_1635 (lv_at hl 1 rfl) ?_
    refine lv_icmp_eq (tgt := 1642) hx hb dL_law_1637 (by decide) (fun _ => ?_) (fun hc => absurd (show nI ((upn z 0 (if 0 ≤ p0.toInt ∧ p0.toInt ≤ 6 then (if fst1 (fun t => decide (quo g ≤ favN g t (tn p0))) 12 < 12 then 0 else 2) else 1)) 0) = nI 0 from congrArg nI (upn_s.trans ((if_pos hcnd.1).trans (if_pos hcnd.2)))) hc)
    refine lv_iload hx hb dL_law_1642 (lv_at hl 1 rfl) ?_
    refine nv_if_ne (X := ((0 : Nat) : Int)) hx hb (nI_toInt (by omega)) (tgt := 1659) dL_law_1644 (by decide) (fun c_1 => ?_) (fun c_1 => ?_)
    · exact absurd c_1 (by omega)
    · skip
      refine lv_aload_n hx hb dL_law_1647 rfl (lv_at hl 5 rfl) ?_
      refine lv_iconst (v := nI 0) hx hb dL_law_1648 (by decide) ?_
      refine va_lald hx hb hK hP 0 4 rfl rfl (vp_in_nI (show 0 < 1 by decide) (by decide)) dL_law_1649 ?_
      rw [show lo9 (nI 0).toNatClampNeg = (nI (fst1 (fun t => decide (quo g ≤ favN g t (tn p0))) 12)).toInt64 from by rw [nI_clamp (show 0 < 2 ^ 31 by decide)]; exact hlo]
      refine lv_iload hx hb dL_law_1650 (lv_at hl 0 rfl) ?_
      refine lv_i2l hx hb dL_law_1652 rfl ?_
      refine W.lcmp hx hb dL_law_1653 ?_
      refine tp_i (show lg_cmp ((nI (fst1 (fun t => decide (quo g ≤ favN g t (tn p0))) 12)).toInt64) ((nI (fst1 (fun t => decide (quo g ≤ favN g t (tn p0))) 12)).toInt64) = nI 0 from lg_eq _) ?_
      refine nv_if_eq (X := ((0 : Nat) : Int)) hx hb (nI_toInt (by omega)) (tgt := 1659) dL_law_1654 (by decide) (fun c_2 => ?_) (fun c_2 => ?_)
      · skip
        refine lv_goto (tgt := 2541) hx hb dL_law_1659 (by decide) ?_
        exact W_widen (by omega) (by omega) (kk w g g2 g3 hg nx ct co re so gw q F v ml n cp t (upn z 0 (if 0 ≤ p0.toInt ∧ p0.toInt ≤ 6 then (if fst1 (fun t => decide (quo g ≤ favN g t (tn p0))) 12 < 12 then 0 else 2) else 1)) gs ar lo9 dO _ _ _ (rel_q hR hB4) hP hD hS (lv_sub hl [2, 3, 4, 5, 6, 7] rfl))
      · exact absurd c_2 (by omega)
  · skip
    have hw : (r = nI 1 ∧ ¬ (0 ≤ p0.toInt ∧ p0.toInt ≤ 6)) ∨ (r = nI 2 ∧ (0 ≤ p0.toInt ∧ p0.toInt ≤ 6) ∧ ¬ fst1 (fun t => decide (quo g ≤ favN g t (tn p0))) 12 < 12) := hw
    have hP : va_P E.1 vwCl ([loC E ol lo, dbC E od dO, coC E x a a2 a3 b d k pa y w, stC E a g, stC E a2 g2, stC E a3 g3, hhC E b hs hg nx ct, diC E d co re, grC E k so gw, prC E pa q F, sbO E y v ml n, baC E v cp t, moC E mb z g gs ar] : List va_W).flatten H := hP
    have hD : va_D A ([loC E ol lo, dbC E od dO, coC E x a a2 a3 b d k pa y w, stC E a g, stC E a2 g2, stC E a3 g3, hhC E b hs hg nx ct, diC E d co re, grC E k so gw, prC E pa q F, sbO E y v ml n, baC E v cp t, moC E mb z g gs ar] : List va_W).flatten := hD
    rcases hw with ⟨rfl, hq⟩ | ⟨rfl, hq⟩
    · skip
      refine lv_istore (lv' := [(6, .int (nI 1)), (0, .ref sb), (1, .ref (x 0)), (2, .ref (mb 0)), (3, .ref ol), (4, .ref od), (5, .int (nI i))]) hx hb dL_law_1617 hl (by decide) rfl (fun ls hl => ?_)
      refine lv_aload_n hx hb dL_law_1619 rfl (lv_at hl 3 rfl) ?_
      refine lv_aload_n hx hb dL_law_1620 rfl (lv_at hl 1 rfl) ?_
      refine lv_iload hx hb dL_law_1621 (lv_at hl 6 rfl) ?_
      refine lv_iconst (v := nI 1) hx hb dL_law_1623 (by decide) ?_
      refine nv_iadd hx hb dL_law_1624 ?_
      refine va_sld hx hb hX hbl hbA hS (vp_in_nI (show i + 1 < L by omega) (by omega)) dL_law_1625 ?_
      refine tp_i (show xs (nI (i + 1)).toNatClampNeg = p0 from by rw [nI_clamp (by omega), hp0]) ?_
      refine run_i (S := Unit) (run_V (As := [.int p0]) (rest := []) (bs := [loC E ol lo, dbC E od dO, coC E x a a2 a3 b d k pa y w, stC E a g, stC E a2 g2, stC E a3 g3, hhC E b hs hg nx ct, diC E d co re, grC E k so gw, prC E pa q F, sbO E y v ml n, baC E v cp t, moC E mb z g gs ar]) (cb := [moC E mb z g gs ar]) hx hb hml hown hts hK hZ hA (c_X6_carriedTone l E _ mb z g gs ar B hI p0) l_L_227 rfl ⟨⟨rfl, rfl⟩, Nat.le_of_ble_eq_true rfl, Nat.le_of_ble_eq_true rfl⟩ 10 rfl [12] rfl (by decide) rfl hP hD hS hl.1 rfl (Nat.le_of_ble_eq_true rfl) dL_law_1626 ⟨by show (cells + 2) + 0 ≤ 603072; omega, by show (slots + 12) + 0 ≤ 7174250; omega⟩) hA hP hD hS (isC := [12]) rfl [0, 1, 2, 3, 4, 5, 6, 7, 8, 9, 10, 11] [0, 1, 2, 3, 4, 5, 6, 7, 8, 9, 10, 11, 12] (br := [loC E ol lo, dbC E od dO, coC E x a a2 a3 b d k pa y w, stC E a g, stC E a2 g2, stC E a3 g3, hhC E b hs hg nx ct, diC E d co re, grC E k so gw, prC E pa q F, sbO E y v ml n, baC E v cp t]) (bs2 := fun _ => [loC E ol lo, dbC E od dO, coC E x a a2 a3 b d k pa y w, stC E a g, stC E a2 g2, stC E a3 g3, hhC E b hs hg nx ct, diC E d co re, grC E k so gw, prC E pa q F, sbO E y v ml n, baC E v cp t, moC E mb (upn z 0 (if 0 ≤ p0.toInt ∧ p0.toInt ≤ 6 then (if fst1 (fun t => decide (quo g ≤ favN g t (tn p0))) 12 < 12 then 0 else 2) else 1)) g gs ar]) rfl (by decide) (fun _ => rfl) (by decide) (fun r u6 H locs hw6 hP hD hS => ?_)
      have hw6 : r = nI (if (0 ≤ p0.toInt ∧ p0.toInt ≤ 6) ∧ fst1 (fun t => decide (quo g ≤ favN g t (tn p0))) 12 < 12 then fst1 (fun t => decide (quo g ≤ favN g t (tn p0))) 12 else 0) := hw6
      subst hw6
      refine lv_istore (lv' := [(7, .int (nI (if (0 ≤ p0.toInt ∧ p0.toInt ≤ 6) ∧ fst1 (fun t => decide (quo g ≤ favN g t (tn p0))) 12 < 12 then fst1 (fun t => decide (quo g ≤ favN g t (tn p0))) 12 else 0))), (6, .int (nI 1)), (0, .ref sb), (1, .ref (x 0)), (2, .ref (mb 0)), (3, .ref ol), (4, .ref od), (5, .int (nI i))]) hx hb dL_law_1629 hl (by decide) rfl (fun ls hl => ?_)
      refine lv_aload_n hx hb dL_law_1631 rfl (lv_at hl 4 rfl) ?_
      refine run_i (S := Unit) (run_V (As := []) (rest := []) (bs := [loC E ol lo, dbC E od dO, coC E x a a2 a3 b d k pa y w, stC E a g, stC E a2 g2, stC E a3 g3, hhC E b hs hg nx ct, diC E d co re, grC E k so gw, prC E pa q F, sbO E y v ml n, baC E v cp t, moC E mb (upn z 0 (if 0 ≤ p0.toInt ∧ p0.toInt ≤ 6 then (if fst1 (fun t => decide (quo g ≤ favN g t (tn p0))) 12 < 12 then 0 else 2) else 1)) g gs ar]) (cb := [moC E mb (upn z 0 (if 0 ≤ p0.toInt ∧ p0.toInt ≤ 6 then (if fst1 (fun t => decide (quo g ≤ favN g t (tn p0))) 12 < 12 then 0 else 2) else 1)) g gs ar]) hx hb hml hown hts hK hZ hA (c_X6_thrown l E _ mb (upn z 0 (if 0 ≤ p0.toInt ∧ p0.toInt ≤ 6 then (if fst1 (fun t => decide (quo g ≤ favN g t (tn p0))) 12 < 12 then 0 else 2) else 1)) g gs ar) l_L_152 rfl ⟨⟨rfl, rfl⟩, Nat.le_of_ble_eq_true rfl, Nat.le_of_ble_eq_true rfl⟩ 10 rfl [12] rfl (by decide) rfl hP hD hS hl.1 rfl (Nat.le_of_ble_eq_true rfl) dL_law_1632 ⟨by show ((cells + 2) + 0) + 0 ≤ 603072; omega, by show ((slots + 12) + 0) + 0 ≤ 7174250; omega⟩) hA hP hD hS (isC := [12]) rfl [0, 1, 2, 3, 4, 5, 6, 7, 8, 9, 10, 11] [0, 1, 2, 3, 4, 5, 6, 7, 8, 9, 10, 11, 12] (br := [loC E ol lo, dbC E od dO, coC E x a a2 a3 b d k pa y w, stC E a g, stC E a2 g2, stC E a3 g3, hhC E b hs hg nx ct, diC E d co re, grC E k so gw, prC E pa q F, sbO E y v ml n, baC E v cp t]) (bs2 := fun _ => [loC E ol lo, dbC E od dO, coC E x a a2 a3 b d k pa y w, stC E a g, stC E a2 g2, stC E a3 g3, hhC E b hs hg nx ct, diC E d co re, grC E k so gw, prC E pa q F, sbO E y v ml n, baC E v cp t, moC E mb (upn z 0 (if 0 ≤ p0.toInt ∧ p0.toInt ≤ 6 then (if fst1 (fun t => decide (quo g ≤ favN g t (tn p0))) 12 < 12 then 0 else 2) else 1)) g gs ar]) rfl (by decide) (fun _ => rfl) (by decide) (fun r u6 H locs hw6 hP hD hS => ?_)
      have hw6 : r = nI ((upn z 0 (if 0 ≤ p0.toInt ∧ p0.toInt ≤ 6 then (if fst1 (fun t => decide (quo g ≤ favN g t (tn p0))) 12 < 12 then 0 else 2) else 1)) 0) := hw6
      subst hw6
      refine lv_iload hx hb dL_law_1635 (lv_at hl 1 rfl) ?_
      refine lv_icmp_eq (tgt := 1642) hx hb dL_law_1637 (by decide) (fun _ => ?_) (fun hc => absurd (show nI ((upn z 0 (if 0 ≤ p0.toInt ∧ p0.toInt ≤ 6 then (if fst1 (fun t => decide (quo g ≤ favN g t (tn p0))) 12 < 12 then 0 else 2) else 1)) 0) = nI 1 from congrArg nI (upn_s.trans (if_neg hq))) hc)
      refine lv_iload hx hb dL_law_1642 (lv_at hl 1 rfl) ?_
      refine nv_if_ne (X := ((1 : Nat) : Int)) hx hb (nI_toInt (by omega)) (tgt := 1659) dL_law_1644 (by decide) (fun c_3 => ?_) (fun c_3 => ?_)
      · skip
        refine lv_goto (tgt := 2541) hx hb dL_law_1659 (by decide) ?_
        exact W_widen (by omega) (by omega) (kk w g g2 g3 hg nx ct co re so gw q F v ml n cp t (upn z 0 (if 0 ≤ p0.toInt ∧ p0.toInt ≤ 6 then (if fst1 (fun t => decide (quo g ≤ favN g t (tn p0))) 12 < 12 then 0 else 2) else 1)) gs ar lo dO _ _ _ (rel_q hR hB4) hP hD hS (lv_sub hl [2, 3, 4, 5, 6, 7] rfl))
      · exact absurd c_3 (by omega)
    · skip
      refine lv_istore (lv' := [(6, .int (nI 2)), (0, .ref sb), (1, .ref (x 0)), (2, .ref (mb 0)), (3, .ref ol), (4, .ref od), (5, .int (nI i))]) hx hb dL_law_1617 hl (by decide) rfl (fun ls hl => ?_)
      refine lv_aload_n hx hb dL_law_1619 rfl (lv_at hl 3 rfl) ?_
      refine lv_aload_n hx hb dL_law_1620 rfl (lv_at hl 1 rfl) ?_
      refine lv_iload hx hb dL_law_1621 (lv_at hl 6 rfl) ?_
      refine lv_iconst (v := nI 1) hx hb dL_law_1623 (by decide) ?_
      refine nv_iadd hx hb dL_law_1624 ?_
      refine va_sld hx hb hX hbl hbA hS (vp_in_nI (show i + 1 < L by omega) (by omega)) dL_law_1625 ?_
      refine tp_i (show xs (nI (i + 1)).toNatClampNeg = p0 from by rw [nI_clamp (by omega), hp0]) ?_
      refine run_i (S := Unit) (run_V (As := [.int p0]) (rest := []) (bs := [loC E ol lo, dbC E od dO, coC E x a a2 a3 b d k pa y w, stC E a g, stC E a2 g2, stC E a3 g3, hhC E b hs hg nx ct, diC E d co re, grC E k so gw, prC E pa q F, sbO E y v ml n, baC E v cp t, moC E mb z g gs ar]) (cb := [moC E mb z g gs ar]) hx hb hml hown hts hK hZ hA (c_X6_carriedTone l E _ mb z g gs ar B hI p0) l_L_227 rfl ⟨⟨rfl, rfl⟩, Nat.le_of_ble_eq_true rfl, Nat.le_of_ble_eq_true rfl⟩ 10 rfl [12] rfl (by decide) rfl hP hD hS hl.1 rfl (Nat.le_of_ble_eq_true rfl) dL_law_1626 ⟨by show (cells + 2) + 0 ≤ 603072; omega, by show (slots + 12) + 0 ≤ 7174250; omega⟩) hA hP hD hS (isC := [12]) rfl [0, 1, 2, 3, 4, 5, 6, 7, 8, 9, 10, 11] [0, 1, 2, 3, 4, 5, 6, 7, 8, 9, 10, 11, 12] (br := [loC E ol lo, dbC E od dO, coC E x a a2 a3 b d k pa y w, stC E a g, stC E a2 g2, stC E a3 g3, hhC E b hs hg nx ct, diC E d co re, grC E k so gw, prC E pa q F, sbO E y v ml n, baC E v cp t]) (bs2 := fun _ => [loC E ol lo, dbC E od dO, coC E x a a2 a3 b d k pa y w, stC E a g, stC E a2 g2, stC E a3 g3, hhC E b hs hg nx ct, diC E d co re, grC E k so gw, prC E pa q F, sbO E y v ml n, baC E v cp t, moC E mb (upn z 0 (if 0 ≤ p0.toInt ∧ p0.toInt ≤ 6 then (if fst1 (fun t => decide (quo g ≤ favN g t (tn p0))) 12 < 12 then 0 else 2) else 1)) g gs ar]) rfl (by decide) (fun _ => rfl) (by decide) (fun r u6 H locs hw6 hP hD hS => ?_)
      have hw6 : r = nI (if (0 ≤ p0.toInt ∧ p0.toInt ≤ 6) ∧ fst1 (fun t => decide (quo g ≤ favN g t (tn p0))) 12 < 12 then fst1 (fun t => decide (quo g ≤ favN g t (tn p0))) 12 else 0) := hw6
      subst hw6
      refine lv_istore (lv' := [(7, .int (nI (if (0 ≤ p0.toInt ∧ p0.toInt ≤ 6) ∧ fst1 (fun t => decide (quo g ≤ favN g t (tn p0))) 12 < 12 then fst1 (fun t => decide (quo g ≤ favN g t (tn p0))) 12 else 0))), (6, .int (nI 2)), (0, .ref sb), (1, .ref (x 0)), (2, .ref (mb 0)), (3, .ref ol), (4, .ref od), (5, .int (nI i))]) hx hb dL_law_1629 hl (by decide) rfl (fun ls hl => ?_)
      refine lv_aload_n hx hb dL_law_1631 rfl (lv_at hl 4 rfl) ?_
      refine run_i (S := Unit) (run_V (As := []) (rest := []) (bs := [loC E ol lo, dbC E od dO, coC E x a a2 a3 b d k pa y w, stC E a g, stC E a2 g2, stC E a3 g3, hhC E b hs hg nx ct, diC E d co re, grC E k so gw, prC E pa q F, sbO E y v ml n, baC E v cp t, moC E mb (upn z 0 (if 0 ≤ p0.toInt ∧ p0.toInt ≤ 6 then (if fst1 (fun t => decide (quo g ≤ favN g t (tn p0))) 12 < 12 then 0 else 2) else 1)) g gs ar]) (cb := [moC E mb (upn z 0 (if 0 ≤ p0.toInt ∧ p0.toInt ≤ 6 then (if fst1 (fun t => decide (quo g ≤ favN g t (tn p0))) 12 < 12 then 0 else 2) else 1)) g gs ar]) hx hb hml hown hts hK hZ hA (c_X6_thrown l E _ mb (upn z 0 (if 0 ≤ p0.toInt ∧ p0.toInt ≤ 6 then (if fst1 (fun t => decide (quo g ≤ favN g t (tn p0))) 12 < 12 then 0 else 2) else 1)) g gs ar) l_L_152 rfl ⟨⟨rfl, rfl⟩, Nat.le_of_ble_eq_true rfl, Nat.le_of_ble_eq_true rfl⟩ 10 rfl [12] rfl (by decide) rfl hP hD hS hl.1 rfl (Nat.le_of_ble_eq_true rfl) dL_law_1632 ⟨by show ((cells + 2) + 0) + 0 ≤ 603072; omega, by show ((slots + 12) + 0) + 0 ≤ 7174250; omega⟩) hA hP hD hS (isC := [12]) rfl [0, 1, 2, 3, 4, 5, 6, 7, 8, 9, 10, 11] [0, 1, 2, 3, 4, 5, 6, 7, 8, 9, 10, 11, 12] (br := [loC E ol lo, dbC E od dO, coC E x a a2 a3 b d k pa y w, stC E a g, stC E a2 g2, stC E a3 g3, hhC E b hs hg nx ct, diC E d co re, grC E k so gw, prC E pa q F, sbO E y v ml n, baC E v cp t]) (bs2 := fun _ => [loC E ol lo, dbC E od dO, coC E x a a2 a3 b d k pa y w, stC E a g, stC E a2 g2, stC E a3 g3, hhC E b hs hg nx ct, diC E d co re, grC E k so gw, prC E pa q F, sbO E y v ml n, baC E v cp t, moC E mb (upn z 0 (if 0 ≤ p0.toInt ∧ p0.toInt ≤ 6 then (if fst1 (fun t => decide (quo g ≤ favN g t (tn p0))) 12 < 12 then 0 else 2) else 1)) g gs ar]) rfl (by decide) (fun _ => rfl) (by decide) (fun r u6 H locs hw6 hP hD hS => ?_)
      have hw6 : r = nI ((upn z 0 (if 0 ≤ p0.toInt ∧ p0.toInt ≤ 6 then (if fst1 (fun t => decide (quo g ≤ favN g t (tn p0))) 12 < 12 then 0 else 2) else 1)) 0) := hw6
      subst hw6
      refine lv_iload hx hb dL_law_1635 (lv_at hl 1 rfl) ?_
      refine lv_icmp_eq (tgt := 1642) hx hb dL_law_1637 (by decide) (fun _ => ?_) (fun hc => absurd (show nI ((upn z 0 (if 0 ≤ p0.toInt ∧ p0.toInt ≤ 6 then (if fst1 (fun t => decide (quo g ≤ favN g t (tn p0))) 12 < 12 then 0 else 2) else 1)) 0) = nI 2 from congrArg nI (upn_s.trans ((if_pos hq.1).trans (if_neg hq.2)))) hc)
      refine lv_iload hx hb dL_law_1642 (lv_at hl 1 rfl) ?_
      refine nv_if_ne (X := ((2 : Nat) : Int)) hx hb (nI_toInt (by omega)) (tgt := 1659) dL_law_1644 (by decide) (fun c_4 => ?_) (fun c_4 => ?_)
      · skip
        refine lv_goto (tgt := 2541) hx hb dL_law_1659 (by decide) ?_
        exact W_widen (by omega) (by omega) (kk w g g2 g3 hg nx ct co re so gw q F v ml n cp t (upn z 0 (if 0 ≤ p0.toInt ∧ p0.toInt ≤ 6 then (if fst1 (fun t => decide (quo g ≤ favN g t (tn p0))) 12 < 12 then 0 else 2) else 1)) gs ar lo dO _ _ _ (rel_q hR hB4) hP hD hS (lv_sub hl [2, 3, 4, 5, 6, 7] rfl))
      · exact absurd c_4 (by omega)
set_option maxHeartbeats 4000000 in
set_option maxRecDepth 100000 in
theorem st_quota {p : Program} {l : Launch} {e : Env} {s : State} {m : MethodId} {args : Array Value} {below : List Frame} {meth : Method} {c : Code} {E : EE} {A : Nat → Prop} {Q : State → Prop} {x a a2 a3 b d k pa y : Nat → Nat} {hs : Nat → Nat → Nat} {mb : Nat → Nat} {ol od sb : Nat} {i B cells slots L : Nat} {xs : Nat → Int32} (C : LCx p l s m args c E A sb L xs) (hL : L ≤ 2560) (hi : i + 5 ≤ L) (hB4 : B + 420 ≤ 300000) (hrc : cells + 13 ≤ 603072 ∧ slots + 414 ≤ 7174250) (kk : LGo p l e s m args below meth c E A Q x a a2 a3 b d k pa y hs mb ol od sb i (B + 420) (cells + 13) (slots + 414) 2541) : LGo p l e s m args below meth c E A Q x a a2 a3 b d k pa y hs mb ol od sb i B cells slots 1662 := by
  obtain ⟨hx, hb, hml, hown, hts, hK, hZ, hDD, hA, hX, hbl, hbA, hst⟩ := C
  intro w g g2 g3 hg nx ct co re so gw q F v ml n cp t z gs ar lo dO H locs ls hR hP hD hS hl
  obtain ⟨hI, ⟨hs1, hs2, hs3⟩, ⟨hnx, hct, hz1, hh9⟩, ⟨hw1, hw2, hz5, hz6⟩, ⟨hq1, hq2, hF0, hF9⟩, ⟨hn1, hn2, hcp, ht9, htx, ho2⟩⟩ := id hR
  have hmc := hI.mc
  refine lv_aload_n hx hb dL_law_1662 rfl (lv_at hl 1 rfl) ?_
  refine run_i (S := Unit) (run_V (As := []) (rest := []) (bs := [loC E ol lo, dbC E od dO, coC E x a a2 a3 b d k pa y w, stC E a g, stC E a2 g2, stC E a3 g3, hhC E b hs hg nx ct, diC E d co re, grC E k so gw, prC E pa q F, sbO E y v ml n, baC E v cp t, moC E mb z g gs ar]) (cb := [coC E x a a2 a3 b d k pa y w, stC E a g]) hx hb hml hown hts hK hZ hA (c_X5_quota l E _ x a a2 a3 b d k pa y w g B hI) l_L_228 rfl ⟨⟨rfl, rfl⟩, Nat.le_of_ble_eq_true rfl, Nat.le_of_ble_eq_true rfl⟩ 9 rfl [2, 3] rfl (by decide) rfl hP hD hS hl.1 rfl (Nat.le_of_ble_eq_true rfl) dL_law_1663 ⟨by show cells + 0 ≤ 603072; omega, by show slots + 0 ≤ 7174250; omega⟩) hA hP hD hS (isC := [2, 3]) rfl [0, 1, 4, 5, 6, 7, 8, 9, 10, 11, 12] [0, 1, 11, 12, 2, 3, 4, 5, 6, 7, 8, 9, 10] (br := [loC E ol lo, dbC E od dO, stC E a2 g2, stC E a3 g3, hhC E b hs hg nx ct, diC E d co re, grC E k so gw, prC E pa q F, sbO E y v ml n, baC E v cp t, moC E mb z g gs ar]) (bs2 := fun _ => [loC E ol lo, dbC E od dO, coC E x a a2 a3 b d k pa y w, stC E a g, stC E a2 g2, stC E a3 g3, hhC E b hs hg nx ct, diC E d co re, grC E k so gw, prC E pa q F, sbO E y v ml n, baC E v cp t, moC E mb z g gs ar]) rfl (by decide) (fun _ => rfl) (by decide) (fun r u5 H locs hw6 hP hD hS => ?_)
  have hw6 : r = nI (quo g) := hw6
  subst hw6
  refine lv_aload_n hx hb dL_law_1666 rfl (lv_at hl 2 rfl) ?_
  refine run_i (S := Unit) (run_V (As := []) (rest := [.int (nI (quo g))]) (bs := [loC E ol lo, dbC E od dO, coC E x a a2 a3 b d k pa y w, stC E a g, stC E a2 g2, stC E a3 g3, hhC E b hs hg nx ct, diC E d co re, grC E k so gw, prC E pa q F, sbO E y v ml n, baC E v cp t, moC E mb z g gs ar]) (cb := [moC E mb z g gs ar]) hx hb hml hown hts hK hZ hA (c_X6_quota l E _ mb z g gs ar B hI) l_L_231 rfl ⟨⟨rfl, rfl⟩, Nat.le_of_ble_eq_true rfl, Nat.le_of_ble_eq_true rfl⟩ 10 rfl [12] rfl (by decide) rfl hP hD hS hl.1 rfl (Nat.le_of_ble_eq_true rfl) dL_law_1667 ⟨by show (cells + 0) + 0 ≤ 603072; omega, by show (slots + 0) + 0 ≤ 7174250; omega⟩) hA hP hD hS (isC := [12]) rfl [0, 1, 2, 3, 4, 5, 6, 7, 8, 9, 10, 11] [0, 1, 2, 3, 4, 5, 6, 7, 8, 9, 10, 11, 12] (br := [loC E ol lo, dbC E od dO, coC E x a a2 a3 b d k pa y w, stC E a g, stC E a2 g2, stC E a3 g3, hhC E b hs hg nx ct, diC E d co re, grC E k so gw, prC E pa q F, sbO E y v ml n, baC E v cp t]) (bs2 := fun _ => [loC E ol lo, dbC E od dO, coC E x a a2 a3 b d k pa y w, stC E a g, stC E a2 g2, stC E a3 g3, hhC E b hs hg nx ct, diC E d co re, grC E k so gw, prC E pa q F, sbO E y v ml n, baC E v cp t, moC E mb (upn z 0 0) g gs ar]) rfl (by decide) (fun _ => rfl) (by decide) (fun r u6 H locs hw6 hP hD hS => ?_)
  have hw6 : r = nI (quo g) := hw6
  subst hw6
  refine lv_icmp_eq (tgt := 2541) hx hb dL_law_1670 (by decide) (fun _ => ?_) (fun hc => absurd (show nI (quo g) = nI (quo g) from rfl) hc)
  exact W_widen (by omega) (by omega) (kk w g g2 g3 hg nx ct co re so gw q F v ml n cp t (upn z 0 0) gs ar lo dO _ _ _ (rel_q hR hB4) hP hD hS (lv_sub hl [0, 1, 2, 3, 4, 5] rfl))
set_option maxHeartbeats 4000000 in
set_option maxRecDepth 100000 in
theorem st_winningGroups {p : Program} {l : Launch} {e : Env} {s : State} {m : MethodId} {args : Array Value} {below : List Frame} {meth : Method} {c : Code} {E : EE} {A : Nat → Prop} {Q : State → Prop} {x a a2 a3 b d k pa y : Nat → Nat} {hs : Nat → Nat → Nat} {mb : Nat → Nat} {ol od sb : Nat} {i B cells slots L : Nat} {xs : Nat → Int32} (C : LCx p l s m args c E A sb L xs) (hL : L ≤ 2560) (hi : i + 5 ≤ L) (hB4 : B + 420 ≤ 300000) (hrc : cells + 13 ≤ 603072 ∧ slots + 414 ≤ 7174250) (kk : LGo p l e s m args below meth c E A Q x a a2 a3 b d k pa y hs mb ol od sb i (B + 420) (cells + 13) (slots + 414) 2541) : LGo p l e s m args below meth c E A Q x a a2 a3 b d k pa y hs mb ol od sb i B cells slots 1675 := by
  obtain ⟨hx, hb, hml, hown, hts, hK, hZ, hDD, hA, hX, hbl, hbA, hst⟩ := C
  intro w g g2 g3 hg nx ct co re so gw q F v ml n cp t z gs ar lo dO H locs ls hR hP hD hS hl
  obtain ⟨hI, ⟨hs1, hs2, hs3⟩, ⟨hnx, hct, hz1, hh9⟩, ⟨hw1, hw2, hz5, hz6⟩, ⟨hq1, hq2, hF0, hF9⟩, ⟨hn1, hn2, hcp, ht9, htx, ho2⟩⟩ := id hR
  have hmc := hI.mc
  refine lv_aload_n hx hb dL_law_1675 rfl (lv_at hl 1 rfl) ?_
  refine run_i (S := (Nat → Nat) × (Nat → Nat)) (run_V (As := []) (rest := []) (bs := [loC E ol lo, dbC E od dO, coC E x a a2 a3 b d k pa y w, stC E a g, stC E a2 g2, stC E a3 g3, hhC E b hs hg nx ct, diC E d co re, grC E k so gw, prC E pa q F, sbO E y v ml n, baC E v cp t, moC E mb z g gs ar]) (cb := [coC E x a a2 a3 b d k pa y w, stC E a g, grC E k so gw]) hx hb hml hown hts hK hZ hA (c_X5_winningGroups l E _ x a a2 a3 b d k pa y w g B hI so gw) l_L_232 rfl ⟨⟨rfl, rfl⟩, Nat.le_of_ble_eq_true rfl, Nat.le_of_ble_eq_true rfl⟩ 9 rfl [2, 3, 8] rfl (by decide) rfl hP hD hS hl.1 rfl (Nat.le_of_ble_eq_true rfl) dL_law_1676 ⟨by show cells + 0 ≤ 603072; omega, by show slots + 0 ≤ 7174250; omega⟩) hA hP hD hS (isC := [2, 3, 8]) rfl [0, 1, 4, 5, 6, 7, 9, 10, 11, 12] [0, 1, 10, 11, 2, 3, 4, 5, 12, 6, 7, 8, 9] (br := [loC E ol lo, dbC E od dO, stC E a2 g2, stC E a3 g3, hhC E b hs hg nx ct, diC E d co re, prC E pa q F, sbO E y v ml n, baC E v cp t, moC E mb z g gs ar]) (bs2 := fun u5 => [loC E ol lo, dbC E od dO, coC E x a a2 a3 b d k pa y w, stC E a g, stC E a2 g2, stC E a3 g3, hhC E b hs hg nx ct, diC E d co re, grC E k u5.1 u5.2, prC E pa q F, sbO E y v ml n, baC E v cp t, moC E mb z g gs ar]) rfl (by decide) (fun _ => rfl) (by decide) (fun r u5 H locs hw6 hP hD hS => ?_)
  have hw6 : r = nI (winN g) := hw6
  subst hw6
  refine lv_aload_n hx hb dL_law_1679 rfl (lv_at hl 2 rfl) ?_
  refine run_i (S := Unit) (run_V (As := []) (rest := [.int (nI (winN g))]) (bs := [loC E ol lo, dbC E od dO, coC E x a a2 a3 b d k pa y w, stC E a g, stC E a2 g2, stC E a3 g3, hhC E b hs hg nx ct, diC E d co re, grC E k u5.1 u5.2, prC E pa q F, sbO E y v ml n, baC E v cp t, moC E mb z g gs ar]) (cb := [moC E mb z g gs ar]) hx hb hml hown hts hK hZ hA (c_X6_winningGroups l E _ mb z g gs ar B hI) l_L_235 rfl ⟨⟨rfl, rfl⟩, Nat.le_of_ble_eq_true rfl, Nat.le_of_ble_eq_true rfl⟩ 10 rfl [12] rfl (by decide) rfl hP hD hS hl.1 rfl (Nat.le_of_ble_eq_true rfl) dL_law_1680 ⟨by show (cells + 0) + 0 ≤ 603072; omega, by show (slots + 0) + 0 ≤ 7174250; omega⟩) hA hP hD hS (isC := [12]) rfl [0, 1, 2, 3, 4, 5, 6, 7, 8, 9, 10, 11] [0, 1, 2, 3, 4, 5, 6, 7, 8, 9, 10, 11, 12] (br := [loC E ol lo, dbC E od dO, coC E x a a2 a3 b d k pa y w, stC E a g, stC E a2 g2, stC E a3 g3, hhC E b hs hg nx ct, diC E d co re, grC E k u5.1 u5.2, prC E pa q F, sbO E y v ml n, baC E v cp t]) (bs2 := fun _ => [loC E ol lo, dbC E od dO, coC E x a a2 a3 b d k pa y w, stC E a g, stC E a2 g2, stC E a3 g3, hhC E b hs hg nx ct, diC E d co re, grC E k u5.1 u5.2, prC E pa q F, sbO E y v ml n, baC E v cp t, moC E mb (upn z 0 0) g gs ar]) rfl (by decide) (fun _ => rfl) (by decide) (fun r u6 H locs hw6 hP hD hS => ?_)
  have hw6 : r = nI (winN g) := hw6
  subst hw6
  refine lv_icmp_eq (tgt := 2541) hx hb dL_law_1683 (by decide) (fun _ => ?_) (fun hc => absurd (show nI (winN g) = nI (winN g) from rfl) hc)
  exact W_widen (by omega) (by omega) (kk w g g2 g3 hg nx ct co re u5.1 u5.2 q F v ml n cp t (upn z 0 0) gs ar lo dO _ _ _ (rel_q hR hB4) hP hD hS (lv_sub hl [0, 1, 2, 3, 4, 5] rfl))
set_option maxHeartbeats 4000000 in
set_option maxRecDepth 100000 in
theorem st_winningGroupsByTable {p : Program} {l : Launch} {e : Env} {s : State} {m : MethodId} {args : Array Value} {below : List Frame} {meth : Method} {c : Code} {E : EE} {A : Nat → Prop} {Q : State → Prop} {x a a2 a3 b d k pa y : Nat → Nat} {hs : Nat → Nat → Nat} {mb : Nat → Nat} {ol od sb : Nat} {i B cells slots L : Nat} {xs : Nat → Int32} (C : LCx p l s m args c E A sb L xs) (hL : L ≤ 2560) (hi : i + 5 ≤ L) (hB4 : B + 420 ≤ 300000) (hrc : cells + 13 ≤ 603072 ∧ slots + 414 ≤ 7174250) (kk : LGo p l e s m args below meth c E A Q x a a2 a3 b d k pa y hs mb ol od sb i (B + 420) (cells + 13) (slots + 414) 2541) : LGo p l e s m args below meth c E A Q x a a2 a3 b d k pa y hs mb ol od sb i B cells slots 1688 := by
  obtain ⟨hx, hb, hml, hown, hts, hK, hZ, hDD, hA, hX, hbl, hbA, hst⟩ := C
  intro w g g2 g3 hg nx ct co re so gw q F v ml n cp t z gs ar lo dO H locs ls hR hP hD hS hl
  obtain ⟨hI, ⟨hs1, hs2, hs3⟩, ⟨hnx, hct, hz1, hh9⟩, ⟨hw1, hw2, hz5, hz6⟩, ⟨hq1, hq2, hF0, hF9⟩, ⟨hn1, hn2, hcp, ht9, htx, ho2⟩⟩ := id hR
  have hmc := hI.mc
  refine lv_aload_n hx hb dL_law_1688 rfl (lv_at hl 1 rfl) ?_
  refine run_i (S := (Nat → Nat) × (Nat → Nat)) (run_V (As := []) (rest := []) (bs := [loC E ol lo, dbC E od dO, coC E x a a2 a3 b d k pa y w, stC E a g, stC E a2 g2, stC E a3 g3, hhC E b hs hg nx ct, diC E d co re, grC E k so gw, prC E pa q F, sbO E y v ml n, baC E v cp t, moC E mb z g gs ar]) (cb := [coC E x a a2 a3 b d k pa y w, stC E a g, grC E k so gw]) hx hb hml hown hts hK hZ hA (c_X5_winningGroupsByTable l E _ x a a2 a3 b d k pa y w g B hI so gw) l_L_236 rfl ⟨⟨rfl, rfl⟩, Nat.le_of_ble_eq_true rfl, Nat.le_of_ble_eq_true rfl⟩ 9 rfl [2, 3, 8] rfl (by decide) rfl hP hD hS hl.1 rfl (Nat.le_of_ble_eq_true rfl) dL_law_1689 ⟨by show cells + 0 ≤ 603072; omega, by show slots + 0 ≤ 7174250; omega⟩) hA hP hD hS (isC := [2, 3, 8]) rfl [0, 1, 4, 5, 6, 7, 9, 10, 11, 12] [0, 1, 10, 11, 2, 3, 4, 5, 12, 6, 7, 8, 9] (br := [loC E ol lo, dbC E od dO, stC E a2 g2, stC E a3 g3, hhC E b hs hg nx ct, diC E d co re, prC E pa q F, sbO E y v ml n, baC E v cp t, moC E mb z g gs ar]) (bs2 := fun u5 => [loC E ol lo, dbC E od dO, coC E x a a2 a3 b d k pa y w, stC E a g, stC E a2 g2, stC E a3 g3, hhC E b hs hg nx ct, diC E d co re, grC E k u5.1 u5.2, prC E pa q F, sbO E y v ml n, baC E v cp t, moC E mb z g gs ar]) rfl (by decide) (fun _ => rfl) (by decide) (fun r u5 H locs hw6 hP hD hS => ?_)
  have hw6 : r = nI (winN g) := hw6
  subst hw6
  refine lv_aload_n hx hb dL_law_1692 rfl (lv_at hl 2 rfl) ?_
  refine run_i (S := Unit) (run_V (As := []) (rest := [.int (nI (winN g))]) (bs := [loC E ol lo, dbC E od dO, coC E x a a2 a3 b d k pa y w, stC E a g, stC E a2 g2, stC E a3 g3, hhC E b hs hg nx ct, diC E d co re, grC E k u5.1 u5.2, prC E pa q F, sbO E y v ml n, baC E v cp t, moC E mb z g gs ar]) (cb := [moC E mb z g gs ar]) hx hb hml hown hts hK hZ hA (c_X6_winningGroupsByTable l E _ mb z g gs ar B hI) l_L_239 rfl ⟨⟨rfl, rfl⟩, Nat.le_of_ble_eq_true rfl, Nat.le_of_ble_eq_true rfl⟩ 10 rfl [12] rfl (by decide) rfl hP hD hS hl.1 rfl (Nat.le_of_ble_eq_true rfl) dL_law_1693 ⟨by show (cells + 0) + 0 ≤ 603072; omega, by show (slots + 0) + 0 ≤ 7174250; omega⟩) hA hP hD hS (isC := [12]) rfl [0, 1, 2, 3, 4, 5, 6, 7, 8, 9, 10, 11] [0, 1, 2, 3, 4, 5, 6, 7, 8, 9, 10, 11, 12] (br := [loC E ol lo, dbC E od dO, coC E x a a2 a3 b d k pa y w, stC E a g, stC E a2 g2, stC E a3 g3, hhC E b hs hg nx ct, diC E d co re, grC E k u5.1 u5.2, prC E pa q F, sbO E y v ml n, baC E v cp t]) (bs2 := fun _ => [loC E ol lo, dbC E od dO, coC E x a a2 a3 b d k pa y w, stC E a g, stC E a2 g2, stC E a3 g3, hhC E b hs hg nx ct, diC E d co re, grC E k u5.1 u5.2, prC E pa q F, sbO E y v ml n, baC E v cp t, moC E mb (upn z 0 0) g gs ar]) rfl (by decide) (fun _ => rfl) (by decide) (fun r u6 H locs hw6 hP hD hS => ?_)
  have hw6 : r = nI (winN g) := hw6
  subst hw6
  refine lv_icmp_eq (tgt := 2541) hx hb dL_law_1696 (by decide) (fun _ => ?_) (fun hc => absurd (show nI (winN g) = nI (winN g) from rfl) hc)
  exact W_widen (by omega) (by omega) (kk w g g2 g3 hg nx ct co re u5.1 u5.2 q F v ml n cp t (upn z 0 0) gs ar lo dO _ _ _ (rel_q hR hB4) hP hD hS (lv_sub hl [0, 1, 2, 3, 4, 5] rfl))
set_option maxHeartbeats 4000000 in
set_option maxRecDepth 100000 in
theorem st_power {p : Program} {l : Launch} {e : Env} {s : State} {m : MethodId} {args : Array Value} {below : List Frame} {meth : Method} {c : Code} {E : EE} {A : Nat → Prop} {Q : State → Prop} {x a a2 a3 b d k pa y : Nat → Nat} {hs : Nat → Nat → Nat} {mb : Nat → Nat} {ol od sb : Nat} {i B cells slots L : Nat} {xs : Nat → Int32} (C : LCx p l s m args c E A sb L xs) (hL : L ≤ 2560) (hi : i + 5 ≤ L) (hB4 : B + 420 ≤ 300000) (hrc : cells + 13 ≤ 603072 ∧ slots + 414 ≤ 7174250) (kk : LGo p l e s m args below meth c E A Q x a a2 a3 b d k pa y hs mb ol od sb i (B + 420) (cells + 13) (slots + 414) 2541) : LGo p l e s m args below meth c E A Q x a a2 a3 b d k pa y hs mb ol od sb i B cells slots 1701 := by
  obtain ⟨hx, hb, hml, hown, hts, hK, hZ, hDD, hA, hX, hbl, hbA, hst⟩ := C
  intro w g g2 g3 hg nx ct co re so gw q F v ml n cp t z gs ar lo dO H locs ls hR hP hD hS hl
  obtain ⟨hI, ⟨hs1, hs2, hs3⟩, ⟨hnx, hct, hz1, hh9⟩, ⟨hw1, hw2, hz5, hz6⟩, ⟨hq1, hq2, hF0, hF9⟩, ⟨hn1, hn2, hcp, ht9, htx, ho2⟩⟩ := id hR
  have hmc := hI.mc
  obtain ⟨p0, hp0⟩ : ∃ y9, y9 = xs (i + 1) := ⟨_, rfl⟩
  refine lv_aload_n hx hb dL_law_1701 rfl (lv_at hl 1 rfl) ?_
  refine lv_aload_n hx hb dL_law_1702 rfl (lv_at hl 0 rfl) ?_
  refine lv_iload hx hb dL_law_1703 (lv_at hl 5 rfl) ?_
  refine lv_iconst (v := nI 1) hx hb dL_law_1705 (by decide) ?_
  refine nv_iadd hx hb dL_law_1706 ?_
  refine va_sld hx hb hX hbl hbA hS (vp_in_nI (show i + 1 < L by omega) (by omega)) dL_law_1707 ?_
  refine tp_i (show xs (nI (i + 1)).toNatClampNeg = p0 from by rw [nI_clamp (by omega), hp0]) ?_
  refine lv_aload_n hx hb dL_law_1708 rfl (lv_at hl 3 rfl) ?_
  refine run_i (S := (((Nat → Nat) × (Nat → Nat)) × Int32 × (Nat → Int64)) ⊕ Unit) (run_SW (As := [.ref (x 0), .int p0, .ref ol]) (rest := []) (bs := [loC E ol lo, dbC E od dO, coC E x a a2 a3 b d k pa y w, stC E a g, stC E a2 g2, stC E a3 g3, hhC E b hs hg nx ct, diC E d co re, grC E k so gw, prC E pa q F, sbO E y v ml n, baC E v cp t, moC E mb z g gs ar]) (cb := [loC E ol lo, coC E x a a2 a3 b d k pa y w, stC E a g, grC E k so gw]) hx hb hml hown hts hK hZ hDD hA (c_L_power l hst E _ x a a2 a3 b d k pa y w g B hI so gw p0 ol lo) l_L_240 rfl ⟨⟨rfl, rfl⟩, Nat.le_of_ble_eq_true rfl, Nat.le_of_ble_eq_true rfl⟩ [0, 2, 3, 8] rfl (by decide) hP hD hS hl.1 rfl (Nat.le_of_ble_eq_true rfl) dL_law_1709 ⟨by show cells + 1 ≤ 603072; omega, by show slots + 6 ≤ 7174250; omega⟩) hA hP hD hS (isC := [0, 2, 3, 8]) rfl [1, 4, 5, 6, 7, 9, 10, 11, 12] [9, 0, 10, 11, 1, 2, 3, 4, 12, 5, 6, 7, 8] (br := [dbC E od dO, stC E a2 g2, stC E a3 g3, hhC E b hs hg nx ct, diC E d co re, prC E pa q F, sbO E y v ml n, baC E v cp t, moC E mb z g gs ar]) (bs2 := fun u => Sum.elim (fun (vq : ((Nat → Nat) × (Nat → Nat)) × Int32 × (Nat → Int64)) => [loC E ol vq.2.2, dbC E od dO, coC E x a a2 a3 b d k pa y w, stC E a g, stC E a2 g2, stC E a3 g3, hhC E b hs hg nx ct, diC E d co re, grC E k vq.1.1 vq.1.2, prC E pa q F, sbO E y v ml n, baC E v cp t, moC E mb z g gs ar]) (fun (vq : Unit) => [loC E ol lo, dbC E od dO, coC E x a a2 a3 b d k pa y w, stC E a g, stC E a2 g2, stC E a3 g3, hhC E b hs hg nx ct, diC E d co re, grC E k so gw, prC E pa q F, sbO E y v ml n, baC E v cp t, moC E mb z g gs ar]) u) rfl (by decide) (fun u => by rcases u with u | u <;> rfl) (by decide) (fun r u H locs hw hP hD hS => ?_)
  rcases u with vq | vq
  · skip
    obtain ⟨u9, r9, lo9⟩ := vq
    have hw7 : r = nI 0 ∧ (hasM g p0 = true ∧ r9 = nI (powN g (tn p0))) ∧ lo9 0 = r9.toInt64 := hw
    clear hw
    obtain ⟨rfl, hw⟩ := hw7
    have hP : va_P E.1 vwCl ([loC E ol lo9, dbC E od dO, coC E x a a2 a3 b d k pa y w, stC E a g, stC E a2 g2, stC E a3 g3, hhC E b hs hg nx ct, diC E d co re, grC E k u9.1 u9.2, prC E pa q F, sbO E y v ml n, baC E v cp t, moC E mb z g gs ar] : List va_W).flatten H := hP
    have hD : va_D A ([loC E ol lo9, dbC E od dO, coC E x a a2 a3 b d k pa y w, stC E a g, stC E a2 g2, stC E a3 g3, hhC E b hs hg nx ct, diC E d co re, grC E k u9.1 u9.2, prC E pa q F, sbO E y v ml n, baC E v cp t, moC E mb z g gs ar] : List va_W).flatten := hD
    obtain ⟨⟨hcnd, hr9⟩, hlo⟩ := hw
    subst hr9
    refine lv_istore (lv' := [(6, .int (nI 0)), (0, .ref sb), (1, .ref (x 0)), (2, .ref (mb 0)), (3, .ref ol), (4, .ref od), (5, .int (nI i))]) hx hb dL_law_1712 hl (by decide) rfl (fun ls hl => ?_)
    refine lv_aload_n hx hb dL_law_1714 rfl (lv_at hl 3 rfl) ?_
    refine lv_aload_n hx hb dL_law_1715 rfl (lv_at hl 1 rfl) ?_
    refine lv_iload hx hb dL_law_1716 (lv_at hl 6 rfl) ?_
    refine lv_iconst (v := nI 1) hx hb dL_law_1718 (by decide) ?_
    refine nv_iadd hx hb dL_law_1719 ?_
    refine va_sld hx hb hX hbl hbA hS (vp_in_nI (show i + 1 < L by omega) (by omega)) dL_law_1720 ?_
    refine tp_i (show xs (nI (i + 1)).toNatClampNeg = p0 from by rw [nI_clamp (by omega), hp0]) ?_
    refine run_i (S := Unit) (run_V (As := [.int p0]) (rest := []) (bs := [loC E ol lo9, dbC E od dO, coC E x a a2 a3 b d k pa y w, stC E a g, stC E a2 g2, stC E a3 g3, hhC E b hs hg nx ct, diC E d co re, grC E k u9.1 u9.2, prC E pa q F, sbO E y v ml n, baC E v cp t, moC E mb z g gs ar]) (cb := [moC E mb z g gs ar]) hx hb hml hown hts hK hZ hA (c_X6_power l E _ mb z g gs ar B hI p0) l_L_242 rfl ⟨⟨rfl, rfl⟩, Nat.le_of_ble_eq_true rfl, Nat.le_of_ble_eq_true rfl⟩ 10 rfl [12] rfl (by decide) rfl hP hD hS hl.1 rfl (Nat.le_of_ble_eq_true rfl) dL_law_1721 ⟨by show (cells + 1) + 0 ≤ 603072; omega, by show (slots + 6) + 0 ≤ 7174250; omega⟩) hA hP hD hS (isC := [12]) rfl [0, 1, 2, 3, 4, 5, 6, 7, 8, 9, 10, 11] [0, 1, 2, 3, 4, 5, 6, 7, 8, 9, 10, 11, 12] (br := [loC E ol lo9, dbC E od dO, coC E x a a2 a3 b d k pa y w, stC E a g, stC E a2 g2, stC E a3 g3, hhC E b hs hg nx ct, diC E d co re, grC E k u9.1 u9.2, prC E pa q F, sbO E y v ml n, baC E v cp t]) (bs2 := fun _ => [loC E ol lo9, dbC E od dO, coC E x a a2 a3 b d k pa y w, stC E a g, stC E a2 g2, stC E a3 g3, hhC E b hs hg nx ct, diC E d co re, grC E k u9.1 u9.2, prC E pa q F, sbO E y v ml n, baC E v cp t, moC E mb (upn z 0 (if hasM g p0 = true then 0 else 1)) g gs ar]) rfl (by decide) (fun _ => rfl) (by decide) (fun r u6 H locs hw6 hP hD hS => ?_)
    have hw6 : r = nI (if hasM g p0 = true then powN g (tn p0) else 0) := hw6
    subst hw6
    refine tp_i (show nI (if hasM g p0 = true then powN g (tn p0) else 0) = nI (powN g (tn p0)) from congrArg nI (if_pos hcnd)) ?_
    refine lv_istore (lv' := [(7, .int (nI (powN g (tn p0)))), (6, .int (nI 0)), (0, .ref sb), (1, .ref (x 0)), (2, .ref (mb 0)), (3, .ref ol), (4, .ref od), (5, .int (nI i))]) hx hb dL_law_1724 hl (by decide) rfl (fun ls hl => ?_)
    refine lv_aload_n hx hb dL_law_1726 rfl (lv_at hl 4 rfl) ?_
    refine run_i (S := Unit) (run_V (As := []) (rest := []) (bs := [loC E ol lo9, dbC E od dO, coC E x a a2 a3 b d k pa y w, stC E a g, stC E a2 g2, stC E a3 g3, hhC E b hs hg nx ct, diC E d co re, grC E k u9.1 u9.2, prC E pa q F, sbO E y v ml n, baC E v cp t, moC E mb (upn z 0 (if hasM g p0 = true then 0 else 1)) g gs ar]) (cb := [moC E mb (upn z 0 (if hasM g p0 = true then 0 else 1)) g gs ar]) hx hb hml hown hts hK hZ hA (c_X6_thrown l E _ mb (upn z 0 (if hasM g p0 = true then 0 else 1)) g gs ar) l_L_152 rfl ⟨⟨rfl, rfl⟩, Nat.le_of_ble_eq_true rfl, Nat.le_of_ble_eq_true rfl⟩ 10 rfl [12] rfl (by decide) rfl hP hD hS hl.1 rfl (Nat.le_of_ble_eq_true rfl) dL_law_1727 ⟨by show ((cells + 1) + 0) + 0 ≤ 603072; omega, by show ((slots + 6) + 0) + 0 ≤ 7174250; omega⟩) hA hP hD hS (isC := [12]) rfl [0, 1, 2, 3, 4, 5, 6, 7, 8, 9, 10, 11] [0, 1, 2, 3, 4, 5, 6, 7, 8, 9, 10, 11, 12] (br := [loC E ol lo9, dbC E od dO, coC E x a a2 a3 b d k pa y w, stC E a g, stC E a2 g2, stC E a3 g3, hhC E b hs hg nx ct, diC E d co re, grC E k u9.1 u9.2, prC E pa q F, sbO E y v ml n, baC E v cp t]) (bs2 := fun _ => [loC E ol lo9, dbC E od dO, coC E x a a2 a3 b d k pa y w, stC E a g, stC E a2 g2, stC E a3 g3, hhC E b hs hg nx ct, diC E d co re, grC E k u9.1 u9.2, prC E pa q F, sbO E y v ml n, baC E v cp t, moC E mb (upn z 0 (if hasM g p0 = true then 0 else 1)) g gs ar]) rfl (by decide) (fun _ => rfl) (by decide) (fun r u6 H locs hw6 hP hD hS => ?_)
    have hw6 : r = nI ((upn z 0 (if hasM g p0 = true then 0 else 1)) 0) := hw6
    subst hw6
    refine lv_iload hx hb dL_law_1730 (lv_at hl 1 rfl) ?_
    refine lv_icmp_eq (tgt := 1737) hx hb dL_law_1732 (by decide) (fun _ => ?_) (fun hc => absurd (show nI ((upn z 0 (if hasM g p0 = true then 0 else 1)) 0) = nI 0 from congrArg nI (upn_s.trans (if_pos hcnd))) hc)
    refine lv_iload hx hb dL_law_1737 (lv_at hl 1 rfl) ?_
    refine nv_if_ne (X := ((0 : Nat) : Int)) hx hb (nI_toInt (by omega)) (tgt := 1754) dL_law_1739 (by decide) (fun c_1 => ?_) (fun c_1 => ?_)
    · exact absurd c_1 (by omega)
    · skip
      refine lv_aload_n hx hb dL_law_1742 rfl (lv_at hl 5 rfl) ?_
      refine lv_iconst (v := nI 0) hx hb dL_law_1743 (by decide) ?_
      refine va_lald hx hb hK hP 0 4 rfl rfl (vp_in_nI (show 0 < 1 by decide) (by decide)) dL_law_1744 ?_
      rw [show lo9 (nI 0).toNatClampNeg = (nI (powN g (tn p0))).toInt64 from by rw [nI_clamp (show 0 < 2 ^ 31 by decide)]; exact hlo]
      refine lv_iload hx hb dL_law_1745 (lv_at hl 0 rfl) ?_
      refine lv_i2l hx hb dL_law_1747 rfl ?_
      refine W.lcmp hx hb dL_law_1748 ?_
      refine tp_i (show lg_cmp ((nI (powN g (tn p0))).toInt64) ((nI (powN g (tn p0))).toInt64) = nI 0 from lg_eq _) ?_
      refine nv_if_eq (X := ((0 : Nat) : Int)) hx hb (nI_toInt (by omega)) (tgt := 1754) dL_law_1749 (by decide) (fun c_2 => ?_) (fun c_2 => ?_)
      · skip
        refine lv_goto (tgt := 2541) hx hb dL_law_1754 (by decide) ?_
        exact W_widen (by omega) (by omega) (kk w g g2 g3 hg nx ct co re u9.1 u9.2 q F v ml n cp t (upn z 0 (if hasM g p0 = true then 0 else 1)) gs ar lo9 dO _ _ _ (rel_q hR hB4) hP hD hS (lv_sub hl [2, 3, 4, 5, 6, 7] rfl))
      · exact absurd c_2 (by omega)
  · skip
    have hw : r = nI 1 ∧ hasM g p0 = false := hw
    have hP : va_P E.1 vwCl ([loC E ol lo, dbC E od dO, coC E x a a2 a3 b d k pa y w, stC E a g, stC E a2 g2, stC E a3 g3, hhC E b hs hg nx ct, diC E d co re, grC E k so gw, prC E pa q F, sbO E y v ml n, baC E v cp t, moC E mb z g gs ar] : List va_W).flatten H := hP
    have hD : va_D A ([loC E ol lo, dbC E od dO, coC E x a a2 a3 b d k pa y w, stC E a g, stC E a2 g2, stC E a3 g3, hhC E b hs hg nx ct, diC E d co re, grC E k so gw, prC E pa q F, sbO E y v ml n, baC E v cp t, moC E mb z g gs ar] : List va_W).flatten := hD
    obtain ⟨rfl, hq⟩ := hw
    refine lv_istore (lv' := [(6, .int (nI 1)), (0, .ref sb), (1, .ref (x 0)), (2, .ref (mb 0)), (3, .ref ol), (4, .ref od), (5, .int (nI i))]) hx hb dL_law_1712 hl (by decide) rfl (fun ls hl => ?_)
    refine lv_aload_n hx hb dL_law_1714 rfl (lv_at hl 3 rfl) ?_
    refine lv_aload_n hx hb dL_law_1715 rfl (lv_at hl 1 rfl) ?_
    refine lv_iload hx hb dL_law_1716 (lv_at hl 6 rfl) ?_
    refine lv_iconst (v := nI 1) hx hb dL_law_1718 (by decide) ?_
    refine nv_iadd hx hb dL_law_1719 ?_
    refine va_sld hx hb hX hbl hbA hS (vp_in_nI (show i + 1 < L by omega) (by omega)) dL_law_1720 ?_
    refine tp_i (show xs (nI (i + 1)).toNatClampNeg = p0 from by rw [nI_clamp (by omega), hp0]) ?_
    refine run_i (S := Unit) (run_V (As := [.int p0]) (rest := []) (bs := [loC E ol lo, dbC E od dO, coC E x a a2 a3 b d k pa y w, stC E a g, stC E a2 g2, stC E a3 g3, hhC E b hs hg nx ct, diC E d co re, grC E k so gw, prC E pa q F, sbO E y v ml n, baC E v cp t, moC E mb z g gs ar]) (cb := [moC E mb z g gs ar]) hx hb hml hown hts hK hZ hA (c_X6_power l E _ mb z g gs ar B hI p0) l_L_242 rfl ⟨⟨rfl, rfl⟩, Nat.le_of_ble_eq_true rfl, Nat.le_of_ble_eq_true rfl⟩ 10 rfl [12] rfl (by decide) rfl hP hD hS hl.1 rfl (Nat.le_of_ble_eq_true rfl) dL_law_1721 ⟨by show (cells + 1) + 0 ≤ 603072; omega, by show (slots + 6) + 0 ≤ 7174250; omega⟩) hA hP hD hS (isC := [12]) rfl [0, 1, 2, 3, 4, 5, 6, 7, 8, 9, 10, 11] [0, 1, 2, 3, 4, 5, 6, 7, 8, 9, 10, 11, 12] (br := [loC E ol lo, dbC E od dO, coC E x a a2 a3 b d k pa y w, stC E a g, stC E a2 g2, stC E a3 g3, hhC E b hs hg nx ct, diC E d co re, grC E k so gw, prC E pa q F, sbO E y v ml n, baC E v cp t]) (bs2 := fun _ => [loC E ol lo, dbC E od dO, coC E x a a2 a3 b d k pa y w, stC E a g, stC E a2 g2, stC E a3 g3, hhC E b hs hg nx ct, diC E d co re, grC E k so gw, prC E pa q F, sbO E y v ml n, baC E v cp t, moC E mb (upn z 0 (if hasM g p0 = true then 0 else 1)) g gs ar]) rfl (by decide) (fun _ => rfl) (by decide) (fun r u6 H locs hw6 hP hD hS => ?_)
    have hw6 : r = nI (if hasM g p0 = true then powN g (tn p0) else 0) := hw6
    subst hw6
    refine lv_istore (lv' := [(7, .int (nI (if hasM g p0 = true then powN g (tn p0) else 0))), (6, .int (nI 1)), (0, .ref sb), (1, .ref (x 0)), (2, .ref (mb 0)), (3, .ref ol), (4, .ref od), (5, .int (nI i))]) hx hb dL_law_1724 hl (by decide) rfl (fun ls hl => ?_)
    refine lv_aload_n hx hb dL_law_1726 rfl (lv_at hl 4 rfl) ?_
    refine run_i (S := Unit) (run_V (As := []) (rest := []) (bs := [loC E ol lo, dbC E od dO, coC E x a a2 a3 b d k pa y w, stC E a g, stC E a2 g2, stC E a3 g3, hhC E b hs hg nx ct, diC E d co re, grC E k so gw, prC E pa q F, sbO E y v ml n, baC E v cp t, moC E mb (upn z 0 (if hasM g p0 = true then 0 else 1)) g gs ar]) (cb := [moC E mb (upn z 0 (if hasM g p0 = true then 0 else 1)) g gs ar]) hx hb hml hown hts hK hZ hA (c_X6_thrown l E _ mb (upn z 0 (if hasM g p0 = true then 0 else 1)) g gs ar) l_L_152 rfl ⟨⟨rfl, rfl⟩, Nat.le_of_ble_eq_true rfl, Nat.le_of_ble_eq_true rfl⟩ 10 rfl [12] rfl (by decide) rfl hP hD hS hl.1 rfl (Nat.le_of_ble_eq_true rfl) dL_law_1727 ⟨by show ((cells + 1) + 0) + 0 ≤ 603072; omega, by show ((slots + 6) + 0) + 0 ≤ 7174250; omega⟩) hA hP hD hS (isC := [12]) rfl [0, 1, 2, 3, 4, 5, 6, 7, 8, 9, 10, 11] [0, 1, 2, 3, 4, 5, 6, 7, 8, 9, 10, 11, 12] (br := [loC E ol lo, dbC E od dO, coC E x a a2 a3 b d k pa y w, stC E a g, stC E a2 g2, stC E a3 g3, hhC E b hs hg nx ct, diC E d co re, grC E k so gw, prC E pa q F, sbO E y v ml n, baC E v cp t]) (bs2 := fun _ => [loC E ol lo, dbC E od dO, coC E x a a2 a3 b d k pa y w, stC E a g, stC E a2 g2, stC E a3 g3, hhC E b hs hg nx ct, diC E d co re, grC E k so gw, prC E pa q F, sbO E y v ml n, baC E v cp t, moC E mb (upn z 0 (if hasM g p0 = true then 0 else 1)) g gs ar]) rfl (by decide) (fun _ => rfl) (by decide) (fun r u6 H locs hw6 hP hD hS => ?_)
    have hw6 : r = nI ((upn z 0 (if hasM g p0 = true then 0 else 1)) 0) := hw6
    subst hw6
    refine lv_iload hx hb dL_law_1730 (lv_at hl 1 rfl) ?_
    refine lv_icmp_eq (tgt := 1737) hx hb dL_law_1732 (by decide) (fun _ => ?_) (fun hc => absurd (show nI ((upn z 0 (if hasM g p0 = true then 0 else 1)) 0) = nI 1 from congrArg nI (upn_s.trans (if_neg (fun h9 => by rw [hq] at h9; cases h9)))) hc)
    refine lv_iload hx hb dL_law_1737 (lv_at hl 1 rfl) ?_
    refine nv_if_ne (X := ((1 : Nat) : Int)) hx hb (nI_toInt (by omega)) (tgt := 1754) dL_law_1739 (by decide) (fun c_3 => ?_) (fun c_3 => ?_)
    · skip
      refine lv_goto (tgt := 2541) hx hb dL_law_1754 (by decide) ?_
      exact W_widen (by omega) (by omega) (kk w g g2 g3 hg nx ct co re so gw q F v ml n cp t (upn z 0 (if hasM g p0 = true then 0 else 1)) gs ar lo dO _ _ _ (rel_q hR hB4) hP hD hS (lv_sub hl [2, 3, 4, 5, 6, 7] rfl))
    · exact absurd c_3 (by omega)
set_option maxHeartbeats 4000000 in
set_option maxRecDepth 100000 in
theorem st_powerByTable {p : Program} {l : Launch} {e : Env} {s : State} {m : MethodId} {args : Array Value} {below : List Frame} {meth : Method} {c : Code} {E : EE} {A : Nat → Prop} {Q : State → Prop} {x a a2 a3 b d k pa y : Nat → Nat} {hs : Nat → Nat → Nat} {mb : Nat → Nat} {ol od sb : Nat} {i B cells slots L : Nat} {xs : Nat → Int32} (C : LCx p l s m args c E A sb L xs) (hL : L ≤ 2560) (hi : i + 5 ≤ L) (hB4 : B + 420 ≤ 300000) (hrc : cells + 13 ≤ 603072 ∧ slots + 414 ≤ 7174250) (kk : LGo p l e s m args below meth c E A Q x a a2 a3 b d k pa y hs mb ol od sb i (B + 420) (cells + 13) (slots + 414) 2541) : LGo p l e s m args below meth c E A Q x a a2 a3 b d k pa y hs mb ol od sb i B cells slots 1757 := by
  obtain ⟨hx, hb, hml, hown, hts, hK, hZ, hDD, hA, hX, hbl, hbA, hst⟩ := C
  intro w g g2 g3 hg nx ct co re so gw q F v ml n cp t z gs ar lo dO H locs ls hR hP hD hS hl
  obtain ⟨hI, ⟨hs1, hs2, hs3⟩, ⟨hnx, hct, hz1, hh9⟩, ⟨hw1, hw2, hz5, hz6⟩, ⟨hq1, hq2, hF0, hF9⟩, ⟨hn1, hn2, hcp, ht9, htx, ho2⟩⟩ := id hR
  have hmc := hI.mc
  obtain ⟨p0, hp0⟩ : ∃ y9, y9 = xs (i + 1) := ⟨_, rfl⟩
  refine lv_aload_n hx hb dL_law_1757 rfl (lv_at hl 1 rfl) ?_
  refine lv_aload_n hx hb dL_law_1758 rfl (lv_at hl 0 rfl) ?_
  refine lv_iload hx hb dL_law_1759 (lv_at hl 5 rfl) ?_
  refine lv_iconst (v := nI 1) hx hb dL_law_1761 (by decide) ?_
  refine nv_iadd hx hb dL_law_1762 ?_
  refine va_sld hx hb hX hbl hbA hS (vp_in_nI (show i + 1 < L by omega) (by omega)) dL_law_1763 ?_
  refine tp_i (show xs (nI (i + 1)).toNatClampNeg = p0 from by rw [nI_clamp (by omega), hp0]) ?_
  refine lv_aload_n hx hb dL_law_1764 rfl (lv_at hl 3 rfl) ?_
  refine run_i (S := (((Nat → Nat) × (Nat → Nat)) × Int32 × (Nat → Int64)) ⊕ Unit) (run_SW (As := [.ref (x 0), .int p0, .ref ol]) (rest := []) (bs := [loC E ol lo, dbC E od dO, coC E x a a2 a3 b d k pa y w, stC E a g, stC E a2 g2, stC E a3 g3, hhC E b hs hg nx ct, diC E d co re, grC E k so gw, prC E pa q F, sbO E y v ml n, baC E v cp t, moC E mb z g gs ar]) (cb := [loC E ol lo, coC E x a a2 a3 b d k pa y w, stC E a g, grC E k so gw]) hx hb hml hown hts hK hZ hDD hA (c_L_powerByTable l hst E _ x a a2 a3 b d k pa y w g B hI so gw p0 ol lo) l_L_243 rfl ⟨⟨rfl, rfl⟩, Nat.le_of_ble_eq_true rfl, Nat.le_of_ble_eq_true rfl⟩ [0, 2, 3, 8] rfl (by decide) hP hD hS hl.1 rfl (Nat.le_of_ble_eq_true rfl) dL_law_1765 ⟨by show cells + 1 ≤ 603072; omega, by show slots + 6 ≤ 7174250; omega⟩) hA hP hD hS (isC := [0, 2, 3, 8]) rfl [1, 4, 5, 6, 7, 9, 10, 11, 12] [9, 0, 10, 11, 1, 2, 3, 4, 12, 5, 6, 7, 8] (br := [dbC E od dO, stC E a2 g2, stC E a3 g3, hhC E b hs hg nx ct, diC E d co re, prC E pa q F, sbO E y v ml n, baC E v cp t, moC E mb z g gs ar]) (bs2 := fun u => Sum.elim (fun (vq : ((Nat → Nat) × (Nat → Nat)) × Int32 × (Nat → Int64)) => [loC E ol vq.2.2, dbC E od dO, coC E x a a2 a3 b d k pa y w, stC E a g, stC E a2 g2, stC E a3 g3, hhC E b hs hg nx ct, diC E d co re, grC E k vq.1.1 vq.1.2, prC E pa q F, sbO E y v ml n, baC E v cp t, moC E mb z g gs ar]) (fun (vq : Unit) => [loC E ol lo, dbC E od dO, coC E x a a2 a3 b d k pa y w, stC E a g, stC E a2 g2, stC E a3 g3, hhC E b hs hg nx ct, diC E d co re, grC E k so gw, prC E pa q F, sbO E y v ml n, baC E v cp t, moC E mb z g gs ar]) u) rfl (by decide) (fun u => by rcases u with u | u <;> rfl) (by decide) (fun r u H locs hw hP hD hS => ?_)
  rcases u with vq | vq
  · skip
    obtain ⟨u9, r9, lo9⟩ := vq
    have hw7 : r = nI 0 ∧ (hasM g p0 = true ∧ r9 = nI (powN g (tn p0))) ∧ lo9 0 = r9.toInt64 := hw
    clear hw
    obtain ⟨rfl, hw⟩ := hw7
    have hP : va_P E.1 vwCl ([loC E ol lo9, dbC E od dO, coC E x a a2 a3 b d k pa y w, stC E a g, stC E a2 g2, stC E a3 g3, hhC E b hs hg nx ct, diC E d co re, grC E k u9.1 u9.2, prC E pa q F, sbO E y v ml n, baC E v cp t, moC E mb z g gs ar] : List va_W).flatten H := hP
    have hD : va_D A ([loC E ol lo9, dbC E od dO, coC E x a a2 a3 b d k pa y w, stC E a g, stC E a2 g2, stC E a3 g3, hhC E b hs hg nx ct, diC E d co re, grC E k u9.1 u9.2, prC E pa q F, sbO E y v ml n, baC E v cp t, moC E mb z g gs ar] : List va_W).flatten := hD
    obtain ⟨⟨hcnd, hr9⟩, hlo⟩ := hw
    subst hr9
    refine lv_istore (lv' := [(6, .int (nI 0)), (0, .ref sb), (1, .ref (x 0)), (2, .ref (mb 0)), (3, .ref ol), (4, .ref od), (5, .int (nI i))]) hx hb dL_law_1768 hl (by decide) rfl (fun ls hl => ?_)
    refine lv_aload_n hx hb dL_law_1770 rfl (lv_at hl 3 rfl) ?_
    refine lv_aload_n hx hb dL_law_1771 rfl (lv_at hl 1 rfl) ?_
    refine lv_iload hx hb dL_law_1772 (lv_at hl 6 rfl) ?_
    refine lv_iconst (v := nI 1) hx hb dL_law_1774 (by decide) ?_
    refine nv_iadd hx hb dL_law_1775 ?_
    refine va_sld hx hb hX hbl hbA hS (vp_in_nI (show i + 1 < L by omega) (by omega)) dL_law_1776 ?_
    refine tp_i (show xs (nI (i + 1)).toNatClampNeg = p0 from by rw [nI_clamp (by omega), hp0]) ?_
    refine run_i (S := Unit) (run_V (As := [.int p0]) (rest := []) (bs := [loC E ol lo9, dbC E od dO, coC E x a a2 a3 b d k pa y w, stC E a g, stC E a2 g2, stC E a3 g3, hhC E b hs hg nx ct, diC E d co re, grC E k u9.1 u9.2, prC E pa q F, sbO E y v ml n, baC E v cp t, moC E mb z g gs ar]) (cb := [moC E mb z g gs ar]) hx hb hml hown hts hK hZ hA (c_X6_powerByTable l E _ mb z g gs ar B hI p0) l_L_245 rfl ⟨⟨rfl, rfl⟩, Nat.le_of_ble_eq_true rfl, Nat.le_of_ble_eq_true rfl⟩ 10 rfl [12] rfl (by decide) rfl hP hD hS hl.1 rfl (Nat.le_of_ble_eq_true rfl) dL_law_1777 ⟨by show (cells + 1) + 0 ≤ 603072; omega, by show (slots + 6) + 0 ≤ 7174250; omega⟩) hA hP hD hS (isC := [12]) rfl [0, 1, 2, 3, 4, 5, 6, 7, 8, 9, 10, 11] [0, 1, 2, 3, 4, 5, 6, 7, 8, 9, 10, 11, 12] (br := [loC E ol lo9, dbC E od dO, coC E x a a2 a3 b d k pa y w, stC E a g, stC E a2 g2, stC E a3 g3, hhC E b hs hg nx ct, diC E d co re, grC E k u9.1 u9.2, prC E pa q F, sbO E y v ml n, baC E v cp t]) (bs2 := fun _ => [loC E ol lo9, dbC E od dO, coC E x a a2 a3 b d k pa y w, stC E a g, stC E a2 g2, stC E a3 g3, hhC E b hs hg nx ct, diC E d co re, grC E k u9.1 u9.2, prC E pa q F, sbO E y v ml n, baC E v cp t, moC E mb (upn z 0 (if hasM g p0 = true then 0 else 1)) g gs ar]) rfl (by decide) (fun _ => rfl) (by decide) (fun r u6 H locs hw6 hP hD hS => ?_)
    have hw6 : r = nI (if hasM g p0 = true then powN g (tn p0) else 0) := hw6
    subst hw6
    refine tp_i (show nI (if hasM g p0 = true then powN g (tn p0) else 0) = nI (powN g (tn p0)) from congrArg nI (if_pos hcnd)) ?_
    refine lv_istore (lv' := [(7, .int (nI (powN g (tn p0)))), (6, .int (nI 0)), (0, .ref sb), (1, .ref (x 0)), (2, .ref (mb 0)), (3, .ref ol), (4, .ref od), (5, .int (nI i))]) hx hb dL_law_1780 hl (by decide) rfl (fun ls hl => ?_)
    refine lv_aload_n hx hb dL_law_1782 rfl (lv_at hl 4 rfl) ?_
    refine run_i (S := Unit) (run_V (As := []) (rest := []) (bs := [loC E ol lo9, dbC E od dO, coC E x a a2 a3 b d k pa y w, stC E a g, stC E a2 g2, stC E a3 g3, hhC E b hs hg nx ct, diC E d co re, grC E k u9.1 u9.2, prC E pa q F, sbO E y v ml n, baC E v cp t, moC E mb (upn z 0 (if hasM g p0 = true then 0 else 1)) g gs ar]) (cb := [moC E mb (upn z 0 (if hasM g p0 = true then 0 else 1)) g gs ar]) hx hb hml hown hts hK hZ hA (c_X6_thrown l E _ mb (upn z 0 (if hasM g p0 = true then 0 else 1)) g gs ar) l_L_152 rfl ⟨⟨rfl, rfl⟩, Nat.le_of_ble_eq_true rfl, Nat.le_of_ble_eq_true rfl⟩ 10 rfl [12] rfl (by decide) rfl hP hD hS hl.1 rfl (Nat.le_of_ble_eq_true rfl) dL_law_1783 ⟨by show ((cells + 1) + 0) + 0 ≤ 603072; omega, by show ((slots + 6) + 0) + 0 ≤ 7174250; omega⟩) hA hP hD hS (isC := [12]) rfl [0, 1, 2, 3, 4, 5, 6, 7, 8, 9, 10, 11] [0, 1, 2, 3, 4, 5, 6, 7, 8, 9, 10, 11, 12] (br := [loC E ol lo9, dbC E od dO, coC E x a a2 a3 b d k pa y w, stC E a g, stC E a2 g2, stC E a3 g3, hhC E b hs hg nx ct, diC E d co re, grC E k u9.1 u9.2, prC E pa q F, sbO E y v ml n, baC E v cp t]) (bs2 := fun _ => [loC E ol lo9, dbC E od dO, coC E x a a2 a3 b d k pa y w, stC E a g, stC E a2 g2, stC E a3 g3, hhC E b hs hg nx ct, diC E d co re, grC E k u9.1 u9.2, prC E pa q F, sbO E y v ml n, baC E v cp t, moC E mb (upn z 0 (if hasM g p0 = true then 0 else 1)) g gs ar]) rfl (by decide) (fun _ => rfl) (by decide) (fun r u6 H locs hw6 hP hD hS => ?_)
    have hw6 : r = nI ((upn z 0 (if hasM g p0 = true then 0 else 1)) 0) := hw6
    subst hw6
    refine lv_iload hx hb dL_law_1786 (lv_at hl 1 rfl) ?_
    refine lv_icmp_eq (tgt := 1793) hx hb dL_law_1788 (by decide) (fun _ => ?_) (fun hc => absurd (show nI ((upn z 0 (if hasM g p0 = true then 0 else 1)) 0) = nI 0 from congrArg nI (upn_s.trans (if_pos hcnd))) hc)
    refine lv_iload hx hb dL_law_1793 (lv_at hl 1 rfl) ?_
    refine nv_if_ne (X := ((0 : Nat) : Int)) hx hb (nI_toInt (by omega)) (tgt := 1810) dL_law_1795 (by decide) (fun c_1 => ?_) (fun c_1 => ?_)
    · exact absurd c_1 (by omega)
    · skip
      refine lv_aload_n hx hb dL_law_1798 rfl (lv_at hl 5 rfl) ?_
      refine lv_iconst (v := nI 0) hx hb dL_law_1799 (by decide) ?_
      refine va_lald hx hb hK hP 0 4 rfl rfl (vp_in_nI (show 0 < 1 by decide) (by decide)) dL_law_1800 ?_
      rw [show lo9 (nI 0).toNatClampNeg = (nI (powN g (tn p0))).toInt64 from by rw [nI_clamp (show 0 < 2 ^ 31 by decide)]; exact hlo]
      refine lv_iload hx hb dL_law_1801 (lv_at hl 0 rfl) ?_
      refine lv_i2l hx hb dL_law_1803 rfl ?_
      refine W.lcmp hx hb dL_law_1804 ?_
      refine tp_i (show lg_cmp ((nI (powN g (tn p0))).toInt64) ((nI (powN g (tn p0))).toInt64) = nI 0 from lg_eq _) ?_
      refine nv_if_eq (X := ((0 : Nat) : Int)) hx hb (nI_toInt (by omega)) (tgt := 1810) dL_law_1805 (by decide) (fun c_2 => ?_) (fun c_2 => ?_)
      · skip
        refine lv_goto (tgt := 2541) hx hb dL_law_1810 (by decide) ?_
        exact W_widen (by omega) (by omega) (kk w g g2 g3 hg nx ct co re u9.1 u9.2 q F v ml n cp t (upn z 0 (if hasM g p0 = true then 0 else 1)) gs ar lo9 dO _ _ _ (rel_q hR hB4) hP hD hS (lv_sub hl [2, 3, 4, 5, 6, 7] rfl))
      · exact absurd c_2 (by omega)
  · skip
    have hw : r = nI 1 ∧ hasM g p0 = false := hw
    have hP : va_P E.1 vwCl ([loC E ol lo, dbC E od dO, coC E x a a2 a3 b d k pa y w, stC E a g, stC E a2 g2, stC E a3 g3, hhC E b hs hg nx ct, diC E d co re, grC E k so gw, prC E pa q F, sbO E y v ml n, baC E v cp t, moC E mb z g gs ar] : List va_W).flatten H := hP
    have hD : va_D A ([loC E ol lo, dbC E od dO, coC E x a a2 a3 b d k pa y w, stC E a g, stC E a2 g2, stC E a3 g3, hhC E b hs hg nx ct, diC E d co re, grC E k so gw, prC E pa q F, sbO E y v ml n, baC E v cp t, moC E mb z g gs ar] : List va_W).flatten := hD
    obtain ⟨rfl, hq⟩ := hw
    refine lv_istore (lv' := [(6, .int (nI 1)), (0, .ref sb), (1, .ref (x 0)), (2, .ref (mb 0)), (3, .ref ol), (4, .ref od), (5, .int (nI i))]) hx hb dL_law_1768 hl (by decide) rfl (fun ls hl => ?_)
    refine lv_aload_n hx hb dL_law_1770 rfl (lv_at hl 3 rfl) ?_
    refine lv_aload_n hx hb dL_law_1771 rfl (lv_at hl 1 rfl) ?_
    refine lv_iload hx hb dL_law_1772 (lv_at hl 6 rfl) ?_
    refine lv_iconst (v := nI 1) hx hb dL_law_1774 (by decide) ?_
    refine nv_iadd hx hb dL_law_1775 ?_
    refine va_sld hx hb hX hbl hbA hS (vp_in_nI (show i + 1 < L by omega) (by omega)) dL_law_1776 ?_
    refine tp_i (show xs (nI (i + 1)).toNatClampNeg = p0 from by rw [nI_clamp (by omega), hp0]) ?_
    refine run_i (S := Unit) (run_V (As := [.int p0]) (rest := []) (bs := [loC E ol lo, dbC E od dO, coC E x a a2 a3 b d k pa y w, stC E a g, stC E a2 g2, stC E a3 g3, hhC E b hs hg nx ct, diC E d co re, grC E k so gw, prC E pa q F, sbO E y v ml n, baC E v cp t, moC E mb z g gs ar]) (cb := [moC E mb z g gs ar]) hx hb hml hown hts hK hZ hA (c_X6_powerByTable l E _ mb z g gs ar B hI p0) l_L_245 rfl ⟨⟨rfl, rfl⟩, Nat.le_of_ble_eq_true rfl, Nat.le_of_ble_eq_true rfl⟩ 10 rfl [12] rfl (by decide) rfl hP hD hS hl.1 rfl (Nat.le_of_ble_eq_true rfl) dL_law_1777 ⟨by show (cells + 1) + 0 ≤ 603072; omega, by show (slots + 6) + 0 ≤ 7174250; omega⟩) hA hP hD hS (isC := [12]) rfl [0, 1, 2, 3, 4, 5, 6, 7, 8, 9, 10, 11] [0, 1, 2, 3, 4, 5, 6, 7, 8, 9, 10, 11, 12] (br := [loC E ol lo, dbC E od dO, coC E x a a2 a3 b d k pa y w, stC E a g, stC E a2 g2, stC E a3 g3, hhC E b hs hg nx ct, diC E d co re, grC E k so gw, prC E pa q F, sbO E y v ml n, baC E v cp t]) (bs2 := fun _ => [loC E ol lo, dbC E od dO, coC E x a a2 a3 b d k pa y w, stC E a g, stC E a2 g2, stC E a3 g3, hhC E b hs hg nx ct, diC E d co re, grC E k so gw, prC E pa q F, sbO E y v ml n, baC E v cp t, moC E mb (upn z 0 (if hasM g p0 = true then 0 else 1)) g gs ar]) rfl (by decide) (fun _ => rfl) (by decide) (fun r u6 H locs hw6 hP hD hS => ?_)
    have hw6 : r = nI (if hasM g p0 = true then powN g (tn p0) else 0) := hw6
    subst hw6
    refine lv_istore (lv' := [(7, .int (nI (if hasM g p0 = true then powN g (tn p0) else 0))), (6, .int (nI 1)), (0, .ref sb), (1, .ref (x 0)), (2, .ref (mb 0)), (3, .ref ol), (4, .ref od), (5, .int (nI i))]) hx hb dL_law_1780 hl (by decide) rfl (fun ls hl => ?_)
    refine lv_aload_n hx hb dL_law_1782 rfl (lv_at hl 4 rfl) ?_
    refine run_i (S := Unit) (run_V (As := []) (rest := []) (bs := [loC E ol lo, dbC E od dO, coC E x a a2 a3 b d k pa y w, stC E a g, stC E a2 g2, stC E a3 g3, hhC E b hs hg nx ct, diC E d co re, grC E k so gw, prC E pa q F, sbO E y v ml n, baC E v cp t, moC E mb (upn z 0 (if hasM g p0 = true then 0 else 1)) g gs ar]) (cb := [moC E mb (upn z 0 (if hasM g p0 = true then 0 else 1)) g gs ar]) hx hb hml hown hts hK hZ hA (c_X6_thrown l E _ mb (upn z 0 (if hasM g p0 = true then 0 else 1)) g gs ar) l_L_152 rfl ⟨⟨rfl, rfl⟩, Nat.le_of_ble_eq_true rfl, Nat.le_of_ble_eq_true rfl⟩ 10 rfl [12] rfl (by decide) rfl hP hD hS hl.1 rfl (Nat.le_of_ble_eq_true rfl) dL_law_1783 ⟨by show ((cells + 1) + 0) + 0 ≤ 603072; omega, by show ((slots + 6) + 0) + 0 ≤ 7174250; omega⟩) hA hP hD hS (isC := [12]) rfl [0, 1, 2, 3, 4, 5, 6, 7, 8, 9, 10, 11] [0, 1, 2, 3, 4, 5, 6, 7, 8, 9, 10, 11, 12] (br := [loC E ol lo, dbC E od dO, coC E x a a2 a3 b d k pa y w, stC E a g, stC E a2 g2, stC E a3 g3, hhC E b hs hg nx ct, diC E d co re, grC E k so gw, prC E pa q F, sbO E y v ml n, baC E v cp t]) (bs2 := fun _ => [loC E ol lo, dbC E od dO, coC E x a a2 a3 b d k pa y w, stC E a g, stC E a2 g2, stC E a3 g3, hhC E b hs hg nx ct, diC E d co re, grC E k so gw, prC E pa q F, sbO E y v ml n, baC E v cp t, moC E mb (upn z 0 (if hasM g p0 = true then 0 else 1)) g gs ar]) rfl (by decide) (fun _ => rfl) (by decide) (fun r u6 H locs hw6 hP hD hS => ?_)
    have hw6 : r = nI ((upn z 0 (if hasM g p0 = true then 0 else 1)) 0) := hw6
    subst hw6
    refine lv_iload hx hb dL_law_1786 (lv_at hl 1 rfl) ?_
    refine lv_icmp_eq (tgt := 1793) hx hb dL_law_1788 (by decide) (fun _ => ?_) (fun hc => absurd (show nI ((upn z 0 (if hasM g p0 = true then 0 else 1)) 0) = nI 1 from congrArg nI (upn_s.trans (if_neg (fun h9 => by rw [hq] at h9; cases h9)))) hc)
    refine lv_iload hx hb dL_law_1793 (lv_at hl 1 rfl) ?_
    refine nv_if_ne (X := ((1 : Nat) : Int)) hx hb (nI_toInt (by omega)) (tgt := 1810) dL_law_1795 (by decide) (fun c_3 => ?_) (fun c_3 => ?_)
    · skip
      refine lv_goto (tgt := 2541) hx hb dL_law_1810 (by decide) ?_
      exact W_widen (by omega) (by omega) (kk w g g2 g3 hg nx ct co re so gw q F v ml n cp t (upn z 0 (if hasM g p0 = true then 0 else 1)) gs ar lo dO _ _ _ (rel_q hR hB4) hP hD hS (lv_sub hl [2, 3, 4, 5, 6, 7] rfl))
    · exact absurd c_3 (by omega)
set_option maxHeartbeats 4000000 in
set_option maxRecDepth 100000 in
theorem st_smallestMajority {p : Program} {l : Launch} {e : Env} {s : State} {m : MethodId} {args : Array Value} {below : List Frame} {meth : Method} {c : Code} {E : EE} {A : Nat → Prop} {Q : State → Prop} {x a a2 a3 b d k pa y : Nat → Nat} {hs : Nat → Nat → Nat} {mb : Nat → Nat} {ol od sb : Nat} {i B cells slots L : Nat} {xs : Nat → Int32} (C : LCx p l s m args c E A sb L xs) (hL : L ≤ 2560) (hi : i + 5 ≤ L) (hB4 : B + 420 ≤ 300000) (hrc : cells + 13 ≤ 603072 ∧ slots + 414 ≤ 7174250) (kk : LGo p l e s m args below meth c E A Q x a a2 a3 b d k pa y hs mb ol od sb i (B + 420) (cells + 13) (slots + 414) 2541) : LGo p l e s m args below meth c E A Q x a a2 a3 b d k pa y hs mb ol od sb i B cells slots 1813 := by
  obtain ⟨hx, hb, hml, hown, hts, hK, hZ, hDD, hA, hX, hbl, hbA, hst⟩ := C
  intro w g g2 g3 hg nx ct co re so gw q F v ml n cp t z gs ar lo dO H locs ls hR hP hD hS hl
  obtain ⟨hI, ⟨hs1, hs2, hs3⟩, ⟨hnx, hct, hz1, hh9⟩, ⟨hw1, hw2, hz5, hz6⟩, ⟨hq1, hq2, hF0, hF9⟩, ⟨hn1, hn2, hcp, ht9, htx, ho2⟩⟩ := id hR
  have hmc := hI.mc
  refine lv_aload_n hx hb dL_law_1813 rfl (lv_at hl 1 rfl) ?_
  refine lv_aload_n hx hb dL_law_1814 rfl (lv_at hl 3 rfl) ?_
  refine run_i (S := (((Nat → Nat) × (Nat → Nat)) × Int32 × (Nat → Int64)) ⊕ Unit) (run_SW (As := [.ref (x 0), .ref ol]) (rest := []) (bs := [loC E ol lo, dbC E od dO, coC E x a a2 a3 b d k pa y w, stC E a g, stC E a2 g2, stC E a3 g3, hhC E b hs hg nx ct, diC E d co re, grC E k so gw, prC E pa q F, sbO E y v ml n, baC E v cp t, moC E mb z g gs ar]) (cb := [loC E ol lo, coC E x a a2 a3 b d k pa y w, stC E a g, grC E k so gw]) hx hb hml hown hts hK hZ hDD hA (c_L_smallestMajority l hst E _ x a a2 a3 b d k pa y w g B hI so gw ol lo) l_L_246 rfl ⟨⟨rfl, rfl⟩, Nat.le_of_ble_eq_true rfl, Nat.le_of_ble_eq_true rfl⟩ [0, 2, 3, 8] rfl (by decide) hP hD hS hl.1 rfl (Nat.le_of_ble_eq_true rfl) dL_law_1815 ⟨by show cells + 1 ≤ 603072; omega, by show slots + 6 ≤ 7174250; omega⟩) hA hP hD hS (isC := [0, 2, 3, 8]) rfl [1, 4, 5, 6, 7, 9, 10, 11, 12] [9, 0, 10, 11, 1, 2, 3, 4, 12, 5, 6, 7, 8] (br := [dbC E od dO, stC E a2 g2, stC E a3 g3, hhC E b hs hg nx ct, diC E d co re, prC E pa q F, sbO E y v ml n, baC E v cp t, moC E mb z g gs ar]) (bs2 := fun u => Sum.elim (fun (vq : ((Nat → Nat) × (Nat → Nat)) × Int32 × (Nat → Int64)) => [loC E ol vq.2.2, dbC E od dO, coC E x a a2 a3 b d k pa y w, stC E a g, stC E a2 g2, stC E a3 g3, hhC E b hs hg nx ct, diC E d co re, grC E k vq.1.1 vq.1.2, prC E pa q F, sbO E y v ml n, baC E v cp t, moC E mb z g gs ar]) (fun (vq : Unit) => [loC E ol lo, dbC E od dO, coC E x a a2 a3 b d k pa y w, stC E a g, stC E a2 g2, stC E a3 g3, hhC E b hs hg nx ct, diC E d co re, grC E k so gw, prC E pa q F, sbO E y v ml n, baC E v cp t, moC E mb z g gs ar]) u) rfl (by decide) (fun u => by rcases u with u | u <;> rfl) (by decide) (fun r u H locs hw hP hD hS => ?_)
  rcases u with vq | vq
  · skip
    obtain ⟨u9, r9, lo9⟩ := vq
    have hw7 : r = nI 0 ∧ (g 8 0 ≠ 0 ∧ r9 = nI (few8 g (2 ^ g 8 0))) ∧ lo9 0 = r9.toInt64 := hw
    clear hw
    obtain ⟨rfl, hw⟩ := hw7
    have hP : va_P E.1 vwCl ([loC E ol lo9, dbC E od dO, coC E x a a2 a3 b d k pa y w, stC E a g, stC E a2 g2, stC E a3 g3, hhC E b hs hg nx ct, diC E d co re, grC E k u9.1 u9.2, prC E pa q F, sbO E y v ml n, baC E v cp t, moC E mb z g gs ar] : List va_W).flatten H := hP
    have hD : va_D A ([loC E ol lo9, dbC E od dO, coC E x a a2 a3 b d k pa y w, stC E a g, stC E a2 g2, stC E a3 g3, hhC E b hs hg nx ct, diC E d co re, grC E k u9.1 u9.2, prC E pa q F, sbO E y v ml n, baC E v cp t, moC E mb z g gs ar] : List va_W).flatten := hD
    obtain ⟨⟨hcnd, hr9⟩, hlo⟩ := hw
    subst hr9
    refine lv_istore (lv' := [(6, .int (nI 0)), (0, .ref sb), (1, .ref (x 0)), (2, .ref (mb 0)), (3, .ref ol), (4, .ref od), (5, .int (nI i))]) hx hb dL_law_1818 hl (by decide) rfl (fun ls hl => ?_)
    refine lv_aload_n hx hb dL_law_1820 rfl (lv_at hl 3 rfl) ?_
    refine run_i (S := Unit) (run_V (As := []) (rest := []) (bs := [loC E ol lo9, dbC E od dO, coC E x a a2 a3 b d k pa y w, stC E a g, stC E a2 g2, stC E a3 g3, hhC E b hs hg nx ct, diC E d co re, grC E k u9.1 u9.2, prC E pa q F, sbO E y v ml n, baC E v cp t, moC E mb z g gs ar]) (cb := [moC E mb z g gs ar]) hx hb hml hown hts hK hZ hA (c_X6_smallestMajority l E _ mb z g gs ar B hI) l_L_248 rfl ⟨⟨rfl, rfl⟩, Nat.le_of_ble_eq_true rfl, Nat.le_of_ble_eq_true rfl⟩ 10 rfl [12] rfl (by decide) rfl hP hD hS hl.1 rfl (Nat.le_of_ble_eq_true rfl) dL_law_1821 ⟨by show (cells + 1) + 0 ≤ 603072; omega, by show (slots + 6) + 0 ≤ 7174250; omega⟩) hA hP hD hS (isC := [12]) rfl [0, 1, 2, 3, 4, 5, 6, 7, 8, 9, 10, 11] [0, 1, 2, 3, 4, 5, 6, 7, 8, 9, 10, 11, 12] (br := [loC E ol lo9, dbC E od dO, coC E x a a2 a3 b d k pa y w, stC E a g, stC E a2 g2, stC E a3 g3, hhC E b hs hg nx ct, diC E d co re, grC E k u9.1 u9.2, prC E pa q F, sbO E y v ml n, baC E v cp t]) (bs2 := fun _ => [loC E ol lo9, dbC E od dO, coC E x a a2 a3 b d k pa y w, stC E a g, stC E a2 g2, stC E a3 g3, hhC E b hs hg nx ct, diC E d co re, grC E k u9.1 u9.2, prC E pa q F, sbO E y v ml n, baC E v cp t, moC E mb (upn z 0 (if g 8 0 = 0 then 1 else 0)) g gs ar]) rfl (by decide) (fun _ => rfl) (by decide) (fun r u6 H locs hw6 hP hD hS => ?_)
    have hw6 : r = nI (if g 8 0 = 0 then 0 else few8 g (2 ^ g 8 0)) := hw6
    subst hw6
    refine tp_i (show nI (if g 8 0 = 0 then 0 else few8 g (2 ^ g 8 0)) = nI (few8 g (2 ^ g 8 0)) from congrArg nI (if_neg hcnd)) ?_
    refine lv_istore (lv' := [(7, .int (nI (few8 g (2 ^ g 8 0)))), (6, .int (nI 0)), (0, .ref sb), (1, .ref (x 0)), (2, .ref (mb 0)), (3, .ref ol), (4, .ref od), (5, .int (nI i))]) hx hb dL_law_1824 hl (by decide) rfl (fun ls hl => ?_)
    refine lv_aload_n hx hb dL_law_1826 rfl (lv_at hl 4 rfl) ?_
    refine run_i (S := Unit) (run_V (As := []) (rest := []) (bs := [loC E ol lo9, dbC E od dO, coC E x a a2 a3 b d k pa y w, stC E a g, stC E a2 g2, stC E a3 g3, hhC E b hs hg nx ct, diC E d co re, grC E k u9.1 u9.2, prC E pa q F, sbO E y v ml n, baC E v cp t, moC E mb (upn z 0 (if g 8 0 = 0 then 1 else 0)) g gs ar]) (cb := [moC E mb (upn z 0 (if g 8 0 = 0 then 1 else 0)) g gs ar]) hx hb hml hown hts hK hZ hA (c_X6_thrown l E _ mb (upn z 0 (if g 8 0 = 0 then 1 else 0)) g gs ar) l_L_152 rfl ⟨⟨rfl, rfl⟩, Nat.le_of_ble_eq_true rfl, Nat.le_of_ble_eq_true rfl⟩ 10 rfl [12] rfl (by decide) rfl hP hD hS hl.1 rfl (Nat.le_of_ble_eq_true rfl) dL_law_1827 ⟨by show ((cells + 1) + 0) + 0 ≤ 603072; omega, by show ((slots + 6) + 0) + 0 ≤ 7174250; omega⟩) hA hP hD hS (isC := [12]) rfl [0, 1, 2, 3, 4, 5, 6, 7, 8, 9, 10, 11] [0, 1, 2, 3, 4, 5, 6, 7, 8, 9, 10, 11, 12] (br := [loC E ol lo9, dbC E od dO, coC E x a a2 a3 b d k pa y w, stC E a g, stC E a2 g2, stC E a3 g3, hhC E b hs hg nx ct, diC E d co re, grC E k u9.1 u9.2, prC E pa q F, sbO E y v ml n, baC E v cp t]) (bs2 := fun _ => [loC E ol lo9, dbC E od dO, coC E x a a2 a3 b d k pa y w, stC E a g, stC E a2 g2, stC E a3 g3, hhC E b hs hg nx ct, diC E d co re, grC E k u9.1 u9.2, prC E pa q F, sbO E y v ml n, baC E v cp t, moC E mb (upn z 0 (if g 8 0 = 0 then 1 else 0)) g gs ar]) rfl (by decide) (fun _ => rfl) (by decide) (fun r u6 H locs hw6 hP hD hS => ?_)
    have hw6 : r = nI ((upn z 0 (if g 8 0 = 0 then 1 else 0)) 0) := hw6
    subst hw6
    refine lv_iload hx hb dL_law_1830 (lv_at hl 1 rfl) ?_
    refine lv_icmp_eq (tgt := 1837) hx hb dL_law_1832 (by decide) (fun _ => ?_) (fun hc => absurd (show nI ((upn z 0 (if g 8 0 = 0 then 1 else 0)) 0) = nI 0 from congrArg nI (upn_s.trans (if_neg hcnd))) hc)
    refine lv_iload hx hb dL_law_1837 (lv_at hl 1 rfl) ?_
    refine nv_if_ne (X := ((0 : Nat) : Int)) hx hb (nI_toInt (by omega)) (tgt := 1854) dL_law_1839 (by decide) (fun c_1 => ?_) (fun c_1 => ?_)
    · exact absurd c_1 (by omega)
    · skip
      refine lv_aload_n hx hb dL_law_1842 rfl (lv_at hl 5 rfl) ?_
      refine lv_iconst (v := nI 0) hx hb dL_law_1843 (by decide) ?_
      refine va_lald hx hb hK hP 0 4 rfl rfl (vp_in_nI (show 0 < 1 by decide) (by decide)) dL_law_1844 ?_
      rw [show lo9 (nI 0).toNatClampNeg = (nI (few8 g (2 ^ g 8 0))).toInt64 from by rw [nI_clamp (show 0 < 2 ^ 31 by decide)]; exact hlo]
      refine lv_iload hx hb dL_law_1845 (lv_at hl 0 rfl) ?_
      refine lv_i2l hx hb dL_law_1847 rfl ?_
      refine W.lcmp hx hb dL_law_1848 ?_
      refine tp_i (show lg_cmp ((nI (few8 g (2 ^ g 8 0))).toInt64) ((nI (few8 g (2 ^ g 8 0))).toInt64) = nI 0 from lg_eq _) ?_
      refine nv_if_eq (X := ((0 : Nat) : Int)) hx hb (nI_toInt (by omega)) (tgt := 1854) dL_law_1849 (by decide) (fun c_2 => ?_) (fun c_2 => ?_)
      · skip
        refine lv_goto (tgt := 2541) hx hb dL_law_1854 (by decide) ?_
        exact W_widen (by omega) (by omega) (kk w g g2 g3 hg nx ct co re u9.1 u9.2 q F v ml n cp t (upn z 0 (if g 8 0 = 0 then 1 else 0)) gs ar lo9 dO _ _ _ (rel_q hR hB4) hP hD hS (lv_sub hl [2, 3, 4, 5, 6, 7] rfl))
      · exact absurd c_2 (by omega)
  · skip
    have hw : r = nI 1 ∧ g 8 0 = 0 := hw
    have hP : va_P E.1 vwCl ([loC E ol lo, dbC E od dO, coC E x a a2 a3 b d k pa y w, stC E a g, stC E a2 g2, stC E a3 g3, hhC E b hs hg nx ct, diC E d co re, grC E k so gw, prC E pa q F, sbO E y v ml n, baC E v cp t, moC E mb z g gs ar] : List va_W).flatten H := hP
    have hD : va_D A ([loC E ol lo, dbC E od dO, coC E x a a2 a3 b d k pa y w, stC E a g, stC E a2 g2, stC E a3 g3, hhC E b hs hg nx ct, diC E d co re, grC E k so gw, prC E pa q F, sbO E y v ml n, baC E v cp t, moC E mb z g gs ar] : List va_W).flatten := hD
    obtain ⟨rfl, hq⟩ := hw
    refine lv_istore (lv' := [(6, .int (nI 1)), (0, .ref sb), (1, .ref (x 0)), (2, .ref (mb 0)), (3, .ref ol), (4, .ref od), (5, .int (nI i))]) hx hb dL_law_1818 hl (by decide) rfl (fun ls hl => ?_)
    refine lv_aload_n hx hb dL_law_1820 rfl (lv_at hl 3 rfl) ?_
    refine run_i (S := Unit) (run_V (As := []) (rest := []) (bs := [loC E ol lo, dbC E od dO, coC E x a a2 a3 b d k pa y w, stC E a g, stC E a2 g2, stC E a3 g3, hhC E b hs hg nx ct, diC E d co re, grC E k so gw, prC E pa q F, sbO E y v ml n, baC E v cp t, moC E mb z g gs ar]) (cb := [moC E mb z g gs ar]) hx hb hml hown hts hK hZ hA (c_X6_smallestMajority l E _ mb z g gs ar B hI) l_L_248 rfl ⟨⟨rfl, rfl⟩, Nat.le_of_ble_eq_true rfl, Nat.le_of_ble_eq_true rfl⟩ 10 rfl [12] rfl (by decide) rfl hP hD hS hl.1 rfl (Nat.le_of_ble_eq_true rfl) dL_law_1821 ⟨by show (cells + 1) + 0 ≤ 603072; omega, by show (slots + 6) + 0 ≤ 7174250; omega⟩) hA hP hD hS (isC := [12]) rfl [0, 1, 2, 3, 4, 5, 6, 7, 8, 9, 10, 11] [0, 1, 2, 3, 4, 5, 6, 7, 8, 9, 10, 11, 12] (br := [loC E ol lo, dbC E od dO, coC E x a a2 a3 b d k pa y w, stC E a g, stC E a2 g2, stC E a3 g3, hhC E b hs hg nx ct, diC E d co re, grC E k so gw, prC E pa q F, sbO E y v ml n, baC E v cp t]) (bs2 := fun _ => [loC E ol lo, dbC E od dO, coC E x a a2 a3 b d k pa y w, stC E a g, stC E a2 g2, stC E a3 g3, hhC E b hs hg nx ct, diC E d co re, grC E k so gw, prC E pa q F, sbO E y v ml n, baC E v cp t, moC E mb (upn z 0 (if g 8 0 = 0 then 1 else 0)) g gs ar]) rfl (by decide) (fun _ => rfl) (by decide) (fun r u6 H locs hw6 hP hD hS => ?_)
    have hw6 : r = nI (if g 8 0 = 0 then 0 else few8 g (2 ^ g 8 0)) := hw6
    subst hw6
    refine lv_istore (lv' := [(7, .int (nI (if g 8 0 = 0 then 0 else few8 g (2 ^ g 8 0)))), (6, .int (nI 1)), (0, .ref sb), (1, .ref (x 0)), (2, .ref (mb 0)), (3, .ref ol), (4, .ref od), (5, .int (nI i))]) hx hb dL_law_1824 hl (by decide) rfl (fun ls hl => ?_)
    refine lv_aload_n hx hb dL_law_1826 rfl (lv_at hl 4 rfl) ?_
    refine run_i (S := Unit) (run_V (As := []) (rest := []) (bs := [loC E ol lo, dbC E od dO, coC E x a a2 a3 b d k pa y w, stC E a g, stC E a2 g2, stC E a3 g3, hhC E b hs hg nx ct, diC E d co re, grC E k so gw, prC E pa q F, sbO E y v ml n, baC E v cp t, moC E mb (upn z 0 (if g 8 0 = 0 then 1 else 0)) g gs ar]) (cb := [moC E mb (upn z 0 (if g 8 0 = 0 then 1 else 0)) g gs ar]) hx hb hml hown hts hK hZ hA (c_X6_thrown l E _ mb (upn z 0 (if g 8 0 = 0 then 1 else 0)) g gs ar) l_L_152 rfl ⟨⟨rfl, rfl⟩, Nat.le_of_ble_eq_true rfl, Nat.le_of_ble_eq_true rfl⟩ 10 rfl [12] rfl (by decide) rfl hP hD hS hl.1 rfl (Nat.le_of_ble_eq_true rfl) dL_law_1827 ⟨by show ((cells + 1) + 0) + 0 ≤ 603072; omega, by show ((slots + 6) + 0) + 0 ≤ 7174250; omega⟩) hA hP hD hS (isC := [12]) rfl [0, 1, 2, 3, 4, 5, 6, 7, 8, 9, 10, 11] [0, 1, 2, 3, 4, 5, 6, 7, 8, 9, 10, 11, 12] (br := [loC E ol lo, dbC E od dO, coC E x a a2 a3 b d k pa y w, stC E a g, stC E a2 g2, stC E a3 g3, hhC E b hs hg nx ct, diC E d co re, grC E k so gw, prC E pa q F, sbO E y v ml n, baC E v cp t]) (bs2 := fun _ => [loC E ol lo, dbC E od dO, coC E x a a2 a3 b d k pa y w, stC E a g, stC E a2 g2, stC E a3 g3, hhC E b hs hg nx ct, diC E d co re, grC E k so gw, prC E pa q F, sbO E y v ml n, baC E v cp t, moC E mb (upn z 0 (if g 8 0 = 0 then 1 else 0)) g gs ar]) rfl (by decide) (fun _ => rfl) (by decide) (fun r u6 H locs hw6 hP hD hS => ?_)
    have hw6 : r = nI ((upn z 0 (if g 8 0 = 0 then 1 else 0)) 0) := hw6
    subst hw6
    refine lv_iload hx hb dL_law_1830 (lv_at hl 1 rfl) ?_
    refine lv_icmp_eq (tgt := 1837) hx hb dL_law_1832 (by decide) (fun _ => ?_) (fun hc => absurd (show nI ((upn z 0 (if g 8 0 = 0 then 1 else 0)) 0) = nI 1 from congrArg nI (upn_s.trans (if_pos hq))) hc)
    refine lv_iload hx hb dL_law_1837 (lv_at hl 1 rfl) ?_
    refine nv_if_ne (X := ((1 : Nat) : Int)) hx hb (nI_toInt (by omega)) (tgt := 1854) dL_law_1839 (by decide) (fun c_3 => ?_) (fun c_3 => ?_)
    · skip
      refine lv_goto (tgt := 2541) hx hb dL_law_1854 (by decide) ?_
      exact W_widen (by omega) (by omega) (kk w g g2 g3 hg nx ct co re so gw q F v ml n cp t (upn z 0 (if g 8 0 = 0 then 1 else 0)) gs ar lo dO _ _ _ (rel_q hR hB4) hP hD hS (lv_sub hl [2, 3, 4, 5, 6, 7] rfl))
    · exact absurd c_3 (by omega)
set_option maxHeartbeats 4000000 in
set_option maxRecDepth 100000 in
theorem st_beat {p : Program} {l : Launch} {e : Env} {s : State} {m : MethodId} {args : Array Value} {below : List Frame} {meth : Method} {c : Code} {E : EE} {A : Nat → Prop} {Q : State → Prop} {x a a2 a3 b d k pa y : Nat → Nat} {hs : Nat → Nat → Nat} {mb : Nat → Nat} {ol od sb : Nat} {i B cells slots L : Nat} {xs : Nat → Int32} (C : LCx p l s m args c E A sb L xs) (hL : L ≤ 2560) (hi : i + 5 ≤ L) (hB4 : B + 420 ≤ 300000) (hrc : cells + 13 ≤ 603072 ∧ slots + 414 ≤ 7174250) (kk : LGo p l e s m args below meth c E A Q x a a2 a3 b d k pa y hs mb ol od sb i (B + 420) (cells + 13) (slots + 414) 2541) : LGo p l e s m args below meth c E A Q x a a2 a3 b d k pa y hs mb ol od sb i B cells slots 1857 := by
  obtain ⟨hx, hb, hml, hown, hts, hK, hZ, hDD, hA, hX, hbl, hbA, hst⟩ := C
  intro w g g2 g3 hg nx ct co re so gw q F v ml n cp t z gs ar lo dO H locs ls hR hP hD hS hl
  obtain ⟨hI, ⟨hs1, hs2, hs3⟩, ⟨hnx, hct, hz1, hh9⟩, ⟨hw1, hw2, hz5, hz6⟩, ⟨hq1, hq2, hF0, hF9⟩, ⟨hn1, hn2, hcp, ht9, htx, ho2⟩⟩ := id hR
  have hmc := hI.mc
  refine lv_aload_n hx hb dL_law_1857 rfl (lv_at hl 1 rfl) ?_
  refine run_i (S := Unit) (run_V (As := []) (rest := []) (bs := [loC E ol lo, dbC E od dO, coC E x a a2 a3 b d k pa y w, stC E a g, stC E a2 g2, stC E a3 g3, hhC E b hs hg nx ct, diC E d co re, grC E k so gw, prC E pa q F, sbO E y v ml n, baC E v cp t, moC E mb z g gs ar]) (cb := [coC E x a a2 a3 b d k pa y w, stC E a g]) hx hb hml hown hts hK hZ hA (c_X5_beat l E _ x a a2 a3 b d k pa y w g B hI) l_L_249 rfl ⟨⟨rfl, rfl⟩, Nat.le_of_ble_eq_true rfl, Nat.le_of_ble_eq_true rfl⟩ 9 rfl [2, 3] rfl (by decide) rfl hP hD hS hl.1 rfl (Nat.le_of_ble_eq_true rfl) dL_law_1858 ⟨by show cells + 0 ≤ 603072; omega, by show slots + 0 ≤ 7174250; omega⟩) hA hP hD hS (isC := [2, 3]) rfl [0, 1, 4, 5, 6, 7, 8, 9, 10, 11, 12] [0, 1, 11, 12, 2, 3, 4, 5, 6, 7, 8, 9, 10] (br := [loC E ol lo, dbC E od dO, stC E a2 g2, stC E a3 g3, hhC E b hs hg nx ct, diC E d co re, grC E k so gw, prC E pa q F, sbO E y v ml n, baC E v cp t, moC E mb z g gs ar]) (bs2 := fun _ => [loC E ol lo, dbC E od dO, coC E x a a2 a3 b d k pa y w, stC E a g, stC E a2 g2, stC E a3 g3, hhC E b hs hg nx ct, diC E d co re, grC E k so gw, prC E pa q F, sbO E y v ml n, baC E v cp t, moC E mb z g gs ar]) rfl (by decide) (fun _ => rfl) (by decide) (fun r u5 H locs hw6 hP hD hS => ?_)
  have hw6 : r = nI (g 8 1) := hw6
  subst hw6
  refine lv_aload_n hx hb dL_law_1861 rfl (lv_at hl 2 rfl) ?_
  refine run_i (S := Unit) (run_V (As := []) (rest := [.int (nI (g 8 1))]) (bs := [loC E ol lo, dbC E od dO, coC E x a a2 a3 b d k pa y w, stC E a g, stC E a2 g2, stC E a3 g3, hhC E b hs hg nx ct, diC E d co re, grC E k so gw, prC E pa q F, sbO E y v ml n, baC E v cp t, moC E mb z g gs ar]) (cb := [moC E mb z g gs ar]) hx hb hml hown hts hK hZ hA (c_X6_beat l E _ mb z g gs ar) l_L_252 rfl ⟨⟨rfl, rfl⟩, Nat.le_of_ble_eq_true rfl, Nat.le_of_ble_eq_true rfl⟩ 10 rfl [12] rfl (by decide) rfl hP hD hS hl.1 rfl (Nat.le_of_ble_eq_true rfl) dL_law_1862 ⟨by show (cells + 0) + 0 ≤ 603072; omega, by show (slots + 0) + 0 ≤ 7174250; omega⟩) hA hP hD hS (isC := [12]) rfl [0, 1, 2, 3, 4, 5, 6, 7, 8, 9, 10, 11] [0, 1, 2, 3, 4, 5, 6, 7, 8, 9, 10, 11, 12] (br := [loC E ol lo, dbC E od dO, coC E x a a2 a3 b d k pa y w, stC E a g, stC E a2 g2, stC E a3 g3, hhC E b hs hg nx ct, diC E d co re, grC E k so gw, prC E pa q F, sbO E y v ml n, baC E v cp t]) (bs2 := fun _ => [loC E ol lo, dbC E od dO, coC E x a a2 a3 b d k pa y w, stC E a g, stC E a2 g2, stC E a3 g3, hhC E b hs hg nx ct, diC E d co re, grC E k so gw, prC E pa q F, sbO E y v ml n, baC E v cp t, moC E mb (upn z 0 0) g gs ar]) rfl (by decide) (fun _ => rfl) (by decide) (fun r u6 H locs hw6 hP hD hS => ?_)
  have hw6 : r = nI (g 8 1) := hw6
  subst hw6
  refine lv_icmp_eq (tgt := 2541) hx hb dL_law_1865 (by decide) (fun _ => ?_) (fun hc => absurd (show nI (g 8 1) = nI (g 8 1) from rfl) hc)
  exact W_widen (by omega) (by omega) (kk w g g2 g3 hg nx ct co re so gw q F v ml n cp t (upn z 0 0) gs ar lo dO _ _ _ (rel_q hR hB4) hP hD hS (lv_sub hl [0, 1, 2, 3, 4, 5] rfl))
set_option maxHeartbeats 4000000 in
set_option maxRecDepth 100000 in
theorem st_surplus {p : Program} {l : Launch} {e : Env} {s : State} {m : MethodId} {args : Array Value} {below : List Frame} {meth : Method} {c : Code} {E : EE} {A : Nat → Prop} {Q : State → Prop} {x a a2 a3 b d k pa y : Nat → Nat} {hs : Nat → Nat → Nat} {mb : Nat → Nat} {ol od sb : Nat} {i B cells slots L : Nat} {xs : Nat → Int32} (C : LCx p l s m args c E A sb L xs) (hL : L ≤ 2560) (hi : i + 5 ≤ L) (hB4 : B + 420 ≤ 300000) (hrc : cells + 13 ≤ 603072 ∧ slots + 414 ≤ 7174250) (kk : LGo p l e s m args below meth c E A Q x a a2 a3 b d k pa y hs mb ol od sb i (B + 420) (cells + 13) (slots + 414) 2541) : LGo p l e s m args below meth c E A Q x a a2 a3 b d k pa y hs mb ol od sb i B cells slots 1870 := by
  obtain ⟨hx, hb, hml, hown, hts, hK, hZ, hDD, hA, hX, hbl, hbA, hst⟩ := C
  intro w g g2 g3 hg nx ct co re so gw q F v ml n cp t z gs ar lo dO H locs ls hR hP hD hS hl
  obtain ⟨hI, ⟨hs1, hs2, hs3⟩, ⟨hnx, hct, hz1, hh9⟩, ⟨hw1, hw2, hz5, hz6⟩, ⟨hq1, hq2, hF0, hF9⟩, ⟨hn1, hn2, hcp, ht9, htx, ho2⟩⟩ := id hR
  have hmc := hI.mc
  refine lv_aload_n hx hb dL_law_1870 rfl (lv_at hl 1 rfl) ?_
  refine run_i (S := Unit) (run_V (As := []) (rest := []) (bs := [loC E ol lo, dbC E od dO, coC E x a a2 a3 b d k pa y w, stC E a g, stC E a2 g2, stC E a3 g3, hhC E b hs hg nx ct, diC E d co re, grC E k so gw, prC E pa q F, sbO E y v ml n, baC E v cp t, moC E mb z g gs ar]) (cb := [coC E x a a2 a3 b d k pa y w, stC E a g]) hx hb hml hown hts hK hZ hA (c_X5_surplus l E _ x a a2 a3 b d k pa y w g B hI) l_L_253 rfl ⟨⟨rfl, rfl⟩, Nat.le_of_ble_eq_true rfl, Nat.le_of_ble_eq_true rfl⟩ 9 rfl [2, 3] rfl (by decide) rfl hP hD hS hl.1 rfl (Nat.le_of_ble_eq_true rfl) dL_law_1871 ⟨by show cells + 0 ≤ 603072; omega, by show slots + 0 ≤ 7174250; omega⟩) hA hP hD hS (isC := [2, 3]) rfl [0, 1, 4, 5, 6, 7, 8, 9, 10, 11, 12] [0, 1, 11, 12, 2, 3, 4, 5, 6, 7, 8, 9, 10] (br := [loC E ol lo, dbC E od dO, stC E a2 g2, stC E a3 g3, hhC E b hs hg nx ct, diC E d co re, grC E k so gw, prC E pa q F, sbO E y v ml n, baC E v cp t, moC E mb z g gs ar]) (bs2 := fun _ => [loC E ol lo, dbC E od dO, coC E x a a2 a3 b d k pa y w, stC E a g, stC E a2 g2, stC E a3 g3, hhC E b hs hg nx ct, diC E d co re, grC E k so gw, prC E pa q F, sbO E y v ml n, baC E v cp t, moC E mb z g gs ar]) rfl (by decide) (fun _ => rfl) (by decide) (fun r u5 H locs hw6 hP hD hS => ?_)
  have hw6 : r = nI (g 8 2) := hw6
  subst hw6
  refine lv_aload_n hx hb dL_law_1874 rfl (lv_at hl 2 rfl) ?_
  refine run_i (S := Unit) (run_V (As := []) (rest := [.int (nI (g 8 2))]) (bs := [loC E ol lo, dbC E od dO, coC E x a a2 a3 b d k pa y w, stC E a g, stC E a2 g2, stC E a3 g3, hhC E b hs hg nx ct, diC E d co re, grC E k so gw, prC E pa q F, sbO E y v ml n, baC E v cp t, moC E mb z g gs ar]) (cb := [moC E mb z g gs ar]) hx hb hml hown hts hK hZ hA (c_X6_surplus l E _ mb z g gs ar) l_L_256 rfl ⟨⟨rfl, rfl⟩, Nat.le_of_ble_eq_true rfl, Nat.le_of_ble_eq_true rfl⟩ 10 rfl [12] rfl (by decide) rfl hP hD hS hl.1 rfl (Nat.le_of_ble_eq_true rfl) dL_law_1875 ⟨by show (cells + 0) + 0 ≤ 603072; omega, by show (slots + 0) + 0 ≤ 7174250; omega⟩) hA hP hD hS (isC := [12]) rfl [0, 1, 2, 3, 4, 5, 6, 7, 8, 9, 10, 11] [0, 1, 2, 3, 4, 5, 6, 7, 8, 9, 10, 11, 12] (br := [loC E ol lo, dbC E od dO, coC E x a a2 a3 b d k pa y w, stC E a g, stC E a2 g2, stC E a3 g3, hhC E b hs hg nx ct, diC E d co re, grC E k so gw, prC E pa q F, sbO E y v ml n, baC E v cp t]) (bs2 := fun _ => [loC E ol lo, dbC E od dO, coC E x a a2 a3 b d k pa y w, stC E a g, stC E a2 g2, stC E a3 g3, hhC E b hs hg nx ct, diC E d co re, grC E k so gw, prC E pa q F, sbO E y v ml n, baC E v cp t, moC E mb (upn z 0 0) g gs ar]) rfl (by decide) (fun _ => rfl) (by decide) (fun r u6 H locs hw6 hP hD hS => ?_)
  have hw6 : r = nI (g 8 2) := hw6
  subst hw6
  refine lv_icmp_eq (tgt := 2541) hx hb dL_law_1878 (by decide) (fun _ => ?_) (fun hc => absurd (show nI (g 8 2) = nI (g 8 2) from rfl) hc)
  exact W_widen (by omega) (by omega) (kk w g g2 g3 hg nx ct co re so gw q F v ml n cp t (upn z 0 0) gs ar lo dO _ _ _ (rel_q hR hB4) hP hD hS (lv_sub hl [0, 1, 2, 3, 4, 5] rfl))
set_option maxHeartbeats 4000000 in
set_option maxRecDepth 100000 in
theorem st_houseTone {p : Program} {l : Launch} {e : Env} {s : State} {m : MethodId} {args : Array Value} {below : List Frame} {meth : Method} {c : Code} {E : EE} {A : Nat → Prop} {Q : State → Prop} {x a a2 a3 b d k pa y : Nat → Nat} {hs : Nat → Nat → Nat} {mb : Nat → Nat} {ol od sb : Nat} {i B cells slots L : Nat} {xs : Nat → Int32} (C : LCx p l s m args c E A sb L xs) (hL : L ≤ 2560) (hi : i + 5 ≤ L) (hB4 : B + 420 ≤ 300000) (hrc : cells + 13 ≤ 603072 ∧ slots + 414 ≤ 7174250) (kk : LGo p l e s m args below meth c E A Q x a a2 a3 b d k pa y hs mb ol od sb i (B + 420) (cells + 13) (slots + 414) 2541) : LGo p l e s m args below meth c E A Q x a a2 a3 b d k pa y hs mb ol od sb i B cells slots 1883 := by
  obtain ⟨hx, hb, hml, hown, hts, hK, hZ, hDD, hA, hX, hbl, hbA, hst⟩ := C
  intro w g g2 g3 hg nx ct co re so gw q F v ml n cp t z gs ar lo dO H locs ls hR hP hD hS hl
  obtain ⟨hI, ⟨hs1, hs2, hs3⟩, ⟨hnx, hct, hz1, hh9⟩, ⟨hw1, hw2, hz5, hz6⟩, ⟨hq1, hq2, hF0, hF9⟩, ⟨hn1, hn2, hcp, ht9, htx, ho2⟩⟩ := id hR
  have hmc := hI.mc
  refine lv_aload_n hx hb dL_law_1883 rfl (lv_at hl 1 rfl) ?_
  refine run_i (S := Unit) (run_V (As := []) (rest := []) (bs := [loC E ol lo, dbC E od dO, coC E x a a2 a3 b d k pa y w, stC E a g, stC E a2 g2, stC E a3 g3, hhC E b hs hg nx ct, diC E d co re, grC E k so gw, prC E pa q F, sbO E y v ml n, baC E v cp t, moC E mb z g gs ar]) (cb := [coC E x a a2 a3 b d k pa y w, stC E a g]) hx hb hml hown hts hK hZ hA (c_X5_houseTone l E _ x a a2 a3 b d k pa y w g B hI) l_L_257 rfl ⟨⟨rfl, rfl⟩, Nat.le_of_ble_eq_true rfl, Nat.le_of_ble_eq_true rfl⟩ 9 rfl [2, 3] rfl (by decide) rfl hP hD hS hl.1 rfl (Nat.le_of_ble_eq_true rfl) dL_law_1884 ⟨by show cells + 0 ≤ 603072; omega, by show slots + 0 ≤ 7174250; omega⟩) hA hP hD hS (isC := [2, 3]) rfl [0, 1, 4, 5, 6, 7, 8, 9, 10, 11, 12] [0, 1, 11, 12, 2, 3, 4, 5, 6, 7, 8, 9, 10] (br := [loC E ol lo, dbC E od dO, stC E a2 g2, stC E a3 g3, hhC E b hs hg nx ct, diC E d co re, grC E k so gw, prC E pa q F, sbO E y v ml n, baC E v cp t, moC E mb z g gs ar]) (bs2 := fun _ => [loC E ol lo, dbC E od dO, coC E x a a2 a3 b d k pa y w, stC E a g, stC E a2 g2, stC E a3 g3, hhC E b hs hg nx ct, diC E d co re, grC E k so gw, prC E pa q F, sbO E y v ml n, baC E v cp t, moC E mb z g gs ar]) rfl (by decide) (fun _ => rfl) (by decide) (fun r u5 H locs hw6 hP hD hS => ?_)
  have hw6 : r = nI (g 8 3) := hw6
  subst hw6
  refine lv_aload_n hx hb dL_law_1887 rfl (lv_at hl 2 rfl) ?_
  refine run_i (S := Unit) (run_V (As := []) (rest := [.int (nI (g 8 3))]) (bs := [loC E ol lo, dbC E od dO, coC E x a a2 a3 b d k pa y w, stC E a g, stC E a2 g2, stC E a3 g3, hhC E b hs hg nx ct, diC E d co re, grC E k so gw, prC E pa q F, sbO E y v ml n, baC E v cp t, moC E mb z g gs ar]) (cb := [moC E mb z g gs ar]) hx hb hml hown hts hK hZ hA (c_X6_houseTone l E _ mb z g gs ar) l_L_260 rfl ⟨⟨rfl, rfl⟩, Nat.le_of_ble_eq_true rfl, Nat.le_of_ble_eq_true rfl⟩ 10 rfl [12] rfl (by decide) rfl hP hD hS hl.1 rfl (Nat.le_of_ble_eq_true rfl) dL_law_1888 ⟨by show (cells + 0) + 0 ≤ 603072; omega, by show (slots + 0) + 0 ≤ 7174250; omega⟩) hA hP hD hS (isC := [12]) rfl [0, 1, 2, 3, 4, 5, 6, 7, 8, 9, 10, 11] [0, 1, 2, 3, 4, 5, 6, 7, 8, 9, 10, 11, 12] (br := [loC E ol lo, dbC E od dO, coC E x a a2 a3 b d k pa y w, stC E a g, stC E a2 g2, stC E a3 g3, hhC E b hs hg nx ct, diC E d co re, grC E k so gw, prC E pa q F, sbO E y v ml n, baC E v cp t]) (bs2 := fun _ => [loC E ol lo, dbC E od dO, coC E x a a2 a3 b d k pa y w, stC E a g, stC E a2 g2, stC E a3 g3, hhC E b hs hg nx ct, diC E d co re, grC E k so gw, prC E pa q F, sbO E y v ml n, baC E v cp t, moC E mb (upn z 0 0) g gs ar]) rfl (by decide) (fun _ => rfl) (by decide) (fun r u6 H locs hw6 hP hD hS => ?_)
  have hw6 : r = nI (g 8 3) := hw6
  subst hw6
  refine lv_icmp_eq (tgt := 2541) hx hb dL_law_1891 (by decide) (fun _ => ?_) (fun hc => absurd (show nI (g 8 3) = nI (g 8 3) from rfl) hc)
  exact W_widen (by omega) (by omega) (kk w g g2 g3 hg nx ct co re so gw q F v ml n cp t (upn z 0 0) gs ar lo dO _ _ _ (rel_q hR hB4) hP hD hS (lv_sub hl [0, 1, 2, 3, 4, 5] rfl))
set_option maxHeartbeats 4000000 in
set_option maxRecDepth 100000 in
theorem st_quarters {p : Program} {l : Launch} {e : Env} {s : State} {m : MethodId} {args : Array Value} {below : List Frame} {meth : Method} {c : Code} {E : EE} {A : Nat → Prop} {Q : State → Prop} {x a a2 a3 b d k pa y : Nat → Nat} {hs : Nat → Nat → Nat} {mb : Nat → Nat} {ol od sb : Nat} {i B cells slots L : Nat} {xs : Nat → Int32} (C : LCx p l s m args c E A sb L xs) (hL : L ≤ 2560) (hi : i + 5 ≤ L) (hB4 : B + 420 ≤ 300000) (hrc : cells + 13 ≤ 603072 ∧ slots + 414 ≤ 7174250) (kk : LGo p l e s m args below meth c E A Q x a a2 a3 b d k pa y hs mb ol od sb i (B + 420) (cells + 13) (slots + 414) 2541) : LGo p l e s m args below meth c E A Q x a a2 a3 b d k pa y hs mb ol od sb i B cells slots 1896 := by
  obtain ⟨hx, hb, hml, hown, hts, hK, hZ, hDD, hA, hX, hbl, hbA, hst⟩ := C
  intro w g g2 g3 hg nx ct co re so gw q F v ml n cp t z gs ar lo dO H locs ls hR hP hD hS hl
  obtain ⟨hI, ⟨hs1, hs2, hs3⟩, ⟨hnx, hct, hz1, hh9⟩, ⟨hw1, hw2, hz5, hz6⟩, ⟨hq1, hq2, hF0, hF9⟩, ⟨hn1, hn2, hcp, ht9, htx, ho2⟩⟩ := id hR
  have hmc := hI.mc
  refine lv_aload_n hx hb dL_law_1896 rfl (lv_at hl 1 rfl) ?_
  refine run_i (S := Unit) (run_V (As := []) (rest := []) (bs := [loC E ol lo, dbC E od dO, coC E x a a2 a3 b d k pa y w, stC E a g, stC E a2 g2, stC E a3 g3, hhC E b hs hg nx ct, diC E d co re, grC E k so gw, prC E pa q F, sbO E y v ml n, baC E v cp t, moC E mb z g gs ar]) (cb := [coC E x a a2 a3 b d k pa y w, stC E a g]) hx hb hml hown hts hK hZ hA (c_X5_quarters l E _ x a a2 a3 b d k pa y w g B hI) l_L_261 rfl ⟨⟨rfl, rfl⟩, Nat.le_of_ble_eq_true rfl, Nat.le_of_ble_eq_true rfl⟩ 9 rfl [2, 3] rfl (by decide) rfl hP hD hS hl.1 rfl (Nat.le_of_ble_eq_true rfl) dL_law_1897 ⟨by show cells + 0 ≤ 603072; omega, by show slots + 0 ≤ 7174250; omega⟩) hA hP hD hS (isC := [2, 3]) rfl [0, 1, 4, 5, 6, 7, 8, 9, 10, 11, 12] [0, 1, 11, 12, 2, 3, 4, 5, 6, 7, 8, 9, 10] (br := [loC E ol lo, dbC E od dO, stC E a2 g2, stC E a3 g3, hhC E b hs hg nx ct, diC E d co re, grC E k so gw, prC E pa q F, sbO E y v ml n, baC E v cp t, moC E mb z g gs ar]) (bs2 := fun _ => [loC E ol lo, dbC E od dO, coC E x a a2 a3 b d k pa y w, stC E a g, stC E a2 g2, stC E a3 g3, hhC E b hs hg nx ct, diC E d co re, grC E k so gw, prC E pa q F, sbO E y v ml n, baC E v cp t, moC E mb z g gs ar]) rfl (by decide) (fun _ => rfl) (by decide) (fun r u5 H locs hw6 hP hD hS => ?_)
  have hw6 : r = nI (g 8 4) := hw6
  subst hw6
  refine lv_aload_n hx hb dL_law_1900 rfl (lv_at hl 2 rfl) ?_
  refine run_i (S := Unit) (run_V (As := []) (rest := [.int (nI (g 8 4))]) (bs := [loC E ol lo, dbC E od dO, coC E x a a2 a3 b d k pa y w, stC E a g, stC E a2 g2, stC E a3 g3, hhC E b hs hg nx ct, diC E d co re, grC E k so gw, prC E pa q F, sbO E y v ml n, baC E v cp t, moC E mb z g gs ar]) (cb := [moC E mb z g gs ar]) hx hb hml hown hts hK hZ hA (c_X6_quarters l E _ mb z g gs ar) l_L_264 rfl ⟨⟨rfl, rfl⟩, Nat.le_of_ble_eq_true rfl, Nat.le_of_ble_eq_true rfl⟩ 10 rfl [12] rfl (by decide) rfl hP hD hS hl.1 rfl (Nat.le_of_ble_eq_true rfl) dL_law_1901 ⟨by show (cells + 0) + 0 ≤ 603072; omega, by show (slots + 0) + 0 ≤ 7174250; omega⟩) hA hP hD hS (isC := [12]) rfl [0, 1, 2, 3, 4, 5, 6, 7, 8, 9, 10, 11] [0, 1, 2, 3, 4, 5, 6, 7, 8, 9, 10, 11, 12] (br := [loC E ol lo, dbC E od dO, coC E x a a2 a3 b d k pa y w, stC E a g, stC E a2 g2, stC E a3 g3, hhC E b hs hg nx ct, diC E d co re, grC E k so gw, prC E pa q F, sbO E y v ml n, baC E v cp t]) (bs2 := fun _ => [loC E ol lo, dbC E od dO, coC E x a a2 a3 b d k pa y w, stC E a g, stC E a2 g2, stC E a3 g3, hhC E b hs hg nx ct, diC E d co re, grC E k so gw, prC E pa q F, sbO E y v ml n, baC E v cp t, moC E mb (upn z 0 0) g gs ar]) rfl (by decide) (fun _ => rfl) (by decide) (fun r u6 H locs hw6 hP hD hS => ?_)
  have hw6 : r = nI (g 8 4) := hw6
  subst hw6
  refine lv_icmp_eq (tgt := 2541) hx hb dL_law_1904 (by decide) (fun _ => ?_) (fun hc => absurd (show nI (g 8 4) = nI (g 8 4) from rfl) hc)
  exact W_widen (by omega) (by omega) (kk w g g2 g3 hg nx ct co re so gw q F v ml n cp t (upn z 0 0) gs ar lo dO _ _ _ (rel_q hR hB4) hP hD hS (lv_sub hl [0, 1, 2, 3, 4, 5] rfl))
set_option maxHeartbeats 4000000 in
set_option maxRecDepth 100000 in
theorem st_coinTotal {p : Program} {l : Launch} {e : Env} {s : State} {m : MethodId} {args : Array Value} {below : List Frame} {meth : Method} {c : Code} {E : EE} {A : Nat → Prop} {Q : State → Prop} {x a a2 a3 b d k pa y : Nat → Nat} {hs : Nat → Nat → Nat} {mb : Nat → Nat} {ol od sb : Nat} {i B cells slots L : Nat} {xs : Nat → Int32} (C : LCx p l s m args c E A sb L xs) (hL : L ≤ 2560) (hi : i + 5 ≤ L) (hB4 : B + 420 ≤ 300000) (hrc : cells + 13 ≤ 603072 ∧ slots + 414 ≤ 7174250) (kk : LGo p l e s m args below meth c E A Q x a a2 a3 b d k pa y hs mb ol od sb i (B + 420) (cells + 13) (slots + 414) 2541) : LGo p l e s m args below meth c E A Q x a a2 a3 b d k pa y hs mb ol od sb i B cells slots 1909 := by
  obtain ⟨hx, hb, hml, hown, hts, hK, hZ, hDD, hA, hX, hbl, hbA, hst⟩ := C
  intro w g g2 g3 hg nx ct co re so gw q F v ml n cp t z gs ar lo dO H locs ls hR hP hD hS hl
  obtain ⟨hI, ⟨hs1, hs2, hs3⟩, ⟨hnx, hct, hz1, hh9⟩, ⟨hw1, hw2, hz5, hz6⟩, ⟨hq1, hq2, hF0, hF9⟩, ⟨hn1, hn2, hcp, ht9, htx, ho2⟩⟩ := id hR
  have hmc := hI.mc
  refine lv_aload_n hx hb dL_law_1909 rfl (lv_at hl 1 rfl) ?_
  refine run_i (S := Unit) (run_V (As := []) (rest := []) (bs := [loC E ol lo, dbC E od dO, coC E x a a2 a3 b d k pa y w, stC E a g, stC E a2 g2, stC E a3 g3, hhC E b hs hg nx ct, diC E d co re, grC E k so gw, prC E pa q F, sbO E y v ml n, baC E v cp t, moC E mb z g gs ar]) (cb := [coC E x a a2 a3 b d k pa y w, stC E a g]) hx hb hml hown hts hK hZ hA (c_X5_coinTotal l E _ x a a2 a3 b d k pa y w g B hI) l_L_265 rfl ⟨⟨rfl, rfl⟩, Nat.le_of_ble_eq_true rfl, Nat.le_of_ble_eq_true rfl⟩ 9 rfl [2, 3] rfl (by decide) rfl hP hD hS hl.1 rfl (Nat.le_of_ble_eq_true rfl) dL_law_1910 ⟨by show cells + 0 ≤ 603072; omega, by show slots + 0 ≤ 7174250; omega⟩) hA hP hD hS (isC := [2, 3]) rfl [0, 1, 4, 5, 6, 7, 8, 9, 10, 11, 12] [0, 1, 11, 12, 2, 3, 4, 5, 6, 7, 8, 9, 10] (br := [loC E ol lo, dbC E od dO, stC E a2 g2, stC E a3 g3, hhC E b hs hg nx ct, diC E d co re, grC E k so gw, prC E pa q F, sbO E y v ml n, baC E v cp t, moC E mb z g gs ar]) (bs2 := fun _ => [loC E ol lo, dbC E od dO, coC E x a a2 a3 b d k pa y w, stC E a g, stC E a2 g2, stC E a3 g3, hhC E b hs hg nx ct, diC E d co re, grC E k so gw, prC E pa q F, sbO E y v ml n, baC E v cp t, moC E mb z g gs ar]) rfl (by decide) (fun _ => rfl) (by decide) (fun r u5 H locs hw6 hP hD hS => ?_)
  have hw6 : r = nI (pursN g + g 8 2) := hw6
  subst hw6
  refine lv_aload_n hx hb dL_law_1913 rfl (lv_at hl 2 rfl) ?_
  refine run_i (S := Unit) (run_V (As := []) (rest := [.int (nI (pursN g + g 8 2))]) (bs := [loC E ol lo, dbC E od dO, coC E x a a2 a3 b d k pa y w, stC E a g, stC E a2 g2, stC E a3 g3, hhC E b hs hg nx ct, diC E d co re, grC E k so gw, prC E pa q F, sbO E y v ml n, baC E v cp t, moC E mb z g gs ar]) (cb := [moC E mb z g gs ar]) hx hb hml hown hts hK hZ hA (c_X6_coinTotal l E _ mb z g gs ar B hI) l_L_268 rfl ⟨⟨rfl, rfl⟩, Nat.le_of_ble_eq_true rfl, Nat.le_of_ble_eq_true rfl⟩ 10 rfl [12] rfl (by decide) rfl hP hD hS hl.1 rfl (Nat.le_of_ble_eq_true rfl) dL_law_1914 ⟨by show (cells + 0) + 0 ≤ 603072; omega, by show (slots + 0) + 0 ≤ 7174250; omega⟩) hA hP hD hS (isC := [12]) rfl [0, 1, 2, 3, 4, 5, 6, 7, 8, 9, 10, 11] [0, 1, 2, 3, 4, 5, 6, 7, 8, 9, 10, 11, 12] (br := [loC E ol lo, dbC E od dO, coC E x a a2 a3 b d k pa y w, stC E a g, stC E a2 g2, stC E a3 g3, hhC E b hs hg nx ct, diC E d co re, grC E k so gw, prC E pa q F, sbO E y v ml n, baC E v cp t]) (bs2 := fun _ => [loC E ol lo, dbC E od dO, coC E x a a2 a3 b d k pa y w, stC E a g, stC E a2 g2, stC E a3 g3, hhC E b hs hg nx ct, diC E d co re, grC E k so gw, prC E pa q F, sbO E y v ml n, baC E v cp t, moC E mb (upn z 0 0) g gs ar]) rfl (by decide) (fun _ => rfl) (by decide) (fun r u6 H locs hw6 hP hD hS => ?_)
  have hw6 : r = nI (pursN g + g 8 2) := hw6
  subst hw6
  refine lv_icmp_eq (tgt := 2541) hx hb dL_law_1917 (by decide) (fun _ => ?_) (fun hc => absurd (show nI (pursN g + g 8 2) = nI (pursN g + g 8 2) from rfl) hc)
  exact W_widen (by omega) (by omega) (kk w g g2 g3 hg nx ct co re so gw q F v ml n cp t (upn z 0 0) gs ar lo dO _ _ _ (rel_q hR hB4) hP hD hS (lv_sub hl [0, 1, 2, 3, 4, 5] rfl))
set_option maxHeartbeats 4000000 in
set_option maxRecDepth 100000 in
theorem st_coinsByAccounts {p : Program} {l : Launch} {e : Env} {s : State} {m : MethodId} {args : Array Value} {below : List Frame} {meth : Method} {c : Code} {E : EE} {A : Nat → Prop} {Q : State → Prop} {x a a2 a3 b d k pa y : Nat → Nat} {hs : Nat → Nat → Nat} {mb : Nat → Nat} {ol od sb : Nat} {i B cells slots L : Nat} {xs : Nat → Int32} (C : LCx p l s m args c E A sb L xs) (hL : L ≤ 2560) (hi : i + 5 ≤ L) (hB4 : B + 420 ≤ 300000) (hrc : cells + 13 ≤ 603072 ∧ slots + 414 ≤ 7174250) (kk : LGo p l e s m args below meth c E A Q x a a2 a3 b d k pa y hs mb ol od sb i (B + 420) (cells + 13) (slots + 414) 2541) : LGo p l e s m args below meth c E A Q x a a2 a3 b d k pa y hs mb ol od sb i B cells slots 1922 := by
  obtain ⟨hx, hb, hml, hown, hts, hK, hZ, hDD, hA, hX, hbl, hbA, hst⟩ := C
  intro w g g2 g3 hg nx ct co re so gw q F v ml n cp t z gs ar lo dO H locs ls hR hP hD hS hl
  obtain ⟨hI, ⟨hs1, hs2, hs3⟩, ⟨hnx, hct, hz1, hh9⟩, ⟨hw1, hw2, hz5, hz6⟩, ⟨hq1, hq2, hF0, hF9⟩, ⟨hn1, hn2, hcp, ht9, htx, ho2⟩⟩ := id hR
  have hmc := hI.mc
  refine lv_aload_n hx hb dL_law_1922 rfl (lv_at hl 1 rfl) ?_
  refine run_i (S := Unit) (run_V (As := []) (rest := []) (bs := [loC E ol lo, dbC E od dO, coC E x a a2 a3 b d k pa y w, stC E a g, stC E a2 g2, stC E a3 g3, hhC E b hs hg nx ct, diC E d co re, grC E k so gw, prC E pa q F, sbO E y v ml n, baC E v cp t, moC E mb z g gs ar]) (cb := [coC E x a a2 a3 b d k pa y w, stC E a g]) hx hb hml hown hts hK hZ hA (c_X5_coinsByAccounts l E _ x a a2 a3 b d k pa y w g B hI) l_L_269 rfl ⟨⟨rfl, rfl⟩, Nat.le_of_ble_eq_true rfl, Nat.le_of_ble_eq_true rfl⟩ 9 rfl [2, 3] rfl (by decide) rfl hP hD hS hl.1 rfl (Nat.le_of_ble_eq_true rfl) dL_law_1923 ⟨by show cells + 0 ≤ 603072; omega, by show slots + 0 ≤ 7174250; omega⟩) hA hP hD hS (isC := [2, 3]) rfl [0, 1, 4, 5, 6, 7, 8, 9, 10, 11, 12] [0, 1, 11, 12, 2, 3, 4, 5, 6, 7, 8, 9, 10] (br := [loC E ol lo, dbC E od dO, stC E a2 g2, stC E a3 g3, hhC E b hs hg nx ct, diC E d co re, grC E k so gw, prC E pa q F, sbO E y v ml n, baC E v cp t, moC E mb z g gs ar]) (bs2 := fun _ => [loC E ol lo, dbC E od dO, coC E x a a2 a3 b d k pa y w, stC E a g, stC E a2 g2, stC E a3 g3, hhC E b hs hg nx ct, diC E d co re, grC E k so gw, prC E pa q F, sbO E y v ml n, baC E v cp t, moC E mb z g gs ar]) rfl (by decide) (fun _ => rfl) (by decide) (fun r u5 H locs hw6 hP hD hS => ?_)
  have hw6 : r = nI (g 8 5) := hw6
  subst hw6
  refine lv_aload_n hx hb dL_law_1926 rfl (lv_at hl 2 rfl) ?_
  refine run_i (S := Unit) (run_V (As := []) (rest := [.int (nI (g 8 5))]) (bs := [loC E ol lo, dbC E od dO, coC E x a a2 a3 b d k pa y w, stC E a g, stC E a2 g2, stC E a3 g3, hhC E b hs hg nx ct, diC E d co re, grC E k so gw, prC E pa q F, sbO E y v ml n, baC E v cp t, moC E mb z g gs ar]) (cb := [moC E mb z g gs ar]) hx hb hml hown hts hK hZ hA (c_X6_coinsByAccounts l E _ mb z g gs ar) l_L_272 rfl ⟨⟨rfl, rfl⟩, Nat.le_of_ble_eq_true rfl, Nat.le_of_ble_eq_true rfl⟩ 10 rfl [12] rfl (by decide) rfl hP hD hS hl.1 rfl (Nat.le_of_ble_eq_true rfl) dL_law_1927 ⟨by show (cells + 0) + 0 ≤ 603072; omega, by show (slots + 0) + 0 ≤ 7174250; omega⟩) hA hP hD hS (isC := [12]) rfl [0, 1, 2, 3, 4, 5, 6, 7, 8, 9, 10, 11] [0, 1, 2, 3, 4, 5, 6, 7, 8, 9, 10, 11, 12] (br := [loC E ol lo, dbC E od dO, coC E x a a2 a3 b d k pa y w, stC E a g, stC E a2 g2, stC E a3 g3, hhC E b hs hg nx ct, diC E d co re, grC E k so gw, prC E pa q F, sbO E y v ml n, baC E v cp t]) (bs2 := fun _ => [loC E ol lo, dbC E od dO, coC E x a a2 a3 b d k pa y w, stC E a g, stC E a2 g2, stC E a3 g3, hhC E b hs hg nx ct, diC E d co re, grC E k so gw, prC E pa q F, sbO E y v ml n, baC E v cp t, moC E mb (upn z 0 0) g gs ar]) rfl (by decide) (fun _ => rfl) (by decide) (fun r u6 H locs hw6 hP hD hS => ?_)
  have hw6 : r = nI (g 8 5) := hw6
  subst hw6
  refine lv_icmp_eq (tgt := 2541) hx hb dL_law_1930 (by decide) (fun _ => ?_) (fun hc => absurd (show nI (g 8 5) = nI (g 8 5) from rfl) hc)
  exact W_widen (by omega) (by omega) (kk w g g2 g3 hg nx ct co re so gw q F v ml n cp t (upn z 0 0) gs ar lo dO _ _ _ (rel_q hR hB4) hP hD hS (lv_sub hl [0, 1, 2, 3, 4, 5] rfl))
set_option maxHeartbeats 4000000 in
set_option maxRecDepth 100000 in
theorem st_chirps {p : Program} {l : Launch} {e : Env} {s : State} {m : MethodId} {args : Array Value} {below : List Frame} {meth : Method} {c : Code} {E : EE} {A : Nat → Prop} {Q : State → Prop} {x a a2 a3 b d k pa y : Nat → Nat} {hs : Nat → Nat → Nat} {mb : Nat → Nat} {ol od sb : Nat} {i B cells slots L : Nat} {xs : Nat → Int32} (C : LCx p l s m args c E A sb L xs) (hL : L ≤ 2560) (hi : i + 5 ≤ L) (hB4 : B + 420 ≤ 300000) (hrc : cells + 13 ≤ 603072 ∧ slots + 414 ≤ 7174250) (kk : LGo p l e s m args below meth c E A Q x a a2 a3 b d k pa y hs mb ol od sb i (B + 420) (cells + 13) (slots + 414) 2541) : LGo p l e s m args below meth c E A Q x a a2 a3 b d k pa y hs mb ol od sb i B cells slots 1935 := by
  obtain ⟨hx, hb, hml, hown, hts, hK, hZ, hDD, hA, hX, hbl, hbA, hst⟩ := C
  intro w g g2 g3 hg nx ct co re so gw q F v ml n cp t z gs ar lo dO H locs ls hR hP hD hS hl
  obtain ⟨hI, ⟨hs1, hs2, hs3⟩, ⟨hnx, hct, hz1, hh9⟩, ⟨hw1, hw2, hz5, hz6⟩, ⟨hq1, hq2, hF0, hF9⟩, ⟨hn1, hn2, hcp, ht9, htx, ho2⟩⟩ := id hR
  have hmc := hI.mc
  refine lv_aload_n hx hb dL_law_1935 rfl (lv_at hl 1 rfl) ?_
  refine run_i (S := Unit) (run_V (As := []) (rest := []) (bs := [loC E ol lo, dbC E od dO, coC E x a a2 a3 b d k pa y w, stC E a g, stC E a2 g2, stC E a3 g3, hhC E b hs hg nx ct, diC E d co re, grC E k so gw, prC E pa q F, sbO E y v ml n, baC E v cp t, moC E mb z g gs ar]) (cb := [coC E x a a2 a3 b d k pa y w, stC E a g]) hx hb hml hown hts hK hZ hA (c_X5_chirps l E _ x a a2 a3 b d k pa y w g B hI) l_L_273 rfl ⟨⟨rfl, rfl⟩, Nat.le_of_ble_eq_true rfl, Nat.le_of_ble_eq_true rfl⟩ 9 rfl [2, 3] rfl (by decide) rfl hP hD hS hl.1 rfl (Nat.le_of_ble_eq_true rfl) dL_law_1936 ⟨by show cells + 0 ≤ 603072; omega, by show slots + 0 ≤ 7174250; omega⟩) hA hP hD hS (isC := [2, 3]) rfl [0, 1, 4, 5, 6, 7, 8, 9, 10, 11, 12] [0, 1, 11, 12, 2, 3, 4, 5, 6, 7, 8, 9, 10] (br := [loC E ol lo, dbC E od dO, stC E a2 g2, stC E a3 g3, hhC E b hs hg nx ct, diC E d co re, grC E k so gw, prC E pa q F, sbO E y v ml n, baC E v cp t, moC E mb z g gs ar]) (bs2 := fun _ => [loC E ol lo, dbC E od dO, coC E x a a2 a3 b d k pa y w, stC E a g, stC E a2 g2, stC E a3 g3, hhC E b hs hg nx ct, diC E d co re, grC E k so gw, prC E pa q F, sbO E y v ml n, baC E v cp t, moC E mb z g gs ar]) rfl (by decide) (fun _ => rfl) (by decide) (fun r u5 H locs hw6 hP hD hS => ?_)
  have hw6 : r = nI (g 8 6) := hw6
  subst hw6
  refine lv_aload_n hx hb dL_law_1939 rfl (lv_at hl 2 rfl) ?_
  refine run_i (S := Unit) (run_V (As := []) (rest := [.int (nI (g 8 6))]) (bs := [loC E ol lo, dbC E od dO, coC E x a a2 a3 b d k pa y w, stC E a g, stC E a2 g2, stC E a3 g3, hhC E b hs hg nx ct, diC E d co re, grC E k so gw, prC E pa q F, sbO E y v ml n, baC E v cp t, moC E mb z g gs ar]) (cb := [moC E mb z g gs ar]) hx hb hml hown hts hK hZ hA (c_X6_chirps l E _ mb z g gs ar) l_L_276 rfl ⟨⟨rfl, rfl⟩, Nat.le_of_ble_eq_true rfl, Nat.le_of_ble_eq_true rfl⟩ 10 rfl [12] rfl (by decide) rfl hP hD hS hl.1 rfl (Nat.le_of_ble_eq_true rfl) dL_law_1940 ⟨by show (cells + 0) + 0 ≤ 603072; omega, by show (slots + 0) + 0 ≤ 7174250; omega⟩) hA hP hD hS (isC := [12]) rfl [0, 1, 2, 3, 4, 5, 6, 7, 8, 9, 10, 11] [0, 1, 2, 3, 4, 5, 6, 7, 8, 9, 10, 11, 12] (br := [loC E ol lo, dbC E od dO, coC E x a a2 a3 b d k pa y w, stC E a g, stC E a2 g2, stC E a3 g3, hhC E b hs hg nx ct, diC E d co re, grC E k so gw, prC E pa q F, sbO E y v ml n, baC E v cp t]) (bs2 := fun _ => [loC E ol lo, dbC E od dO, coC E x a a2 a3 b d k pa y w, stC E a g, stC E a2 g2, stC E a3 g3, hhC E b hs hg nx ct, diC E d co re, grC E k so gw, prC E pa q F, sbO E y v ml n, baC E v cp t, moC E mb (upn z 0 0) g gs ar]) rfl (by decide) (fun _ => rfl) (by decide) (fun r u6 H locs hw6 hP hD hS => ?_)
  have hw6 : r = nI (g 8 6) := hw6
  subst hw6
  refine lv_icmp_eq (tgt := 2541) hx hb dL_law_1943 (by decide) (fun _ => ?_) (fun hc => absurd (show nI (g 8 6) = nI (g 8 6) from rfl) hc)
  exact W_widen (by omega) (by omega) (kk w g g2 g3 hg nx ct co re so gw q F v ml n cp t (upn z 0 0) gs ar lo dO _ _ _ (rel_q hR hB4) hP hD hS (lv_sub hl [0, 1, 2, 3, 4, 5] rfl))
set_option maxHeartbeats 4000000 in
set_option maxRecDepth 100000 in
theorem st_spoiltBeat {p : Program} {l : Launch} {e : Env} {s : State} {m : MethodId} {args : Array Value} {below : List Frame} {meth : Method} {c : Code} {E : EE} {A : Nat → Prop} {Q : State → Prop} {x a a2 a3 b d k pa y : Nat → Nat} {hs : Nat → Nat → Nat} {mb : Nat → Nat} {ol od sb : Nat} {i B cells slots L : Nat} {xs : Nat → Int32} (C : LCx p l s m args c E A sb L xs) (hL : L ≤ 2560) (hi : i + 5 ≤ L) (hB4 : B + 420 ≤ 300000) (hrc : cells + 13 ≤ 603072 ∧ slots + 414 ≤ 7174250) (kk : LGo p l e s m args below meth c E A Q x a a2 a3 b d k pa y hs mb ol od sb i (B + 420) (cells + 13) (slots + 414) 2541) : LGo p l e s m args below meth c E A Q x a a2 a3 b d k pa y hs mb ol od sb i B cells slots 1948 := by
  obtain ⟨hx, hb, hml, hown, hts, hK, hZ, hDD, hA, hX, hbl, hbA, hst⟩ := C
  intro w g g2 g3 hg nx ct co re so gw q F v ml n cp t z gs ar lo dO H locs ls hR hP hD hS hl
  obtain ⟨hI, ⟨hs1, hs2, hs3⟩, ⟨hnx, hct, hz1, hh9⟩, ⟨hw1, hw2, hz5, hz6⟩, ⟨hq1, hq2, hF0, hF9⟩, ⟨hn1, hn2, hcp, ht9, htx, ho2⟩⟩ := id hR
  have hmc := hI.mc
  obtain ⟨p0, hp0⟩ : ∃ y9, y9 = xs (i + 1) := ⟨_, rfl⟩
  refine lv_aload_n hx hb dL_law_1948 rfl (lv_at hl 1 rfl) ?_
  refine lv_aload_n hx hb dL_law_1949 rfl (lv_at hl 0 rfl) ?_
  refine lv_iload hx hb dL_law_1950 (lv_at hl 5 rfl) ?_
  refine lv_iconst (v := nI 1) hx hb dL_law_1952 (by decide) ?_
  refine nv_iadd hx hb dL_law_1953 ?_
  refine va_sld hx hb hX hbl hbA hS (vp_in_nI (show i + 1 < L by omega) (by omega)) dL_law_1954 ?_
  refine tp_i (show xs (nI (i + 1)).toNatClampNeg = p0 from by rw [nI_clamp (by omega), hp0]) ?_
  refine lv_aload_n hx hb dL_law_1955 rfl (lv_at hl 3 rfl) ?_
  refine run_i (S := (Unit × Int32 × (Nat → Int64)) ⊕ Unit) (run_SW (As := [.ref (x 0), .int p0, .ref ol]) (rest := []) (bs := [loC E ol lo, dbC E od dO, coC E x a a2 a3 b d k pa y w, stC E a g, stC E a2 g2, stC E a3 g3, hhC E b hs hg nx ct, diC E d co re, grC E k so gw, prC E pa q F, sbO E y v ml n, baC E v cp t, moC E mb z g gs ar]) (cb := [loC E ol lo, coC E x a a2 a3 b d k pa y w, stC E a g]) hx hb hml hown hts hK hZ hDD hA (c_L_spoiltBeat l hst E _ x a a2 a3 b d k pa y w g B hI p0 ol lo) l_L_277 rfl ⟨⟨rfl, rfl⟩, Nat.le_of_ble_eq_true rfl, Nat.le_of_ble_eq_true rfl⟩ [0, 2, 3] rfl (by decide) hP hD hS hl.1 rfl (Nat.le_of_ble_eq_true rfl) dL_law_1956 ⟨by show cells + 1 ≤ 603072; omega, by show slots + 6 ≤ 7174250; omega⟩) hA hP hD hS (isC := [0, 2, 3]) rfl [1, 4, 5, 6, 7, 8, 9, 10, 11, 12] [10, 0, 11, 12, 1, 2, 3, 4, 5, 6, 7, 8, 9] (br := [dbC E od dO, stC E a2 g2, stC E a3 g3, hhC E b hs hg nx ct, diC E d co re, grC E k so gw, prC E pa q F, sbO E y v ml n, baC E v cp t, moC E mb z g gs ar]) (bs2 := fun u => Sum.elim (fun (vq : Unit × Int32 × (Nat → Int64)) => [loC E ol vq.2.2, dbC E od dO, coC E x a a2 a3 b d k pa y w, stC E a g, stC E a2 g2, stC E a3 g3, hhC E b hs hg nx ct, diC E d co re, grC E k so gw, prC E pa q F, sbO E y v ml n, baC E v cp t, moC E mb z g gs ar]) (fun (vq : Unit) => [loC E ol lo, dbC E od dO, coC E x a a2 a3 b d k pa y w, stC E a g, stC E a2 g2, stC E a3 g3, hhC E b hs hg nx ct, diC E d co re, grC E k so gw, prC E pa q F, sbO E y v ml n, baC E v cp t, moC E mb z g gs ar]) u) rfl (by decide) (fun u => by rcases u with u | u <;> rfl) (by decide) (fun r u H locs hw hP hD hS => ?_)
  rcases u with vq | vq
  · skip
    obtain ⟨u9, r9, lo9⟩ := vq
    have hw7 : r = nI 0 ∧ ((0 ≤ p0.toInt ∧ p0.toInt < (g 8 7 : Int)) ∧ r9 = nI (g 7 (tn p0))) ∧ lo9 0 = r9.toInt64 := hw
    clear hw
    obtain ⟨rfl, hw⟩ := hw7
    have hP : va_P E.1 vwCl ([loC E ol lo9, dbC E od dO, coC E x a a2 a3 b d k pa y w, stC E a g, stC E a2 g2, stC E a3 g3, hhC E b hs hg nx ct, diC E d co re, grC E k so gw, prC E pa q F, sbO E y v ml n, baC E v cp t, moC E mb z g gs ar] : List va_W).flatten H := hP
    have hD : va_D A ([loC E ol lo9, dbC E od dO, coC E x a a2 a3 b d k pa y w, stC E a g, stC E a2 g2, stC E a3 g3, hhC E b hs hg nx ct, diC E d co re, grC E k so gw, prC E pa q F, sbO E y v ml n, baC E v cp t, moC E mb z g gs ar] : List va_W).flatten := hD
    obtain ⟨⟨hcnd, hr9⟩, hlo⟩ := hw
    subst hr9
    refine lv_istore (lv' := [(6, .int (nI 0)), (0, .ref sb), (1, .ref (x 0)), (2, .ref (mb 0)), (3, .ref ol), (4, .ref od), (5, .int (nI i))]) hx hb dL_law_1959 hl (by decide) rfl (fun ls hl => ?_)
    refine lv_aload_n hx hb dL_law_1961 rfl (lv_at hl 3 rfl) ?_
    refine lv_aload_n hx hb dL_law_1962 rfl (lv_at hl 1 rfl) ?_
    refine lv_iload hx hb dL_law_1963 (lv_at hl 6 rfl) ?_
    refine lv_iconst (v := nI 1) hx hb dL_law_1965 (by decide) ?_
    refine nv_iadd hx hb dL_law_1966 ?_
    refine va_sld hx hb hX hbl hbA hS (vp_in_nI (show i + 1 < L by omega) (by omega)) dL_law_1967 ?_
    refine tp_i (show xs (nI (i + 1)).toNatClampNeg = p0 from by rw [nI_clamp (by omega), hp0]) ?_
    refine run_i (S := Unit) (run_V (As := [.int p0]) (rest := []) (bs := [loC E ol lo9, dbC E od dO, coC E x a a2 a3 b d k pa y w, stC E a g, stC E a2 g2, stC E a3 g3, hhC E b hs hg nx ct, diC E d co re, grC E k so gw, prC E pa q F, sbO E y v ml n, baC E v cp t, moC E mb z g gs ar]) (cb := [moC E mb z g gs ar]) hx hb hml hown hts hK hZ hA (c_X6_spoiltBeat l E _ mb z g gs ar B hI p0) l_L_279 rfl ⟨⟨rfl, rfl⟩, Nat.le_of_ble_eq_true rfl, Nat.le_of_ble_eq_true rfl⟩ 10 rfl [12] rfl (by decide) rfl hP hD hS hl.1 rfl (Nat.le_of_ble_eq_true rfl) dL_law_1968 ⟨by show (cells + 1) + 0 ≤ 603072; omega, by show (slots + 6) + 0 ≤ 7174250; omega⟩) hA hP hD hS (isC := [12]) rfl [0, 1, 2, 3, 4, 5, 6, 7, 8, 9, 10, 11] [0, 1, 2, 3, 4, 5, 6, 7, 8, 9, 10, 11, 12] (br := [loC E ol lo9, dbC E od dO, coC E x a a2 a3 b d k pa y w, stC E a g, stC E a2 g2, stC E a3 g3, hhC E b hs hg nx ct, diC E d co re, grC E k so gw, prC E pa q F, sbO E y v ml n, baC E v cp t]) (bs2 := fun _ => [loC E ol lo9, dbC E od dO, coC E x a a2 a3 b d k pa y w, stC E a g, stC E a2 g2, stC E a3 g3, hhC E b hs hg nx ct, diC E d co re, grC E k so gw, prC E pa q F, sbO E y v ml n, baC E v cp t, moC E mb (upn z 0 (if 0 ≤ p0.toInt ∧ p0.toInt < (g 8 7 : Int) then 0 else 1)) g gs ar]) rfl (by decide) (fun _ => rfl) (by decide) (fun r u6 H locs hw6 hP hD hS => ?_)
    have hw6 : r = nI (if 0 ≤ p0.toInt ∧ p0.toInt < (g 8 7 : Int) then g 7 (tn p0) else 0) := hw6
    subst hw6
    refine tp_i (show nI (if 0 ≤ p0.toInt ∧ p0.toInt < (g 8 7 : Int) then g 7 (tn p0) else 0) = nI (g 7 (tn p0)) from congrArg nI (if_pos hcnd)) ?_
    refine lv_istore (lv' := [(7, .int (nI (g 7 (tn p0)))), (6, .int (nI 0)), (0, .ref sb), (1, .ref (x 0)), (2, .ref (mb 0)), (3, .ref ol), (4, .ref od), (5, .int (nI i))]) hx hb dL_law_1971 hl (by decide) rfl (fun ls hl => ?_)
    refine lv_aload_n hx hb dL_law_1973 rfl (lv_at hl 4 rfl) ?_
    refine run_i (S := Unit) (run_V (As := []) (rest := []) (bs := [loC E ol lo9, dbC E od dO, coC E x a a2 a3 b d k pa y w, stC E a g, stC E a2 g2, stC E a3 g3, hhC E b hs hg nx ct, diC E d co re, grC E k so gw, prC E pa q F, sbO E y v ml n, baC E v cp t, moC E mb (upn z 0 (if 0 ≤ p0.toInt ∧ p0.toInt < (g 8 7 : Int) then 0 else 1)) g gs ar]) (cb := [moC E mb (upn z 0 (if 0 ≤ p0.toInt ∧ p0.toInt < (g 8 7 : Int) then 0 else 1)) g gs ar]) hx hb hml hown hts hK hZ hA (c_X6_thrown l E _ mb (upn z 0 (if 0 ≤ p0.toInt ∧ p0.toInt < (g 8 7 : Int) then 0 else 1)) g gs ar) l_L_152 rfl ⟨⟨rfl, rfl⟩, Nat.le_of_ble_eq_true rfl, Nat.le_of_ble_eq_true rfl⟩ 10 rfl [12] rfl (by decide) rfl hP hD hS hl.1 rfl (Nat.le_of_ble_eq_true rfl) dL_law_1974 ⟨by show ((cells + 1) + 0) + 0 ≤ 603072; omega, by show ((slots + 6) + 0) + 0 ≤ 7174250; omega⟩) hA hP hD hS (isC := [12]) rfl [0, 1, 2, 3, 4, 5, 6, 7, 8, 9, 10, 11] [0, 1, 2, 3, 4, 5, 6, 7, 8, 9, 10, 11, 12] (br := [loC E ol lo9, dbC E od dO, coC E x a a2 a3 b d k pa y w, stC E a g, stC E a2 g2, stC E a3 g3, hhC E b hs hg nx ct, diC E d co re, grC E k so gw, prC E pa q F, sbO E y v ml n, baC E v cp t]) (bs2 := fun _ => [loC E ol lo9, dbC E od dO, coC E x a a2 a3 b d k pa y w, stC E a g, stC E a2 g2, stC E a3 g3, hhC E b hs hg nx ct, diC E d co re, grC E k so gw, prC E pa q F, sbO E y v ml n, baC E v cp t, moC E mb (upn z 0 (if 0 ≤ p0.toInt ∧ p0.toInt < (g 8 7 : Int) then 0 else 1)) g gs ar]) rfl (by decide) (fun _ => rfl) (by decide) (fun r u6 H locs hw6 hP hD hS => ?_)
    have hw6 : r = nI ((upn z 0 (if 0 ≤ p0.toInt ∧ p0.toInt < (g 8 7 : Int) then 0 else 1)) 0) := hw6
    subst hw6
    refine lv_iload hx hb dL_law_1977 (lv_at hl 1 rfl) ?_
    refine lv_icmp_eq (tgt := 1984) hx hb dL_law_1979 (by decide) (fun _ => ?_) (fun hc => absurd (show nI ((upn z 0 (if 0 ≤ p0.toInt ∧ p0.toInt < (g 8 7 : Int) then 0 else 1)) 0) = nI 0 from congrArg nI (upn_s.trans (if_pos hcnd))) hc)
    refine lv_iload hx hb dL_law_1984 (lv_at hl 1 rfl) ?_
    refine nv_if_ne (X := ((0 : Nat) : Int)) hx hb (nI_toInt (by omega)) (tgt := 2001) dL_law_1986 (by decide) (fun c_1 => ?_) (fun c_1 => ?_)
    · exact absurd c_1 (by omega)
    · skip
      refine lv_aload_n hx hb dL_law_1989 rfl (lv_at hl 5 rfl) ?_
      refine lv_iconst (v := nI 0) hx hb dL_law_1990 (by decide) ?_
      refine va_lald hx hb hK hP 0 4 rfl rfl (vp_in_nI (show 0 < 1 by decide) (by decide)) dL_law_1991 ?_
      rw [show lo9 (nI 0).toNatClampNeg = (nI (g 7 (tn p0))).toInt64 from by rw [nI_clamp (show 0 < 2 ^ 31 by decide)]; exact hlo]
      refine lv_iload hx hb dL_law_1992 (lv_at hl 0 rfl) ?_
      refine lv_i2l hx hb dL_law_1994 rfl ?_
      refine W.lcmp hx hb dL_law_1995 ?_
      refine tp_i (show lg_cmp ((nI (g 7 (tn p0))).toInt64) ((nI (g 7 (tn p0))).toInt64) = nI 0 from lg_eq _) ?_
      refine nv_if_eq (X := ((0 : Nat) : Int)) hx hb (nI_toInt (by omega)) (tgt := 2001) dL_law_1996 (by decide) (fun c_2 => ?_) (fun c_2 => ?_)
      · skip
        refine lv_goto (tgt := 2541) hx hb dL_law_2001 (by decide) ?_
        exact W_widen (by omega) (by omega) (kk w g g2 g3 hg nx ct co re so gw q F v ml n cp t (upn z 0 (if 0 ≤ p0.toInt ∧ p0.toInt < (g 8 7 : Int) then 0 else 1)) gs ar lo9 dO _ _ _ (rel_q hR hB4) hP hD hS (lv_sub hl [2, 3, 4, 5, 6, 7] rfl))
      · exact absurd c_2 (by omega)
  · skip
    have hw : r = nI 1 ∧ ¬ (0 ≤ p0.toInt ∧ p0.toInt < (g 8 7 : Int)) := hw
    have hP : va_P E.1 vwCl ([loC E ol lo, dbC E od dO, coC E x a a2 a3 b d k pa y w, stC E a g, stC E a2 g2, stC E a3 g3, hhC E b hs hg nx ct, diC E d co re, grC E k so gw, prC E pa q F, sbO E y v ml n, baC E v cp t, moC E mb z g gs ar] : List va_W).flatten H := hP
    have hD : va_D A ([loC E ol lo, dbC E od dO, coC E x a a2 a3 b d k pa y w, stC E a g, stC E a2 g2, stC E a3 g3, hhC E b hs hg nx ct, diC E d co re, grC E k so gw, prC E pa q F, sbO E y v ml n, baC E v cp t, moC E mb z g gs ar] : List va_W).flatten := hD
    obtain ⟨rfl, hq⟩ := hw
    refine lv_istore (lv' := [(6, .int (nI 1)), (0, .ref sb), (1, .ref (x 0)), (2, .ref (mb 0)), (3, .ref ol), (4, .ref od), (5, .int (nI i))]) hx hb dL_law_1959 hl (by decide) rfl (fun ls hl => ?_)
    refine lv_aload_n hx hb dL_law_1961 rfl (lv_at hl 3 rfl) ?_
    refine lv_aload_n hx hb dL_law_1962 rfl (lv_at hl 1 rfl) ?_
    refine lv_iload hx hb dL_law_1963 (lv_at hl 6 rfl) ?_
    refine lv_iconst (v := nI 1) hx hb dL_law_1965 (by decide) ?_
    refine nv_iadd hx hb dL_law_1966 ?_
    refine va_sld hx hb hX hbl hbA hS (vp_in_nI (show i + 1 < L by omega) (by omega)) dL_law_1967 ?_
    refine tp_i (show xs (nI (i + 1)).toNatClampNeg = p0 from by rw [nI_clamp (by omega), hp0]) ?_
    refine run_i (S := Unit) (run_V (As := [.int p0]) (rest := []) (bs := [loC E ol lo, dbC E od dO, coC E x a a2 a3 b d k pa y w, stC E a g, stC E a2 g2, stC E a3 g3, hhC E b hs hg nx ct, diC E d co re, grC E k so gw, prC E pa q F, sbO E y v ml n, baC E v cp t, moC E mb z g gs ar]) (cb := [moC E mb z g gs ar]) hx hb hml hown hts hK hZ hA (c_X6_spoiltBeat l E _ mb z g gs ar B hI p0) l_L_279 rfl ⟨⟨rfl, rfl⟩, Nat.le_of_ble_eq_true rfl, Nat.le_of_ble_eq_true rfl⟩ 10 rfl [12] rfl (by decide) rfl hP hD hS hl.1 rfl (Nat.le_of_ble_eq_true rfl) dL_law_1968 ⟨by show (cells + 1) + 0 ≤ 603072; omega, by show (slots + 6) + 0 ≤ 7174250; omega⟩) hA hP hD hS (isC := [12]) rfl [0, 1, 2, 3, 4, 5, 6, 7, 8, 9, 10, 11] [0, 1, 2, 3, 4, 5, 6, 7, 8, 9, 10, 11, 12] (br := [loC E ol lo, dbC E od dO, coC E x a a2 a3 b d k pa y w, stC E a g, stC E a2 g2, stC E a3 g3, hhC E b hs hg nx ct, diC E d co re, grC E k so gw, prC E pa q F, sbO E y v ml n, baC E v cp t]) (bs2 := fun _ => [loC E ol lo, dbC E od dO, coC E x a a2 a3 b d k pa y w, stC E a g, stC E a2 g2, stC E a3 g3, hhC E b hs hg nx ct, diC E d co re, grC E k so gw, prC E pa q F, sbO E y v ml n, baC E v cp t, moC E mb (upn z 0 (if 0 ≤ p0.toInt ∧ p0.toInt < (g 8 7 : Int) then 0 else 1)) g gs ar]) rfl (by decide) (fun _ => rfl) (by decide) (fun r u6 H locs hw6 hP hD hS => ?_)
    have hw6 : r = nI (if 0 ≤ p0.toInt ∧ p0.toInt < (g 8 7 : Int) then g 7 (tn p0) else 0) := hw6
    subst hw6
    refine lv_istore (lv' := [(7, .int (nI (if 0 ≤ p0.toInt ∧ p0.toInt < (g 8 7 : Int) then g 7 (tn p0) else 0))), (6, .int (nI 1)), (0, .ref sb), (1, .ref (x 0)), (2, .ref (mb 0)), (3, .ref ol), (4, .ref od), (5, .int (nI i))]) hx hb dL_law_1971 hl (by decide) rfl (fun ls hl => ?_)
    refine lv_aload_n hx hb dL_law_1973 rfl (lv_at hl 4 rfl) ?_
    refine run_i (S := Unit) (run_V (As := []) (rest := []) (bs := [loC E ol lo, dbC E od dO, coC E x a a2 a3 b d k pa y w, stC E a g, stC E a2 g2, stC E a3 g3, hhC E b hs hg nx ct, diC E d co re, grC E k so gw, prC E pa q F, sbO E y v ml n, baC E v cp t, moC E mb (upn z 0 (if 0 ≤ p0.toInt ∧ p0.toInt < (g 8 7 : Int) then 0 else 1)) g gs ar]) (cb := [moC E mb (upn z 0 (if 0 ≤ p0.toInt ∧ p0.toInt < (g 8 7 : Int) then 0 else 1)) g gs ar]) hx hb hml hown hts hK hZ hA (c_X6_thrown l E _ mb (upn z 0 (if 0 ≤ p0.toInt ∧ p0.toInt < (g 8 7 : Int) then 0 else 1)) g gs ar) l_L_152 rfl ⟨⟨rfl, rfl⟩, Nat.le_of_ble_eq_true rfl, Nat.le_of_ble_eq_true rfl⟩ 10 rfl [12] rfl (by decide) rfl hP hD hS hl.1 rfl (Nat.le_of_ble_eq_true rfl) dL_law_1974 ⟨by show ((cells + 1) + 0) + 0 ≤ 603072; omega, by show ((slots + 6) + 0) + 0 ≤ 7174250; omega⟩) hA hP hD hS (isC := [12]) rfl [0, 1, 2, 3, 4, 5, 6, 7, 8, 9, 10, 11] [0, 1, 2, 3, 4, 5, 6, 7, 8, 9, 10, 11, 12] (br := [loC E ol lo, dbC E od dO, coC E x a a2 a3 b d k pa y w, stC E a g, stC E a2 g2, stC E a3 g3, hhC E b hs hg nx ct, diC E d co re, grC E k so gw, prC E pa q F, sbO E y v ml n, baC E v cp t]) (bs2 := fun _ => [loC E ol lo, dbC E od dO, coC E x a a2 a3 b d k pa y w, stC E a g, stC E a2 g2, stC E a3 g3, hhC E b hs hg nx ct, diC E d co re, grC E k so gw, prC E pa q F, sbO E y v ml n, baC E v cp t, moC E mb (upn z 0 (if 0 ≤ p0.toInt ∧ p0.toInt < (g 8 7 : Int) then 0 else 1)) g gs ar]) rfl (by decide) (fun _ => rfl) (by decide) (fun r u6 H locs hw6 hP hD hS => ?_)
    have hw6 : r = nI ((upn z 0 (if 0 ≤ p0.toInt ∧ p0.toInt < (g 8 7 : Int) then 0 else 1)) 0) := hw6
    subst hw6
    refine lv_iload hx hb dL_law_1977 (lv_at hl 1 rfl) ?_
    refine lv_icmp_eq (tgt := 1984) hx hb dL_law_1979 (by decide) (fun _ => ?_) (fun hc => absurd (show nI ((upn z 0 (if 0 ≤ p0.toInt ∧ p0.toInt < (g 8 7 : Int) then 0 else 1)) 0) = nI 1 from congrArg nI (upn_s.trans (if_neg hq))) hc)
    refine lv_iload hx hb dL_law_1984 (lv_at hl 1 rfl) ?_
    refine nv_if_ne (X := ((1 : Nat) : Int)) hx hb (nI_toInt (by omega)) (tgt := 2001) dL_law_1986 (by decide) (fun c_3 => ?_) (fun c_3 => ?_)
    · skip
      refine lv_goto (tgt := 2541) hx hb dL_law_2001 (by decide) ?_
      exact W_widen (by omega) (by omega) (kk w g g2 g3 hg nx ct co re so gw q F v ml n cp t (upn z 0 (if 0 ≤ p0.toInt ∧ p0.toInt < (g 8 7 : Int) then 0 else 1)) gs ar lo dO _ _ _ (rel_q hR hB4) hP hD hS (lv_sub hl [2, 3, 4, 5, 6, 7] rfl))
    · exact absurd c_3 (by omega)
set_option maxHeartbeats 4000000 in
set_option maxRecDepth 100000 in
theorem st_meanPurse {p : Program} {l : Launch} {e : Env} {s : State} {m : MethodId} {args : Array Value} {below : List Frame} {meth : Method} {c : Code} {E : EE} {A : Nat → Prop} {Q : State → Prop} {x a a2 a3 b d k pa y : Nat → Nat} {hs : Nat → Nat → Nat} {mb : Nat → Nat} {ol od sb : Nat} {i B cells slots L : Nat} {xs : Nat → Int32} (C : LCx p l s m args c E A sb L xs) (hL : L ≤ 2560) (hi : i + 5 ≤ L) (hB4 : B + 420 ≤ 300000) (hrc : cells + 13 ≤ 603072 ∧ slots + 414 ≤ 7174250) (kk : LGo p l e s m args below meth c E A Q x a a2 a3 b d k pa y hs mb ol od sb i (B + 420) (cells + 13) (slots + 414) 2541) : LGo p l e s m args below meth c E A Q x a a2 a3 b d k pa y hs mb ol od sb i B cells slots 2004 := by
  obtain ⟨hx, hb, hml, hown, hts, hK, hZ, hDD, hA, hX, hbl, hbA, hst⟩ := C
  intro w g g2 g3 hg nx ct co re so gw q F v ml n cp t z gs ar lo dO H locs ls hR hP hD hS hl
  obtain ⟨hI, ⟨hs1, hs2, hs3⟩, ⟨hnx, hct, hz1, hh9⟩, ⟨hw1, hw2, hz5, hz6⟩, ⟨hq1, hq2, hF0, hF9⟩, ⟨hn1, hn2, hcp, ht9, htx, ho2⟩⟩ := id hR
  have hmc := hI.mc
  refine lv_aload_n hx hb dL_law_2004 rfl (lv_at hl 1 rfl) ?_
  refine lv_aload hx hb dL_law_2005 (lv_at hl 4 rfl) ?_
  refine run_i (S := (Unit × UInt64 × (Nat → UInt64)) ⊕ Unit) (run_SW (As := [.ref (x 0), .ref od]) (rest := []) (bs := [loC E ol lo, dbC E od dO, coC E x a a2 a3 b d k pa y w, stC E a g, stC E a2 g2, stC E a3 g3, hhC E b hs hg nx ct, diC E d co re, grC E k so gw, prC E pa q F, sbO E y v ml n, baC E v cp t, moC E mb z g gs ar]) (cb := [dbC E od dO, coC E x a a2 a3 b d k pa y w, stC E a g]) hx hb hml hown hts hK hZ hDD hA (c_L_meanPurse l hst E _ x a a2 a3 b d k pa y w g B hI od dO) l_L_280 rfl ⟨⟨rfl, rfl⟩, Nat.le_of_ble_eq_true rfl, Nat.le_of_ble_eq_true rfl⟩ [1, 2, 3] rfl (by decide) hP hD hS hl.1 rfl (Nat.le_of_ble_eq_true rfl) dL_law_2007 ⟨by show cells + 1 ≤ 603072; omega, by show slots + 6 ≤ 7174250; omega⟩) hA hP hD hS (isC := [1, 2, 3]) rfl [0, 4, 5, 6, 7, 8, 9, 10, 11, 12] [0, 10, 11, 12, 1, 2, 3, 4, 5, 6, 7, 8, 9] (br := [loC E ol lo, stC E a2 g2, stC E a3 g3, hhC E b hs hg nx ct, diC E d co re, grC E k so gw, prC E pa q F, sbO E y v ml n, baC E v cp t, moC E mb z g gs ar]) (bs2 := fun u => Sum.elim (fun (vq : Unit × UInt64 × (Nat → UInt64)) => [loC E ol lo, dbC E od vq.2.2, coC E x a a2 a3 b d k pa y w, stC E a g, stC E a2 g2, stC E a3 g3, hhC E b hs hg nx ct, diC E d co re, grC E k so gw, prC E pa q F, sbO E y v ml n, baC E v cp t, moC E mb z g gs ar]) (fun (vq : Unit) => [loC E ol lo, dbC E od dO, coC E x a a2 a3 b d k pa y w, stC E a g, stC E a2 g2, stC E a3 g3, hhC E b hs hg nx ct, diC E d co re, grC E k so gw, prC E pa q F, sbO E y v ml n, baC E v cp t, moC E mb z g gs ar]) u) rfl (by decide) (fun u => by rcases u with u | u <;> rfl) (by decide) (fun r u H locs hw hP hD hS => ?_)
  rcases u with vq | vq
  · skip
    obtain ⟨u9, r9, lo9⟩ := vq
    have hw7 : r = nI 0 ∧ (g 8 0 ≠ 0 ∧ r9 = mpD g) ∧ lo9 0 = r9 := hw
    clear hw
    obtain ⟨rfl, hw⟩ := hw7
    have hP : va_P E.1 vwCl ([loC E ol lo, dbC E od lo9, coC E x a a2 a3 b d k pa y w, stC E a g, stC E a2 g2, stC E a3 g3, hhC E b hs hg nx ct, diC E d co re, grC E k so gw, prC E pa q F, sbO E y v ml n, baC E v cp t, moC E mb z g gs ar] : List va_W).flatten H := hP
    have hD : va_D A ([loC E ol lo, dbC E od lo9, coC E x a a2 a3 b d k pa y w, stC E a g, stC E a2 g2, stC E a3 g3, hhC E b hs hg nx ct, diC E d co re, grC E k so gw, prC E pa q F, sbO E y v ml n, baC E v cp t, moC E mb z g gs ar] : List va_W).flatten := hD
    obtain ⟨⟨hcnd, hr9⟩, hlo⟩ := hw
    subst hr9
    refine lv_istore (lv' := [(6, .int (nI 0)), (0, .ref sb), (1, .ref (x 0)), (2, .ref (mb 0)), (3, .ref ol), (4, .ref od), (5, .int (nI i))]) hx hb dL_law_2010 hl (by decide) rfl (fun ls hl => ?_)
    refine lv_aload_n hx hb dL_law_2012 rfl (lv_at hl 3 rfl) ?_
    refine run_d (S := Unit) (run_V (As := []) (rest := []) (bs := [loC E ol lo, dbC E od lo9, coC E x a a2 a3 b d k pa y w, stC E a g, stC E a2 g2, stC E a3 g3, hhC E b hs hg nx ct, diC E d co re, grC E k so gw, prC E pa q F, sbO E y v ml n, baC E v cp t, moC E mb z g gs ar]) (cb := [moC E mb z g gs ar]) hx hb hml hown hts hK hZ hA (c_X6_meanPurse l E _ mb z g gs ar B hI) l_L_283 rfl ⟨⟨rfl, rfl⟩, Nat.le_of_ble_eq_true rfl, Nat.le_of_ble_eq_true rfl⟩ 10 rfl [12] rfl (by decide) rfl hP hD hS hl.1 rfl (Nat.le_of_ble_eq_true rfl) dL_law_2013 ⟨by show (cells + 1) + 0 ≤ 603072; omega, by show (slots + 6) + 0 ≤ 7174250; omega⟩) hA hP hD hS (isC := [12]) rfl [0, 1, 2, 3, 4, 5, 6, 7, 8, 9, 10, 11] [0, 1, 2, 3, 4, 5, 6, 7, 8, 9, 10, 11, 12] (br := [loC E ol lo, dbC E od lo9, coC E x a a2 a3 b d k pa y w, stC E a g, stC E a2 g2, stC E a3 g3, hhC E b hs hg nx ct, diC E d co re, grC E k so gw, prC E pa q F, sbO E y v ml n, baC E v cp t]) (bs2 := fun _ => [loC E ol lo, dbC E od lo9, coC E x a a2 a3 b d k pa y w, stC E a g, stC E a2 g2, stC E a3 g3, hhC E b hs hg nx ct, diC E d co re, grC E k so gw, prC E pa q F, sbO E y v ml n, baC E v cp t, moC E mb (upn z 0 (if g 8 0 = 0 then 1 else 0)) g gs ar]) rfl (by decide) (fun _ => rfl) (by decide) (fun r u6 H locs hw6 hP hD hS => ?_)
    have hw6 : r = (if g 8 0 = 0 then FP.dconst0 else mpD g) := hw6
    subst hw6
    rw [show (if g 8 0 = 0 then FP.dconst0 else mpD g) = mpD g from if_neg hcnd]
    refine lv_dstore (lv' := [(7, .double (mpD g)), (6, .int (nI 0)), (0, .ref sb), (1, .ref (x 0)), (2, .ref (mb 0)), (3, .ref ol), (4, .ref od), (5, .int (nI i))]) hx hb dL_law_2016 hl (by decide) rfl (fun ls hl => ?_)
    refine lv_aload_n hx hb dL_law_2018 rfl (lv_at hl 4 rfl) ?_
    refine run_i (S := Unit) (run_V (As := []) (rest := []) (bs := [loC E ol lo, dbC E od lo9, coC E x a a2 a3 b d k pa y w, stC E a g, stC E a2 g2, stC E a3 g3, hhC E b hs hg nx ct, diC E d co re, grC E k so gw, prC E pa q F, sbO E y v ml n, baC E v cp t, moC E mb (upn z 0 (if g 8 0 = 0 then 1 else 0)) g gs ar]) (cb := [moC E mb (upn z 0 (if g 8 0 = 0 then 1 else 0)) g gs ar]) hx hb hml hown hts hK hZ hA (c_X6_thrown l E _ mb (upn z 0 (if g 8 0 = 0 then 1 else 0)) g gs ar) l_L_152 rfl ⟨⟨rfl, rfl⟩, Nat.le_of_ble_eq_true rfl, Nat.le_of_ble_eq_true rfl⟩ 10 rfl [12] rfl (by decide) rfl hP hD hS hl.1 rfl (Nat.le_of_ble_eq_true rfl) dL_law_2019 ⟨by show ((cells + 1) + 0) + 0 ≤ 603072; omega, by show ((slots + 6) + 0) + 0 ≤ 7174250; omega⟩) hA hP hD hS (isC := [12]) rfl [0, 1, 2, 3, 4, 5, 6, 7, 8, 9, 10, 11] [0, 1, 2, 3, 4, 5, 6, 7, 8, 9, 10, 11, 12] (br := [loC E ol lo, dbC E od lo9, coC E x a a2 a3 b d k pa y w, stC E a g, stC E a2 g2, stC E a3 g3, hhC E b hs hg nx ct, diC E d co re, grC E k so gw, prC E pa q F, sbO E y v ml n, baC E v cp t]) (bs2 := fun _ => [loC E ol lo, dbC E od lo9, coC E x a a2 a3 b d k pa y w, stC E a g, stC E a2 g2, stC E a3 g3, hhC E b hs hg nx ct, diC E d co re, grC E k so gw, prC E pa q F, sbO E y v ml n, baC E v cp t, moC E mb (upn z 0 (if g 8 0 = 0 then 1 else 0)) g gs ar]) rfl (by decide) (fun _ => rfl) (by decide) (fun r u6 H locs hw6 hP hD hS => ?_)
    have hw6 : r = nI ((upn z 0 (if g 8 0 = 0 then 1 else 0)) 0) := hw6
    subst hw6
    refine lv_iload hx hb dL_law_2022 (lv_at hl 1 rfl) ?_
    refine lv_icmp_eq (tgt := 2029) hx hb dL_law_2024 (by decide) (fun _ => ?_) (fun hc => absurd (show nI ((upn z 0 (if g 8 0 = 0 then 1 else 0)) 0) = nI 0 from congrArg nI (upn_s.trans (if_neg hcnd))) hc)
    refine lv_iload hx hb dL_law_2029 (lv_at hl 1 rfl) ?_
    refine nv_if_ne (X := ((0 : Nat) : Int)) hx hb (nI_toInt (by omega)) (tgt := 2066) dL_law_2031 (by decide) (fun c_1 => ?_) (fun c_1 => ?_)
    · exact absurd c_1 (by omega)
    · skip
      refine lv_aload hx hb dL_law_2034 (lv_at hl 6 rfl) ?_
      refine lv_iconst (v := nI 0) hx hb dL_law_2036 (by decide) ?_
      refine va_dald hx hb hK hP 1 5 rfl rfl (vp_in_nI (show 0 < 1 by decide) (by decide)) dL_law_2037 ?_
      rw [show lo9 (nI 0).toNatClampNeg = mpD g from by rw [nI_clamp (show 0 < 2 ^ 31 by decide)]; exact hlo]
      refine lv_dload hx hb dL_law_2038 (lv_at hl 0 rfl) ?_
      refine lv_dcmp hx hb dL_law_2040 ?_
      refine tp_i (show Op.cmpValue (FP.dcmp (mpD g) (mpD g)) .l = nI 0 from by rw [dcmp_xx (mp_n hI (by omega))]; rfl) ?_
      refine nv_if_eq (X := ((0 : Nat) : Int)) hx hb (nI_toInt (by omega)) (tgt := 2066) dL_law_2041 (by decide) (fun c_2 => ?_) (fun c_2 => ?_)
      · skip
        refine lv_goto (tgt := 2541) hx hb dL_law_2066 (by decide) ?_
        exact W_widen (by omega) (by omega) (kk w g g2 g3 hg nx ct co re so gw q F v ml n cp t (upn z 0 (if g 8 0 = 0 then 1 else 0)) gs ar lo lo9 _ _ _ (rel_q hR hB4) hP hD hS (lv_sub hl [2, 3, 4, 5, 6, 7] rfl))
      · exact absurd c_2 (by omega)
  · skip
    have hw : r = nI 1 ∧ g 8 0 = 0 := hw
    have hP : va_P E.1 vwCl ([loC E ol lo, dbC E od dO, coC E x a a2 a3 b d k pa y w, stC E a g, stC E a2 g2, stC E a3 g3, hhC E b hs hg nx ct, diC E d co re, grC E k so gw, prC E pa q F, sbO E y v ml n, baC E v cp t, moC E mb z g gs ar] : List va_W).flatten H := hP
    have hD : va_D A ([loC E ol lo, dbC E od dO, coC E x a a2 a3 b d k pa y w, stC E a g, stC E a2 g2, stC E a3 g3, hhC E b hs hg nx ct, diC E d co re, grC E k so gw, prC E pa q F, sbO E y v ml n, baC E v cp t, moC E mb z g gs ar] : List va_W).flatten := hD
    obtain ⟨rfl, hq⟩ := hw
    refine lv_istore (lv' := [(6, .int (nI 1)), (0, .ref sb), (1, .ref (x 0)), (2, .ref (mb 0)), (3, .ref ol), (4, .ref od), (5, .int (nI i))]) hx hb dL_law_2010 hl (by decide) rfl (fun ls hl => ?_)
    refine lv_aload_n hx hb dL_law_2012 rfl (lv_at hl 3 rfl) ?_
    refine run_d (S := Unit) (run_V (As := []) (rest := []) (bs := [loC E ol lo, dbC E od dO, coC E x a a2 a3 b d k pa y w, stC E a g, stC E a2 g2, stC E a3 g3, hhC E b hs hg nx ct, diC E d co re, grC E k so gw, prC E pa q F, sbO E y v ml n, baC E v cp t, moC E mb z g gs ar]) (cb := [moC E mb z g gs ar]) hx hb hml hown hts hK hZ hA (c_X6_meanPurse l E _ mb z g gs ar B hI) l_L_283 rfl ⟨⟨rfl, rfl⟩, Nat.le_of_ble_eq_true rfl, Nat.le_of_ble_eq_true rfl⟩ 10 rfl [12] rfl (by decide) rfl hP hD hS hl.1 rfl (Nat.le_of_ble_eq_true rfl) dL_law_2013 ⟨by show (cells + 1) + 0 ≤ 603072; omega, by show (slots + 6) + 0 ≤ 7174250; omega⟩) hA hP hD hS (isC := [12]) rfl [0, 1, 2, 3, 4, 5, 6, 7, 8, 9, 10, 11] [0, 1, 2, 3, 4, 5, 6, 7, 8, 9, 10, 11, 12] (br := [loC E ol lo, dbC E od dO, coC E x a a2 a3 b d k pa y w, stC E a g, stC E a2 g2, stC E a3 g3, hhC E b hs hg nx ct, diC E d co re, grC E k so gw, prC E pa q F, sbO E y v ml n, baC E v cp t]) (bs2 := fun _ => [loC E ol lo, dbC E od dO, coC E x a a2 a3 b d k pa y w, stC E a g, stC E a2 g2, stC E a3 g3, hhC E b hs hg nx ct, diC E d co re, grC E k so gw, prC E pa q F, sbO E y v ml n, baC E v cp t, moC E mb (upn z 0 (if g 8 0 = 0 then 1 else 0)) g gs ar]) rfl (by decide) (fun _ => rfl) (by decide) (fun r u6 H locs hw6 hP hD hS => ?_)
    have hw6 : r = (if g 8 0 = 0 then FP.dconst0 else mpD g) := hw6
    subst hw6
    refine lv_dstore (lv' := [(7, .double (if g 8 0 = 0 then FP.dconst0 else mpD g)), (6, .int (nI 1)), (0, .ref sb), (1, .ref (x 0)), (2, .ref (mb 0)), (3, .ref ol), (4, .ref od), (5, .int (nI i))]) hx hb dL_law_2016 hl (by decide) rfl (fun ls hl => ?_)
    refine lv_aload_n hx hb dL_law_2018 rfl (lv_at hl 4 rfl) ?_
    refine run_i (S := Unit) (run_V (As := []) (rest := []) (bs := [loC E ol lo, dbC E od dO, coC E x a a2 a3 b d k pa y w, stC E a g, stC E a2 g2, stC E a3 g3, hhC E b hs hg nx ct, diC E d co re, grC E k so gw, prC E pa q F, sbO E y v ml n, baC E v cp t, moC E mb (upn z 0 (if g 8 0 = 0 then 1 else 0)) g gs ar]) (cb := [moC E mb (upn z 0 (if g 8 0 = 0 then 1 else 0)) g gs ar]) hx hb hml hown hts hK hZ hA (c_X6_thrown l E _ mb (upn z 0 (if g 8 0 = 0 then 1 else 0)) g gs ar) l_L_152 rfl ⟨⟨rfl, rfl⟩, Nat.le_of_ble_eq_true rfl, Nat.le_of_ble_eq_true rfl⟩ 10 rfl [12] rfl (by decide) rfl hP hD hS hl.1 rfl (Nat.le_of_ble_eq_true rfl) dL_law_2019 ⟨by show ((cells + 1) + 0) + 0 ≤ 603072; omega, by show ((slots + 6) + 0) + 0 ≤ 7174250; omega⟩) hA hP hD hS (isC := [12]) rfl [0, 1, 2, 3, 4, 5, 6, 7, 8, 9, 10, 11] [0, 1, 2, 3, 4, 5, 6, 7, 8, 9, 10, 11, 12] (br := [loC E ol lo, dbC E od dO, coC E x a a2 a3 b d k pa y w, stC E a g, stC E a2 g2, stC E a3 g3, hhC E b hs hg nx ct, diC E d co re, grC E k so gw, prC E pa q F, sbO E y v ml n, baC E v cp t]) (bs2 := fun _ => [loC E ol lo, dbC E od dO, coC E x a a2 a3 b d k pa y w, stC E a g, stC E a2 g2, stC E a3 g3, hhC E b hs hg nx ct, diC E d co re, grC E k so gw, prC E pa q F, sbO E y v ml n, baC E v cp t, moC E mb (upn z 0 (if g 8 0 = 0 then 1 else 0)) g gs ar]) rfl (by decide) (fun _ => rfl) (by decide) (fun r u6 H locs hw6 hP hD hS => ?_)
    have hw6 : r = nI ((upn z 0 (if g 8 0 = 0 then 1 else 0)) 0) := hw6
    subst hw6
    refine lv_iload hx hb dL_law_2022 (lv_at hl 1 rfl) ?_
    refine lv_icmp_eq (tgt := 2029) hx hb dL_law_2024 (by decide) (fun _ => ?_) (fun hc => absurd (show nI ((upn z 0 (if g 8 0 = 0 then 1 else 0)) 0) = nI 1 from congrArg nI (upn_s.trans (if_pos hq))) hc)
    refine lv_iload hx hb dL_law_2029 (lv_at hl 1 rfl) ?_
    refine nv_if_ne (X := ((1 : Nat) : Int)) hx hb (nI_toInt (by omega)) (tgt := 2066) dL_law_2031 (by decide) (fun c_3 => ?_) (fun c_3 => ?_)
    · skip
      refine lv_goto (tgt := 2541) hx hb dL_law_2066 (by decide) ?_
      exact W_widen (by omega) (by omega) (kk w g g2 g3 hg nx ct co re so gw q F v ml n cp t (upn z 0 (if g 8 0 = 0 then 1 else 0)) gs ar lo dO _ _ _ (rel_q hR hB4) hP hD hS (lv_sub hl [2, 3, 4, 5, 6, 7] rfl))
    · exact absurd c_3 (by omega)
set_option maxHeartbeats 4000000 in
set_option maxRecDepth 100000 in
theorem st_powerShare {p : Program} {l : Launch} {e : Env} {s : State} {m : MethodId} {args : Array Value} {below : List Frame} {meth : Method} {c : Code} {E : EE} {A : Nat → Prop} {Q : State → Prop} {x a a2 a3 b d k pa y : Nat → Nat} {hs : Nat → Nat → Nat} {mb : Nat → Nat} {ol od sb : Nat} {i B cells slots L : Nat} {xs : Nat → Int32} (C : LCx p l s m args c E A sb L xs) (hL : L ≤ 2560) (hi : i + 5 ≤ L) (hB4 : B + 420 ≤ 300000) (hrc : cells + 13 ≤ 603072 ∧ slots + 414 ≤ 7174250) (kk : LGo p l e s m args below meth c E A Q x a a2 a3 b d k pa y hs mb ol od sb i (B + 420) (cells + 13) (slots + 414) 2541) : LGo p l e s m args below meth c E A Q x a a2 a3 b d k pa y hs mb ol od sb i B cells slots 2069 := by
  obtain ⟨hx, hb, hml, hown, hts, hK, hZ, hDD, hA, hX, hbl, hbA, hst⟩ := C
  intro w g g2 g3 hg nx ct co re so gw q F v ml n cp t z gs ar lo dO H locs ls hR hP hD hS hl
  obtain ⟨hI, ⟨hs1, hs2, hs3⟩, ⟨hnx, hct, hz1, hh9⟩, ⟨hw1, hw2, hz5, hz6⟩, ⟨hq1, hq2, hF0, hF9⟩, ⟨hn1, hn2, hcp, ht9, htx, ho2⟩⟩ := id hR
  have hmc := hI.mc
  obtain ⟨p0, hp0⟩ : ∃ y9, y9 = xs (i + 1) := ⟨_, rfl⟩
  refine lv_aload_n hx hb dL_law_2069 rfl (lv_at hl 1 rfl) ?_
  refine lv_aload_n hx hb dL_law_2070 rfl (lv_at hl 0 rfl) ?_
  refine lv_iload hx hb dL_law_2071 (lv_at hl 5 rfl) ?_
  refine lv_iconst (v := nI 1) hx hb dL_law_2073 (by decide) ?_
  refine nv_iadd hx hb dL_law_2074 ?_
  refine va_sld hx hb hX hbl hbA hS (vp_in_nI (show i + 1 < L by omega) (by omega)) dL_law_2075 ?_
  refine tp_i (show xs (nI (i + 1)).toNatClampNeg = p0 from by rw [nI_clamp (by omega), hp0]) ?_
  refine lv_aload hx hb dL_law_2076 (lv_at hl 4 rfl) ?_
  refine run_i (S := (((Nat → Nat) × (Nat → Nat)) × UInt32 × (Nat → UInt64)) ⊕ Unit) (run_SW (As := [.ref (x 0), .int p0, .ref od]) (rest := []) (bs := [loC E ol lo, dbC E od dO, coC E x a a2 a3 b d k pa y w, stC E a g, stC E a2 g2, stC E a3 g3, hhC E b hs hg nx ct, diC E d co re, grC E k so gw, prC E pa q F, sbO E y v ml n, baC E v cp t, moC E mb z g gs ar]) (cb := [dbC E od dO, coC E x a a2 a3 b d k pa y w, stC E a g, grC E k so gw]) hx hb hml hown hts hK hZ hDD hA (c_L_powerShare l hst E _ x a a2 a3 b d k pa y w g B hI so gw p0 od dO) l_L_284 rfl ⟨⟨rfl, rfl⟩, Nat.le_of_ble_eq_true rfl, Nat.le_of_ble_eq_true rfl⟩ [1, 2, 3, 8] rfl (by decide) hP hD hS hl.1 rfl (Nat.le_of_ble_eq_true rfl) dL_law_2078 ⟨by show cells + 1 ≤ 603072; omega, by show slots + 6 ≤ 7174250; omega⟩) hA hP hD hS (isC := [1, 2, 3, 8]) rfl [0, 4, 5, 6, 7, 9, 10, 11, 12] [0, 9, 10, 11, 1, 2, 3, 4, 12, 5, 6, 7, 8] (br := [loC E ol lo, stC E a2 g2, stC E a3 g3, hhC E b hs hg nx ct, diC E d co re, prC E pa q F, sbO E y v ml n, baC E v cp t, moC E mb z g gs ar]) (bs2 := fun u => Sum.elim (fun (vq : ((Nat → Nat) × (Nat → Nat)) × UInt32 × (Nat → UInt64)) => [loC E ol lo, dbC E od vq.2.2, coC E x a a2 a3 b d k pa y w, stC E a g, stC E a2 g2, stC E a3 g3, hhC E b hs hg nx ct, diC E d co re, grC E k vq.1.1 vq.1.2, prC E pa q F, sbO E y v ml n, baC E v cp t, moC E mb z g gs ar]) (fun (vq : Unit) => [loC E ol lo, dbC E od dO, coC E x a a2 a3 b d k pa y w, stC E a g, stC E a2 g2, stC E a3 g3, hhC E b hs hg nx ct, diC E d co re, grC E k so gw, prC E pa q F, sbO E y v ml n, baC E v cp t, moC E mb z g gs ar]) u) rfl (by decide) (fun u => by rcases u with u | u <;> rfl) (by decide) (fun r u H locs hw hP hD hS => ?_)
  rcases u with vq | vq
  · skip
    obtain ⟨u9, r9, lo9⟩ := vq
    have hw7 : r = nI 0 ∧ (hasM g p0 = true ∧ r9 = psF g (tn p0)) ∧ lo9 0 = FP.f2d r9 := hw
    clear hw
    obtain ⟨rfl, hw⟩ := hw7
    have hP : va_P E.1 vwCl ([loC E ol lo, dbC E od lo9, coC E x a a2 a3 b d k pa y w, stC E a g, stC E a2 g2, stC E a3 g3, hhC E b hs hg nx ct, diC E d co re, grC E k u9.1 u9.2, prC E pa q F, sbO E y v ml n, baC E v cp t, moC E mb z g gs ar] : List va_W).flatten H := hP
    have hD : va_D A ([loC E ol lo, dbC E od lo9, coC E x a a2 a3 b d k pa y w, stC E a g, stC E a2 g2, stC E a3 g3, hhC E b hs hg nx ct, diC E d co re, grC E k u9.1 u9.2, prC E pa q F, sbO E y v ml n, baC E v cp t, moC E mb z g gs ar] : List va_W).flatten := hD
    obtain ⟨⟨hcnd, hr9⟩, hlo⟩ := hw
    subst hr9
    refine lv_istore (lv' := [(6, .int (nI 0)), (0, .ref sb), (1, .ref (x 0)), (2, .ref (mb 0)), (3, .ref ol), (4, .ref od), (5, .int (nI i))]) hx hb dL_law_2081 hl (by decide) rfl (fun ls hl => ?_)
    refine lv_aload_n hx hb dL_law_2083 rfl (lv_at hl 3 rfl) ?_
    refine lv_aload_n hx hb dL_law_2084 rfl (lv_at hl 1 rfl) ?_
    refine lv_iload hx hb dL_law_2085 (lv_at hl 6 rfl) ?_
    refine lv_iconst (v := nI 1) hx hb dL_law_2087 (by decide) ?_
    refine nv_iadd hx hb dL_law_2088 ?_
    refine va_sld hx hb hX hbl hbA hS (vp_in_nI (show i + 1 < L by omega) (by omega)) dL_law_2089 ?_
    refine tp_i (show xs (nI (i + 1)).toNatClampNeg = p0 from by rw [nI_clamp (by omega), hp0]) ?_
    refine run_f (S := Unit) (run_V (As := [.int p0]) (rest := []) (bs := [loC E ol lo, dbC E od lo9, coC E x a a2 a3 b d k pa y w, stC E a g, stC E a2 g2, stC E a3 g3, hhC E b hs hg nx ct, diC E d co re, grC E k u9.1 u9.2, prC E pa q F, sbO E y v ml n, baC E v cp t, moC E mb z g gs ar]) (cb := [moC E mb z g gs ar]) hx hb hml hown hts hK hZ hA (c_X6_powerShare l E _ mb z g gs ar B hI p0) l_L_287 rfl ⟨⟨rfl, rfl⟩, Nat.le_of_ble_eq_true rfl, Nat.le_of_ble_eq_true rfl⟩ 10 rfl [12] rfl (by decide) rfl hP hD hS hl.1 rfl (Nat.le_of_ble_eq_true rfl) dL_law_2090 ⟨by show (cells + 1) + 0 ≤ 603072; omega, by show (slots + 6) + 0 ≤ 7174250; omega⟩) hA hP hD hS (isC := [12]) rfl [0, 1, 2, 3, 4, 5, 6, 7, 8, 9, 10, 11] [0, 1, 2, 3, 4, 5, 6, 7, 8, 9, 10, 11, 12] (br := [loC E ol lo, dbC E od lo9, coC E x a a2 a3 b d k pa y w, stC E a g, stC E a2 g2, stC E a3 g3, hhC E b hs hg nx ct, diC E d co re, grC E k u9.1 u9.2, prC E pa q F, sbO E y v ml n, baC E v cp t]) (bs2 := fun _ => [loC E ol lo, dbC E od lo9, coC E x a a2 a3 b d k pa y w, stC E a g, stC E a2 g2, stC E a3 g3, hhC E b hs hg nx ct, diC E d co re, grC E k u9.1 u9.2, prC E pa q F, sbO E y v ml n, baC E v cp t, moC E mb (upn z 0 (if hasM g p0 = true then 0 else 1)) g gs ar]) rfl (by decide) (fun _ => rfl) (by decide) (fun r u6 H locs hw6 hP hD hS => ?_)
    have hw6 : r = (if hasM g p0 = true then psF g (tn p0) else FP.fconst0) := hw6
    subst hw6
    rw [show (if hasM g p0 = true then psF g (tn p0) else FP.fconst0) = psF g (tn p0) from if_pos hcnd]
    refine lv_fstore (lv' := [(7, .float (psF g (tn p0))), (6, .int (nI 0)), (0, .ref sb), (1, .ref (x 0)), (2, .ref (mb 0)), (3, .ref ol), (4, .ref od), (5, .int (nI i))]) hx hb dL_law_2093 hl (by decide) rfl (fun ls hl => ?_)
    refine lv_aload_n hx hb dL_law_2095 rfl (lv_at hl 4 rfl) ?_
    refine run_i (S := Unit) (run_V (As := []) (rest := []) (bs := [loC E ol lo, dbC E od lo9, coC E x a a2 a3 b d k pa y w, stC E a g, stC E a2 g2, stC E a3 g3, hhC E b hs hg nx ct, diC E d co re, grC E k u9.1 u9.2, prC E pa q F, sbO E y v ml n, baC E v cp t, moC E mb (upn z 0 (if hasM g p0 = true then 0 else 1)) g gs ar]) (cb := [moC E mb (upn z 0 (if hasM g p0 = true then 0 else 1)) g gs ar]) hx hb hml hown hts hK hZ hA (c_X6_thrown l E _ mb (upn z 0 (if hasM g p0 = true then 0 else 1)) g gs ar) l_L_152 rfl ⟨⟨rfl, rfl⟩, Nat.le_of_ble_eq_true rfl, Nat.le_of_ble_eq_true rfl⟩ 10 rfl [12] rfl (by decide) rfl hP hD hS hl.1 rfl (Nat.le_of_ble_eq_true rfl) dL_law_2096 ⟨by show ((cells + 1) + 0) + 0 ≤ 603072; omega, by show ((slots + 6) + 0) + 0 ≤ 7174250; omega⟩) hA hP hD hS (isC := [12]) rfl [0, 1, 2, 3, 4, 5, 6, 7, 8, 9, 10, 11] [0, 1, 2, 3, 4, 5, 6, 7, 8, 9, 10, 11, 12] (br := [loC E ol lo, dbC E od lo9, coC E x a a2 a3 b d k pa y w, stC E a g, stC E a2 g2, stC E a3 g3, hhC E b hs hg nx ct, diC E d co re, grC E k u9.1 u9.2, prC E pa q F, sbO E y v ml n, baC E v cp t]) (bs2 := fun _ => [loC E ol lo, dbC E od lo9, coC E x a a2 a3 b d k pa y w, stC E a g, stC E a2 g2, stC E a3 g3, hhC E b hs hg nx ct, diC E d co re, grC E k u9.1 u9.2, prC E pa q F, sbO E y v ml n, baC E v cp t, moC E mb (upn z 0 (if hasM g p0 = true then 0 else 1)) g gs ar]) rfl (by decide) (fun _ => rfl) (by decide) (fun r u6 H locs hw6 hP hD hS => ?_)
    have hw6 : r = nI ((upn z 0 (if hasM g p0 = true then 0 else 1)) 0) := hw6
    subst hw6
    refine lv_iload hx hb dL_law_2099 (lv_at hl 1 rfl) ?_
    refine lv_icmp_eq (tgt := 2106) hx hb dL_law_2101 (by decide) (fun _ => ?_) (fun hc => absurd (show nI ((upn z 0 (if hasM g p0 = true then 0 else 1)) 0) = nI 0 from congrArg nI (upn_s.trans (if_pos hcnd))) hc)
    refine lv_iload hx hb dL_law_2106 (lv_at hl 1 rfl) ?_
    refine nv_if_ne (X := ((0 : Nat) : Int)) hx hb (nI_toInt (by omega)) (tgt := 2144) dL_law_2108 (by decide) (fun c_1 => ?_) (fun c_1 => ?_)
    · exact absurd c_1 (by omega)
    · skip
      refine lv_aload hx hb dL_law_2111 (lv_at hl 6 rfl) ?_
      refine lv_iconst (v := nI 0) hx hb dL_law_2113 (by decide) ?_
      refine va_dald hx hb hK hP 1 5 rfl rfl (vp_in_nI (show 0 < 1 by decide) (by decide)) dL_law_2114 ?_
      rw [show lo9 (nI 0).toNatClampNeg = FP.f2d (psF g (tn p0)) from by rw [nI_clamp (show 0 < 2 ^ 31 by decide)]; exact hlo]
      refine lv_fload hx hb dL_law_2115 (lv_at hl 0 rfl) ?_
      refine lv_f2d hx hb dL_law_2117 (f2d_n (ps_n hI (by have := hasM_t hcnd; omega) _)) ?_
      refine lv_dcmp hx hb dL_law_2118 ?_
      refine tp_i (show Op.cmpValue (FP.dcmp (FP.f2d (psF g (tn p0))) (FP.f2d (psF g (tn p0)))) .l = nI 0 from by rw [dcmp_xx (f2d_n (ps_n hI (by have := hasM_t hcnd; omega) _))]; rfl) ?_
      refine nv_if_eq (X := ((0 : Nat) : Int)) hx hb (nI_toInt (by omega)) (tgt := 2144) dL_law_2119 (by decide) (fun c_2 => ?_) (fun c_2 => ?_)
      · skip
        refine lv_goto (tgt := 2541) hx hb dL_law_2144 (by decide) ?_
        exact W_widen (by omega) (by omega) (kk w g g2 g3 hg nx ct co re u9.1 u9.2 q F v ml n cp t (upn z 0 (if hasM g p0 = true then 0 else 1)) gs ar lo lo9 _ _ _ (rel_q hR hB4) hP hD hS (lv_sub hl [2, 3, 4, 5, 6, 7] rfl))
      · exact absurd c_2 (by omega)
  · skip
    have hw : r = nI 1 ∧ hasM g p0 = false := hw
    have hP : va_P E.1 vwCl ([loC E ol lo, dbC E od dO, coC E x a a2 a3 b d k pa y w, stC E a g, stC E a2 g2, stC E a3 g3, hhC E b hs hg nx ct, diC E d co re, grC E k so gw, prC E pa q F, sbO E y v ml n, baC E v cp t, moC E mb z g gs ar] : List va_W).flatten H := hP
    have hD : va_D A ([loC E ol lo, dbC E od dO, coC E x a a2 a3 b d k pa y w, stC E a g, stC E a2 g2, stC E a3 g3, hhC E b hs hg nx ct, diC E d co re, grC E k so gw, prC E pa q F, sbO E y v ml n, baC E v cp t, moC E mb z g gs ar] : List va_W).flatten := hD
    obtain ⟨rfl, hq⟩ := hw
    refine lv_istore (lv' := [(6, .int (nI 1)), (0, .ref sb), (1, .ref (x 0)), (2, .ref (mb 0)), (3, .ref ol), (4, .ref od), (5, .int (nI i))]) hx hb dL_law_2081 hl (by decide) rfl (fun ls hl => ?_)
    refine lv_aload_n hx hb dL_law_2083 rfl (lv_at hl 3 rfl) ?_
    refine lv_aload_n hx hb dL_law_2084 rfl (lv_at hl 1 rfl) ?_
    refine lv_iload hx hb dL_law_2085 (lv_at hl 6 rfl) ?_
    refine lv_iconst (v := nI 1) hx hb dL_law_2087 (by decide) ?_
    refine nv_iadd hx hb dL_law_2088 ?_
    refine va_sld hx hb hX hbl hbA hS (vp_in_nI (show i + 1 < L by omega) (by omega)) dL_law_2089 ?_
    refine tp_i (show xs (nI (i + 1)).toNatClampNeg = p0 from by rw [nI_clamp (by omega), hp0]) ?_
    refine run_f (S := Unit) (run_V (As := [.int p0]) (rest := []) (bs := [loC E ol lo, dbC E od dO, coC E x a a2 a3 b d k pa y w, stC E a g, stC E a2 g2, stC E a3 g3, hhC E b hs hg nx ct, diC E d co re, grC E k so gw, prC E pa q F, sbO E y v ml n, baC E v cp t, moC E mb z g gs ar]) (cb := [moC E mb z g gs ar]) hx hb hml hown hts hK hZ hA (c_X6_powerShare l E _ mb z g gs ar B hI p0) l_L_287 rfl ⟨⟨rfl, rfl⟩, Nat.le_of_ble_eq_true rfl, Nat.le_of_ble_eq_true rfl⟩ 10 rfl [12] rfl (by decide) rfl hP hD hS hl.1 rfl (Nat.le_of_ble_eq_true rfl) dL_law_2090 ⟨by show (cells + 1) + 0 ≤ 603072; omega, by show (slots + 6) + 0 ≤ 7174250; omega⟩) hA hP hD hS (isC := [12]) rfl [0, 1, 2, 3, 4, 5, 6, 7, 8, 9, 10, 11] [0, 1, 2, 3, 4, 5, 6, 7, 8, 9, 10, 11, 12] (br := [loC E ol lo, dbC E od dO, coC E x a a2 a3 b d k pa y w, stC E a g, stC E a2 g2, stC E a3 g3, hhC E b hs hg nx ct, diC E d co re, grC E k so gw, prC E pa q F, sbO E y v ml n, baC E v cp t]) (bs2 := fun _ => [loC E ol lo, dbC E od dO, coC E x a a2 a3 b d k pa y w, stC E a g, stC E a2 g2, stC E a3 g3, hhC E b hs hg nx ct, diC E d co re, grC E k so gw, prC E pa q F, sbO E y v ml n, baC E v cp t, moC E mb (upn z 0 (if hasM g p0 = true then 0 else 1)) g gs ar]) rfl (by decide) (fun _ => rfl) (by decide) (fun r u6 H locs hw6 hP hD hS => ?_)
    have hw6 : r = (if hasM g p0 = true then psF g (tn p0) else FP.fconst0) := hw6
    subst hw6
    refine lv_fstore (lv' := [(7, .float (if hasM g p0 = true then psF g (tn p0) else FP.fconst0)), (6, .int (nI 1)), (0, .ref sb), (1, .ref (x 0)), (2, .ref (mb 0)), (3, .ref ol), (4, .ref od), (5, .int (nI i))]) hx hb dL_law_2093 hl (by decide) rfl (fun ls hl => ?_)
    refine lv_aload_n hx hb dL_law_2095 rfl (lv_at hl 4 rfl) ?_
    refine run_i (S := Unit) (run_V (As := []) (rest := []) (bs := [loC E ol lo, dbC E od dO, coC E x a a2 a3 b d k pa y w, stC E a g, stC E a2 g2, stC E a3 g3, hhC E b hs hg nx ct, diC E d co re, grC E k so gw, prC E pa q F, sbO E y v ml n, baC E v cp t, moC E mb (upn z 0 (if hasM g p0 = true then 0 else 1)) g gs ar]) (cb := [moC E mb (upn z 0 (if hasM g p0 = true then 0 else 1)) g gs ar]) hx hb hml hown hts hK hZ hA (c_X6_thrown l E _ mb (upn z 0 (if hasM g p0 = true then 0 else 1)) g gs ar) l_L_152 rfl ⟨⟨rfl, rfl⟩, Nat.le_of_ble_eq_true rfl, Nat.le_of_ble_eq_true rfl⟩ 10 rfl [12] rfl (by decide) rfl hP hD hS hl.1 rfl (Nat.le_of_ble_eq_true rfl) dL_law_2096 ⟨by show ((cells + 1) + 0) + 0 ≤ 603072; omega, by show ((slots + 6) + 0) + 0 ≤ 7174250; omega⟩) hA hP hD hS (isC := [12]) rfl [0, 1, 2, 3, 4, 5, 6, 7, 8, 9, 10, 11] [0, 1, 2, 3, 4, 5, 6, 7, 8, 9, 10, 11, 12] (br := [loC E ol lo, dbC E od dO, coC E x a a2 a3 b d k pa y w, stC E a g, stC E a2 g2, stC E a3 g3, hhC E b hs hg nx ct, diC E d co re, grC E k so gw, prC E pa q F, sbO E y v ml n, baC E v cp t]) (bs2 := fun _ => [loC E ol lo, dbC E od dO, coC E x a a2 a3 b d k pa y w, stC E a g, stC E a2 g2, stC E a3 g3, hhC E b hs hg nx ct, diC E d co re, grC E k so gw, prC E pa q F, sbO E y v ml n, baC E v cp t, moC E mb (upn z 0 (if hasM g p0 = true then 0 else 1)) g gs ar]) rfl (by decide) (fun _ => rfl) (by decide) (fun r u6 H locs hw6 hP hD hS => ?_)
    have hw6 : r = nI ((upn z 0 (if hasM g p0 = true then 0 else 1)) 0) := hw6
    subst hw6
    refine lv_iload hx hb dL_law_2099 (lv_at hl 1 rfl) ?_
    refine lv_icmp_eq (tgt := 2106) hx hb dL_law_2101 (by decide) (fun _ => ?_) (fun hc => absurd (show nI ((upn z 0 (if hasM g p0 = true then 0 else 1)) 0) = nI 1 from congrArg nI (upn_s.trans (if_neg (fun h9 => by rw [hq] at h9; cases h9)))) hc)
    refine lv_iload hx hb dL_law_2106 (lv_at hl 1 rfl) ?_
    refine nv_if_ne (X := ((1 : Nat) : Int)) hx hb (nI_toInt (by omega)) (tgt := 2144) dL_law_2108 (by decide) (fun c_3 => ?_) (fun c_3 => ?_)
    · skip
      refine lv_goto (tgt := 2541) hx hb dL_law_2144 (by decide) ?_
      exact W_widen (by omega) (by omega) (kk w g g2 g3 hg nx ct co re so gw q F v ml n cp t (upn z 0 (if hasM g p0 = true then 0 else 1)) gs ar lo dO _ _ _ (rel_q hR hB4) hP hD hS (lv_sub hl [2, 3, 4, 5, 6, 7] rfl))
    · exact absurd c_3 (by omega)
set_option maxHeartbeats 4000000 in
set_option maxRecDepth 100000 in
theorem st_isConsistent {p : Program} {l : Launch} {e : Env} {s : State} {m : MethodId} {args : Array Value} {below : List Frame} {meth : Method} {c : Code} {E : EE} {A : Nat → Prop} {Q : State → Prop} {x a a2 a3 b d k pa y : Nat → Nat} {hs : Nat → Nat → Nat} {mb : Nat → Nat} {ol od sb : Nat} {i B cells slots L : Nat} {xs : Nat → Int32} (C : LCx p l s m args c E A sb L xs) (hL : L ≤ 2560) (hi : i + 5 ≤ L) (hB4 : B + 420 ≤ 300000) (hrc : cells + 13 ≤ 603072 ∧ slots + 414 ≤ 7174250) (kk : LGo p l e s m args below meth c E A Q x a a2 a3 b d k pa y hs mb ol od sb i (B + 420) (cells + 13) (slots + 414) 2541) : LGo p l e s m args below meth c E A Q x a a2 a3 b d k pa y hs mb ol od sb i B cells slots 2147 := by
  obtain ⟨hx, hb, hml, hown, hts, hK, hZ, hDD, hA, hX, hbl, hbA, hst⟩ := C
  intro w g g2 g3 hg nx ct co re so gw q F v ml n cp t z gs ar lo dO H locs ls hR hP hD hS hl
  obtain ⟨hI, ⟨hs1, hs2, hs3⟩, ⟨hnx, hct, hz1, hh9⟩, ⟨hw1, hw2, hz5, hz6⟩, ⟨hq1, hq2, hF0, hF9⟩, ⟨hn1, hn2, hcp, ht9, htx, ho2⟩⟩ := id hR
  have hmc := hI.mc
  refine lv_aload_n hx hb dL_law_2147 rfl (lv_at hl 1 rfl) ?_
  refine run_i (S := ((Nat → Nat) × (Nat → Nat)) × ((Nat → Nat) × (Nat → Nat))) (run_V (As := []) (rest := []) (bs := [loC E ol lo, dbC E od dO, coC E x a a2 a3 b d k pa y w, stC E a g, stC E a2 g2, stC E a3 g3, hhC E b hs hg nx ct, diC E d co re, grC E k so gw, prC E pa q F, sbO E y v ml n, baC E v cp t, moC E mb z g gs ar]) (cb := [coC E x a a2 a3 b d k pa y w, stC E a g, diC E d co re, grC E k so gw]) hx hb hml hown hts hK hZ hA (c_X5_isConsistent l E _ x a a2 a3 b d k pa y w g B hI co re so gw) l_L_288 rfl ⟨⟨rfl, rfl⟩, Nat.le_of_ble_eq_true rfl, Nat.le_of_ble_eq_true rfl⟩ 9 rfl [2, 3, 7, 8] rfl (by decide) rfl hP hD hS hl.1 rfl (Nat.le_of_ble_eq_true rfl) dL_law_2148 ⟨by show cells + 0 ≤ 603072; omega, by show slots + 0 ≤ 7174250; omega⟩) hA hP hD hS (isC := [2, 3, 7, 8]) rfl [0, 1, 4, 5, 6, 9, 10, 11, 12] [0, 1, 9, 10, 2, 3, 4, 11, 12, 5, 6, 7, 8] (br := [loC E ol lo, dbC E od dO, stC E a2 g2, stC E a3 g3, hhC E b hs hg nx ct, prC E pa q F, sbO E y v ml n, baC E v cp t, moC E mb z g gs ar]) (bs2 := fun u5 => [loC E ol lo, dbC E od dO, coC E x a a2 a3 b d k pa y w, stC E a g, stC E a2 g2, stC E a3 g3, hhC E b hs hg nx ct, diC E d u5.1.1 u5.1.2, grC E k u5.2.1 u5.2.2, prC E pa q F, sbO E y v ml n, baC E v cp t, moC E mb z g gs ar]) rfl (by decide) (fun _ => rfl) (by decide) (fun r u5 H locs hw6 hP hD hS => ?_)
  have hw6 : r = bI true := hw6
  subst hw6
  refine lv_aload_n hx hb dL_law_2151 rfl (lv_at hl 2 rfl) ?_
  refine run_i (S := Unit) (run_V (As := []) (rest := [.int (bI true)]) (bs := [loC E ol lo, dbC E od dO, coC E x a a2 a3 b d k pa y w, stC E a g, stC E a2 g2, stC E a3 g3, hhC E b hs hg nx ct, diC E d u5.1.1 u5.1.2, grC E k u5.2.1 u5.2.2, prC E pa q F, sbO E y v ml n, baC E v cp t, moC E mb z g gs ar]) (cb := [moC E mb z g gs ar]) hx hb hml hown hts hK hZ hA (c_X6_isConsistent l E _ mb z g gs ar) l_L_292 rfl ⟨⟨rfl, rfl⟩, Nat.le_of_ble_eq_true rfl, Nat.le_of_ble_eq_true rfl⟩ 10 rfl [12] rfl (by decide) rfl hP hD hS hl.1 rfl (Nat.le_of_ble_eq_true rfl) dL_law_2152 ⟨by show (cells + 0) + 0 ≤ 603072; omega, by show (slots + 0) + 0 ≤ 7174250; omega⟩) hA hP hD hS (isC := [12]) rfl [0, 1, 2, 3, 4, 5, 6, 7, 8, 9, 10, 11] [0, 1, 2, 3, 4, 5, 6, 7, 8, 9, 10, 11, 12] (br := [loC E ol lo, dbC E od dO, coC E x a a2 a3 b d k pa y w, stC E a g, stC E a2 g2, stC E a3 g3, hhC E b hs hg nx ct, diC E d u5.1.1 u5.1.2, grC E k u5.2.1 u5.2.2, prC E pa q F, sbO E y v ml n, baC E v cp t]) (bs2 := fun _ => [loC E ol lo, dbC E od dO, coC E x a a2 a3 b d k pa y w, stC E a g, stC E a2 g2, stC E a3 g3, hhC E b hs hg nx ct, diC E d u5.1.1 u5.1.2, grC E k u5.2.1 u5.2.2, prC E pa q F, sbO E y v ml n, baC E v cp t, moC E mb (upn z 0 0) g gs ar]) rfl (by decide) (fun _ => rfl) (by decide) (fun r u6 H locs hw6 hP hD hS => ?_)
  have hw6 : r = bI true := hw6
  subst hw6
  refine lv_icmp_eq (tgt := 2541) hx hb dL_law_2155 (by decide) (fun _ => ?_) (fun hc => absurd (show bI true = bI true from rfl) hc)
  exact W_widen (by omega) (by omega) (kk w g g2 g3 hg nx ct u5.1.1 u5.1.2 u5.2.1 u5.2.2 q F v ml n cp t (upn z 0 0) gs ar lo dO _ _ _ (rel_q hR hB4) hP hD hS (lv_sub hl [0, 1, 2, 3, 4, 5] rfl))
set_option maxHeartbeats 4000000 in
set_option maxRecDepth 100000 in
theorem st_append {p : Program} {l : Launch} {e : Env} {s : State} {m : MethodId} {args : Array Value} {below : List Frame} {meth : Method} {c : Code} {E : EE} {A : Nat → Prop} {Q : State → Prop} {x a a2 a3 b d k pa y : Nat → Nat} {hs : Nat → Nat → Nat} {mb : Nat → Nat} {ol od sb : Nat} {i B cells slots L : Nat} {xs : Nat → Int32} (C : LCx p l s m args c E A sb L xs) (hL : L ≤ 2560) (hi : i + 5 ≤ L) (hB4 : B + 420 ≤ 300000) (hrc : cells + 13 ≤ 603072 ∧ slots + 414 ≤ 7174250) (kk : LGo p l e s m args below meth c E A Q x a a2 a3 b d k pa y hs mb ol od sb i (B + 420) (cells + 13) (slots + 414) 2541) : LGo p l e s m args below meth c E A Q x a a2 a3 b d k pa y hs mb ol od sb i B cells slots 2160 := by
  obtain ⟨hx, hb, hml, hown, hts, hK, hZ, hDD, hA, hX, hbl, hbA, hst⟩ := C
  intro w g g2 g3 hg nx ct co re so gw q F v ml n cp t z gs ar lo dO H locs ls hR hP hD hS hl
  obtain ⟨hI, ⟨hs1, hs2, hs3⟩, ⟨hnx, hct, hz1, hh9⟩, ⟨hw1, hw2, hz5, hz6⟩, ⟨hq1, hq2, hF0, hF9⟩, ⟨hn1, hn2, hcp, ht9, htx, ho2⟩⟩ := id hR
  have hmc := hI.mc
  obtain ⟨p0, hp0⟩ : ∃ y9, y9 = xs (i + 1) := ⟨_, rfl⟩
  obtain ⟨n0, hn0, he0⟩ := i2c_x p0
  refine lv_aload_n hx hb dL_law_2160 rfl (lv_at hl 1 rfl) ?_
  refine lv_aload_n hx hb dL_law_2161 rfl (lv_at hl 0 rfl) ?_
  refine lv_iload hx hb dL_law_2162 (lv_at hl 5 rfl) ?_
  refine lv_iconst (v := nI 1) hx hb dL_law_2164 (by decide) ?_
  refine nv_iadd hx hb dL_law_2165 ?_
  refine va_sld hx hb hX hbl hbA hS (vp_in_nI (show i + 1 < L by omega) (by omega)) dL_law_2166 ?_
  refine tp_i (show xs (nI (i + 1)).toNatClampNeg = p0 from by rw [nI_clamp (by omega), hp0]) ?_
  refine lv_i2c hx hb dL_law_2167 he0 ?_
  refine lv_aload_n hx hb dL_law_2168 rfl (lv_at hl 3 rfl) ?_
  refine run_i (S := (Unit × Int32 × (Nat → Int64)) ⊕ Unit) (run_SW (As := [.ref (x 0), .int (nI n0), .ref ol]) (rest := []) (bs := [loC E ol lo, dbC E od dO, coC E x a a2 a3 b d k pa y w, stC E a g, stC E a2 g2, stC E a3 g3, hhC E b hs hg nx ct, diC E d co re, grC E k so gw, prC E pa q F, sbO E y v ml n, baC E v cp t, moC E mb z g gs ar]) (cb := [loC E ol lo, coC E x a a2 a3 b d k pa y w, prC E pa q F]) hx hb hml hown hts hK hZ hDD hA (c_L_append l hst E _ x a a2 a3 b d k pa y w q F n0 hn0 hq2 ol lo) l_L_293 rfl ⟨⟨rfl, rfl⟩, Nat.le_of_ble_eq_true rfl, Nat.le_of_ble_eq_true rfl⟩ [0, 2, 9] rfl (by decide) hP hD hS hl.1 rfl (Nat.le_of_ble_eq_true rfl) dL_law_2169 ⟨by show cells + 1 ≤ 603072; omega, by show slots + 6 ≤ 7174250; omega⟩) hA hP hD hS (isC := [0, 2, 9]) rfl [1, 3, 4, 5, 6, 7, 8, 10, 11, 12] [10, 0, 11, 1, 2, 3, 4, 5, 6, 12, 7, 8, 9] (br := [dbC E od dO, stC E a g, stC E a2 g2, stC E a3 g3, hhC E b hs hg nx ct, diC E d co re, grC E k so gw, sbO E y v ml n, baC E v cp t, moC E mb z g gs ar]) (bs2 := fun u => Sum.elim (fun (vq : Unit × Int32 × (Nat → Int64)) => [loC E ol vq.2.2, dbC E od dO, coC E x a a2 a3 b d k pa y w, stC E a g, stC E a2 g2, stC E a3 g3, hhC E b hs hg nx ct, diC E d co re, grC E k so gw, prC E pa (upn q 0 (q 0 + 1)) (upr F 0 (upn (F 0) (q 0) n0)), sbO E y v ml n, baC E v cp t, moC E mb z g gs ar]) (fun (vq : Unit) => [loC E ol lo, dbC E od dO, coC E x a a2 a3 b d k pa y w, stC E a g, stC E a2 g2, stC E a3 g3, hhC E b hs hg nx ct, diC E d co re, grC E k so gw, prC E pa q F, sbO E y v ml n, baC E v cp t, moC E mb z g gs ar]) u) rfl (by decide) (fun u => by rcases u with u | u <;> rfl) (by decide) (fun r u H locs hw hP hD hS => ?_)
  rcases u with vq | vq
  · skip
    obtain ⟨u9, r9, lo9⟩ := vq
    have hw7 : r = nI 0 ∧ (q 0 < 60 ∧ r9 = nI (q 0 + 1)) ∧ lo9 0 = r9.toInt64 := hw
    clear hw
    obtain ⟨rfl, hw⟩ := hw7
    have hP : va_P E.1 vwCl ([loC E ol lo9, dbC E od dO, coC E x a a2 a3 b d k pa y w, stC E a g, stC E a2 g2, stC E a3 g3, hhC E b hs hg nx ct, diC E d co re, grC E k so gw, prC E pa (upn q 0 (q 0 + 1)) (upr F 0 (upn (F 0) (q 0) n0)), sbO E y v ml n, baC E v cp t, moC E mb z g gs ar] : List va_W).flatten H := hP
    have hD : va_D A ([loC E ol lo9, dbC E od dO, coC E x a a2 a3 b d k pa y w, stC E a g, stC E a2 g2, stC E a3 g3, hhC E b hs hg nx ct, diC E d co re, grC E k so gw, prC E pa (upn q 0 (q 0 + 1)) (upr F 0 (upn (F 0) (q 0) n0)), sbO E y v ml n, baC E v cp t, moC E mb z g gs ar] : List va_W).flatten := hD
    obtain ⟨⟨hcnd, hr9⟩, hlo⟩ := hw
    subst hr9
    refine lv_istore (lv' := [(6, .int (nI 0)), (0, .ref sb), (1, .ref (x 0)), (2, .ref (mb 0)), (3, .ref ol), (4, .ref od), (5, .int (nI i))]) hx hb dL_law_2172 hl (by decide) rfl (fun ls hl => ?_)
    refine lv_aload_n hx hb dL_law_2174 rfl (lv_at hl 3 rfl) ?_
    refine lv_aload_n hx hb dL_law_2175 rfl (lv_at hl 1 rfl) ?_
    refine lv_iload hx hb dL_law_2176 (lv_at hl 6 rfl) ?_
    refine lv_iconst (v := nI 1) hx hb dL_law_2178 (by decide) ?_
    refine nv_iadd hx hb dL_law_2179 ?_
    refine va_sld hx hb hX hbl hbA hS (vp_in_nI (show i + 1 < L by omega) (by omega)) dL_law_2180 ?_
    refine tp_i (show xs (nI (i + 1)).toNatClampNeg = p0 from by rw [nI_clamp (by omega), hp0]) ?_
    refine lv_i2c hx hb dL_law_2181 he0 ?_
    refine run_i (S := Unit) (run_V (As := [.int (nI n0)]) (rest := []) (bs := [loC E ol lo9, dbC E od dO, coC E x a a2 a3 b d k pa y w, stC E a g, stC E a2 g2, stC E a3 g3, hhC E b hs hg nx ct, diC E d co re, grC E k so gw, prC E pa (upn q 0 (q 0 + 1)) (upr F 0 (upn (F 0) (q 0) n0)), sbO E y v ml n, baC E v cp t, moC E mb z g gs ar]) (cb := [moC E mb z g gs ar]) hx hb hml hown hts hK hZ hA (c_X6_append l E _ mb z g gs ar n0 (by omega)) l_L_296 rfl ⟨⟨rfl, rfl⟩, Nat.le_of_ble_eq_true rfl, Nat.le_of_ble_eq_true rfl⟩ 10 rfl [12] rfl (by decide) rfl hP hD hS hl.1 rfl (Nat.le_of_ble_eq_true rfl) dL_law_2182 ⟨by show (cells + 1) + 0 ≤ 603072; omega, by show (slots + 6) + 0 ≤ 7174250; omega⟩) hA hP hD hS (isC := [12]) rfl [0, 1, 2, 3, 4, 5, 6, 7, 8, 9, 10, 11] [0, 1, 2, 3, 4, 5, 6, 7, 8, 9, 10, 11, 12] (br := [loC E ol lo9, dbC E od dO, coC E x a a2 a3 b d k pa y w, stC E a g, stC E a2 g2, stC E a3 g3, hhC E b hs hg nx ct, diC E d co re, grC E k so gw, prC E pa (upn q 0 (q 0 + 1)) (upr F 0 (upn (F 0) (q 0) n0)), sbO E y v ml n, baC E v cp t]) (bs2 := fun _ => [loC E ol lo9, dbC E od dO, coC E x a a2 a3 b d k pa y w, stC E a g, stC E a2 g2, stC E a3 g3, hhC E b hs hg nx ct, diC E d co re, grC E k so gw, prC E pa (upn q 0 (q 0 + 1)) (upr F 0 (upn (F 0) (q 0) n0)), sbO E y v ml n, baC E v cp t, moC E mb (if z 3 = 60 then upn z 0 1 else upn (upn z 0 0) 3 (z 3 + 1)) g gs (if z 3 = 60 then ar else upr ar 0 (upn (ar 0) (z 3) n0))]) rfl (by decide) (fun _ => rfl) (by decide) (fun r u6 H locs hw6 hP hD hS => ?_)
    have hw6 : r = nI (if z 3 = 60 then 0 else z 3 + 1) := hw6
    subst hw6
    have h60 : ¬ z 3 = 60 := by omega
    rw [if_neg h60, if_neg h60] at hP hD
    have hP : va_P E.1 vwCl ([loC E ol lo9, dbC E od dO, coC E x a a2 a3 b d k pa y w, stC E a g, stC E a2 g2, stC E a3 g3, hhC E b hs hg nx ct, diC E d co re, grC E k so gw, prC E pa (upn q 0 (q 0 + 1)) (upr F 0 (upn (F 0) (q 0) n0)), sbO E y v ml n, baC E v cp t, moC E mb (upn (upn z 0 0) 3 (z 3 + 1)) g gs (upr ar 0 (upn (ar 0) (z 3) n0))] : List va_W).flatten H := hP
    have hD : va_D A ([loC E ol lo9, dbC E od dO, coC E x a a2 a3 b d k pa y w, stC E a g, stC E a2 g2, stC E a3 g3, hhC E b hs hg nx ct, diC E d co re, grC E k so gw, prC E pa (upn q 0 (q 0 + 1)) (upr F 0 (upn (F 0) (q 0) n0)), sbO E y v ml n, baC E v cp t, moC E mb (upn (upn z 0 0) 3 (z 3 + 1)) g gs (upr ar 0 (upn (ar 0) (z 3) n0))] : List va_W).flatten := hD
    refine tp_i (show nI (if z 3 = 60 then 0 else z 3 + 1) = nI (q 0 + 1) from congrArg nI ((if_neg h60).trans (by omega))) ?_
    refine lv_istore (lv' := [(7, .int (nI (q 0 + 1))), (6, .int (nI 0)), (0, .ref sb), (1, .ref (x 0)), (2, .ref (mb 0)), (3, .ref ol), (4, .ref od), (5, .int (nI i))]) hx hb dL_law_2185 hl (by decide) rfl (fun ls hl => ?_)
    refine lv_aload_n hx hb dL_law_2187 rfl (lv_at hl 4 rfl) ?_
    refine run_i (S := Unit) (run_V (As := []) (rest := []) (bs := [loC E ol lo9, dbC E od dO, coC E x a a2 a3 b d k pa y w, stC E a g, stC E a2 g2, stC E a3 g3, hhC E b hs hg nx ct, diC E d co re, grC E k so gw, prC E pa (upn q 0 (q 0 + 1)) (upr F 0 (upn (F 0) (q 0) n0)), sbO E y v ml n, baC E v cp t, moC E mb (upn (upn z 0 0) 3 (z 3 + 1)) g gs (upr ar 0 (upn (ar 0) (z 3) n0))]) (cb := [moC E mb (upn (upn z 0 0) 3 (z 3 + 1)) g gs (upr ar 0 (upn (ar 0) (z 3) n0))]) hx hb hml hown hts hK hZ hA (c_X6_thrown l E _ mb (upn (upn z 0 0) 3 (z 3 + 1)) g gs (upr ar 0 (upn (ar 0) (z 3) n0))) l_L_152 rfl ⟨⟨rfl, rfl⟩, Nat.le_of_ble_eq_true rfl, Nat.le_of_ble_eq_true rfl⟩ 10 rfl [12] rfl (by decide) rfl hP hD hS hl.1 rfl (Nat.le_of_ble_eq_true rfl) dL_law_2188 ⟨by show ((cells + 1) + 0) + 0 ≤ 603072; omega, by show ((slots + 6) + 0) + 0 ≤ 7174250; omega⟩) hA hP hD hS (isC := [12]) rfl [0, 1, 2, 3, 4, 5, 6, 7, 8, 9, 10, 11] [0, 1, 2, 3, 4, 5, 6, 7, 8, 9, 10, 11, 12] (br := [loC E ol lo9, dbC E od dO, coC E x a a2 a3 b d k pa y w, stC E a g, stC E a2 g2, stC E a3 g3, hhC E b hs hg nx ct, diC E d co re, grC E k so gw, prC E pa (upn q 0 (q 0 + 1)) (upr F 0 (upn (F 0) (q 0) n0)), sbO E y v ml n, baC E v cp t]) (bs2 := fun _ => [loC E ol lo9, dbC E od dO, coC E x a a2 a3 b d k pa y w, stC E a g, stC E a2 g2, stC E a3 g3, hhC E b hs hg nx ct, diC E d co re, grC E k so gw, prC E pa (upn q 0 (q 0 + 1)) (upr F 0 (upn (F 0) (q 0) n0)), sbO E y v ml n, baC E v cp t, moC E mb (upn (upn z 0 0) 3 (z 3 + 1)) g gs (upr ar 0 (upn (ar 0) (z 3) n0))]) rfl (by decide) (fun _ => rfl) (by decide) (fun r u6 H locs hw6 hP hD hS => ?_)
    have hw6 : r = nI ((upn (upn z 0 0) 3 (z 3 + 1)) 0) := hw6
    subst hw6
    refine lv_iload hx hb dL_law_2191 (lv_at hl 1 rfl) ?_
    refine lv_icmp_eq (tgt := 2198) hx hb dL_law_2193 (by decide) (fun _ => ?_) (fun hc => absurd (show nI ((upn (upn z 0 0) 3 (z 3 + 1)) 0) = nI 0 from congrArg nI ((upn_n (by decide)).trans upn_s)) hc)
    refine lv_iload hx hb dL_law_2198 (lv_at hl 1 rfl) ?_
    refine nv_if_ne (X := ((0 : Nat) : Int)) hx hb (nI_toInt (by omega)) (tgt := 2215) dL_law_2200 (by decide) (fun c_1 => ?_) (fun c_1 => ?_)
    · exact absurd c_1 (by omega)
    · skip
      refine lv_aload_n hx hb dL_law_2203 rfl (lv_at hl 5 rfl) ?_
      refine lv_iconst (v := nI 0) hx hb dL_law_2204 (by decide) ?_
      refine va_lald hx hb hK hP 0 4 rfl rfl (vp_in_nI (show 0 < 1 by decide) (by decide)) dL_law_2205 ?_
      rw [show lo9 (nI 0).toNatClampNeg = (nI (q 0 + 1)).toInt64 from by rw [nI_clamp (show 0 < 2 ^ 31 by decide)]; exact hlo]
      refine lv_iload hx hb dL_law_2206 (lv_at hl 0 rfl) ?_
      refine lv_i2l hx hb dL_law_2208 rfl ?_
      refine W.lcmp hx hb dL_law_2209 ?_
      refine tp_i (show lg_cmp ((nI (q 0 + 1)).toInt64) ((nI (q 0 + 1)).toInt64) = nI 0 from lg_eq _) ?_
      refine nv_if_eq (X := ((0 : Nat) : Int)) hx hb (nI_toInt (by omega)) (tgt := 2215) dL_law_2210 (by decide) (fun c_2 => ?_) (fun c_2 => ?_)
      · skip
        refine lv_goto (tgt := 2541) hx hb dL_law_2215 (by decide) ?_
        exact W_widen (by omega) (by omega) (kk w g g2 g3 hg nx ct co re so gw (upn q 0 (q 0 + 1)) (upr F 0 (upn (F 0) (q 0) n0)) v ml n cp t (upn (upn z 0 0) 3 (z 3 + 1)) gs (upr ar 0 (upn (ar 0) (z 3) n0)) lo9 dO _ _ _ (rel_a hR hB4 hcnd hn0) hP hD hS (lv_sub hl [2, 3, 4, 5, 6, 7] rfl))
      · exact absurd c_2 (by omega)
  · skip
    have hw : r = nI 1 ∧ ¬ q 0 < 60 := hw
    have hP : va_P E.1 vwCl ([loC E ol lo, dbC E od dO, coC E x a a2 a3 b d k pa y w, stC E a g, stC E a2 g2, stC E a3 g3, hhC E b hs hg nx ct, diC E d co re, grC E k so gw, prC E pa q F, sbO E y v ml n, baC E v cp t, moC E mb z g gs ar] : List va_W).flatten H := hP
    have hD : va_D A ([loC E ol lo, dbC E od dO, coC E x a a2 a3 b d k pa y w, stC E a g, stC E a2 g2, stC E a3 g3, hhC E b hs hg nx ct, diC E d co re, grC E k so gw, prC E pa q F, sbO E y v ml n, baC E v cp t, moC E mb z g gs ar] : List va_W).flatten := hD
    obtain ⟨rfl, hq⟩ := hw
    refine lv_istore (lv' := [(6, .int (nI 1)), (0, .ref sb), (1, .ref (x 0)), (2, .ref (mb 0)), (3, .ref ol), (4, .ref od), (5, .int (nI i))]) hx hb dL_law_2172 hl (by decide) rfl (fun ls hl => ?_)
    refine lv_aload_n hx hb dL_law_2174 rfl (lv_at hl 3 rfl) ?_
    refine lv_aload_n hx hb dL_law_2175 rfl (lv_at hl 1 rfl) ?_
    refine lv_iload hx hb dL_law_2176 (lv_at hl 6 rfl) ?_
    refine lv_iconst (v := nI 1) hx hb dL_law_2178 (by decide) ?_
    refine nv_iadd hx hb dL_law_2179 ?_
    refine va_sld hx hb hX hbl hbA hS (vp_in_nI (show i + 1 < L by omega) (by omega)) dL_law_2180 ?_
    refine tp_i (show xs (nI (i + 1)).toNatClampNeg = p0 from by rw [nI_clamp (by omega), hp0]) ?_
    refine lv_i2c hx hb dL_law_2181 he0 ?_
    refine run_i (S := Unit) (run_V (As := [.int (nI n0)]) (rest := []) (bs := [loC E ol lo, dbC E od dO, coC E x a a2 a3 b d k pa y w, stC E a g, stC E a2 g2, stC E a3 g3, hhC E b hs hg nx ct, diC E d co re, grC E k so gw, prC E pa q F, sbO E y v ml n, baC E v cp t, moC E mb z g gs ar]) (cb := [moC E mb z g gs ar]) hx hb hml hown hts hK hZ hA (c_X6_append l E _ mb z g gs ar n0 (by omega)) l_L_296 rfl ⟨⟨rfl, rfl⟩, Nat.le_of_ble_eq_true rfl, Nat.le_of_ble_eq_true rfl⟩ 10 rfl [12] rfl (by decide) rfl hP hD hS hl.1 rfl (Nat.le_of_ble_eq_true rfl) dL_law_2182 ⟨by show (cells + 1) + 0 ≤ 603072; omega, by show (slots + 6) + 0 ≤ 7174250; omega⟩) hA hP hD hS (isC := [12]) rfl [0, 1, 2, 3, 4, 5, 6, 7, 8, 9, 10, 11] [0, 1, 2, 3, 4, 5, 6, 7, 8, 9, 10, 11, 12] (br := [loC E ol lo, dbC E od dO, coC E x a a2 a3 b d k pa y w, stC E a g, stC E a2 g2, stC E a3 g3, hhC E b hs hg nx ct, diC E d co re, grC E k so gw, prC E pa q F, sbO E y v ml n, baC E v cp t]) (bs2 := fun _ => [loC E ol lo, dbC E od dO, coC E x a a2 a3 b d k pa y w, stC E a g, stC E a2 g2, stC E a3 g3, hhC E b hs hg nx ct, diC E d co re, grC E k so gw, prC E pa q F, sbO E y v ml n, baC E v cp t, moC E mb (if z 3 = 60 then upn z 0 1 else upn (upn z 0 0) 3 (z 3 + 1)) g gs (if z 3 = 60 then ar else upr ar 0 (upn (ar 0) (z 3) n0))]) rfl (by decide) (fun _ => rfl) (by decide) (fun r u6 H locs hw6 hP hD hS => ?_)
    have hw6 : r = nI (if z 3 = 60 then 0 else z 3 + 1) := hw6
    subst hw6
    have h60 : z 3 = 60 := by omega
    rw [if_pos h60, if_pos h60] at hP hD
    have hP : va_P E.1 vwCl ([loC E ol lo, dbC E od dO, coC E x a a2 a3 b d k pa y w, stC E a g, stC E a2 g2, stC E a3 g3, hhC E b hs hg nx ct, diC E d co re, grC E k so gw, prC E pa q F, sbO E y v ml n, baC E v cp t, moC E mb (upn z 0 1) g gs ar] : List va_W).flatten H := hP
    have hD : va_D A ([loC E ol lo, dbC E od dO, coC E x a a2 a3 b d k pa y w, stC E a g, stC E a2 g2, stC E a3 g3, hhC E b hs hg nx ct, diC E d co re, grC E k so gw, prC E pa q F, sbO E y v ml n, baC E v cp t, moC E mb (upn z 0 1) g gs ar] : List va_W).flatten := hD
    refine lv_istore (lv' := [(7, .int (nI (if z 3 = 60 then 0 else z 3 + 1))), (6, .int (nI 1)), (0, .ref sb), (1, .ref (x 0)), (2, .ref (mb 0)), (3, .ref ol), (4, .ref od), (5, .int (nI i))]) hx hb dL_law_2185 hl (by decide) rfl (fun ls hl => ?_)
    refine lv_aload_n hx hb dL_law_2187 rfl (lv_at hl 4 rfl) ?_
    refine run_i (S := Unit) (run_V (As := []) (rest := []) (bs := [loC E ol lo, dbC E od dO, coC E x a a2 a3 b d k pa y w, stC E a g, stC E a2 g2, stC E a3 g3, hhC E b hs hg nx ct, diC E d co re, grC E k so gw, prC E pa q F, sbO E y v ml n, baC E v cp t, moC E mb (upn z 0 1) g gs ar]) (cb := [moC E mb (upn z 0 1) g gs ar]) hx hb hml hown hts hK hZ hA (c_X6_thrown l E _ mb (upn z 0 1) g gs ar) l_L_152 rfl ⟨⟨rfl, rfl⟩, Nat.le_of_ble_eq_true rfl, Nat.le_of_ble_eq_true rfl⟩ 10 rfl [12] rfl (by decide) rfl hP hD hS hl.1 rfl (Nat.le_of_ble_eq_true rfl) dL_law_2188 ⟨by show ((cells + 1) + 0) + 0 ≤ 603072; omega, by show ((slots + 6) + 0) + 0 ≤ 7174250; omega⟩) hA hP hD hS (isC := [12]) rfl [0, 1, 2, 3, 4, 5, 6, 7, 8, 9, 10, 11] [0, 1, 2, 3, 4, 5, 6, 7, 8, 9, 10, 11, 12] (br := [loC E ol lo, dbC E od dO, coC E x a a2 a3 b d k pa y w, stC E a g, stC E a2 g2, stC E a3 g3, hhC E b hs hg nx ct, diC E d co re, grC E k so gw, prC E pa q F, sbO E y v ml n, baC E v cp t]) (bs2 := fun _ => [loC E ol lo, dbC E od dO, coC E x a a2 a3 b d k pa y w, stC E a g, stC E a2 g2, stC E a3 g3, hhC E b hs hg nx ct, diC E d co re, grC E k so gw, prC E pa q F, sbO E y v ml n, baC E v cp t, moC E mb (upn z 0 1) g gs ar]) rfl (by decide) (fun _ => rfl) (by decide) (fun r u6 H locs hw6 hP hD hS => ?_)
    have hw6 : r = nI ((upn z 0 1) 0) := hw6
    subst hw6
    refine lv_iload hx hb dL_law_2191 (lv_at hl 1 rfl) ?_
    refine lv_icmp_eq (tgt := 2198) hx hb dL_law_2193 (by decide) (fun _ => ?_) (fun hc => absurd (show nI ((upn z 0 1) 0) = nI 1 from congrArg nI (upn_s)) hc)
    refine lv_iload hx hb dL_law_2198 (lv_at hl 1 rfl) ?_
    refine nv_if_ne (X := ((1 : Nat) : Int)) hx hb (nI_toInt (by omega)) (tgt := 2215) dL_law_2200 (by decide) (fun c_3 => ?_) (fun c_3 => ?_)
    · skip
      refine lv_goto (tgt := 2541) hx hb dL_law_2215 (by decide) ?_
      exact W_widen (by omega) (by omega) (kk w g g2 g3 hg nx ct co re so gw q F v ml n cp t (upn z 0 1) gs ar lo dO _ _ _ (rel_q hR hB4) hP hD hS (lv_sub hl [2, 3, 4, 5, 6, 7] rfl))
    · exact absurd c_3 (by omega)
set_option maxHeartbeats 4000000 in
set_option maxRecDepth 100000 in
theorem st_errorPosition {p : Program} {l : Launch} {e : Env} {s : State} {m : MethodId} {args : Array Value} {below : List Frame} {meth : Method} {c : Code} {E : EE} {A : Nat → Prop} {Q : State → Prop} {x a a2 a3 b d k pa y : Nat → Nat} {hs : Nat → Nat → Nat} {mb : Nat → Nat} {ol od sb : Nat} {i B cells slots L : Nat} {xs : Nat → Int32} (C : LCx p l s m args c E A sb L xs) (hL : L ≤ 2560) (hi : i + 5 ≤ L) (hB4 : B + 420 ≤ 300000) (hrc : cells + 13 ≤ 603072 ∧ slots + 414 ≤ 7174250) (kk : LGo p l e s m args below meth c E A Q x a a2 a3 b d k pa y hs mb ol od sb i (B + 420) (cells + 13) (slots + 414) 2541) : LGo p l e s m args below meth c E A Q x a a2 a3 b d k pa y hs mb ol od sb i B cells slots 2262 := by
  obtain ⟨hx, hb, hml, hown, hts, hK, hZ, hDD, hA, hX, hbl, hbA, hst⟩ := C
  intro w g g2 g3 hg nx ct co re so gw q F v ml n cp t z gs ar lo dO H locs ls hR hP hD hS hl
  obtain ⟨hI, ⟨hs1, hs2, hs3⟩, ⟨hnx, hct, hz1, hh9⟩, ⟨hw1, hw2, hz5, hz6⟩, ⟨hq1, hq2, hF0, hF9⟩, ⟨hn1, hn2, hcp, ht9, htx, ho2⟩⟩ := id hR
  have hmc := hI.mc
  refine lv_aload_n hx hb dL_law_2262 rfl (lv_at hl 1 rfl) ?_
  refine lv_aload_n hx hb dL_law_2263 rfl (lv_at hl 3 rfl) ?_
  refine run_i (S := (Unit × Int32 × (Nat → Int64)) ⊕ Unit) (run_SW (As := [.ref (x 0), .ref ol]) (rest := []) (bs := [loC E ol lo, dbC E od dO, coC E x a a2 a3 b d k pa y w, stC E a g, stC E a2 g2, stC E a3 g3, hhC E b hs hg nx ct, diC E d co re, grC E k so gw, prC E pa q F, sbO E y v ml n, baC E v cp t, moC E mb z g gs ar]) (cb := [loC E ol lo, coC E x a a2 a3 b d k pa y w]) hx hb hml hown hts hK hZ hDD hA (c_L_errorPosition l hst E _ x a a2 a3 b d k pa y w (by omega) ol lo) l_L_300 rfl ⟨⟨rfl, rfl⟩, Nat.le_of_ble_eq_true rfl, Nat.le_of_ble_eq_true rfl⟩ [0, 2] rfl (by decide) hP hD hS hl.1 rfl (Nat.le_of_ble_eq_true rfl) dL_law_2264 ⟨by show cells + 1 ≤ 603072; omega, by show slots + 6 ≤ 7174250; omega⟩) hA hP hD hS (isC := [0, 2]) rfl [1, 3, 4, 5, 6, 7, 8, 9, 10, 11, 12] [11, 0, 12, 1, 2, 3, 4, 5, 6, 7, 8, 9, 10] (br := [dbC E od dO, stC E a g, stC E a2 g2, stC E a3 g3, hhC E b hs hg nx ct, diC E d co re, grC E k so gw, prC E pa q F, sbO E y v ml n, baC E v cp t, moC E mb z g gs ar]) (bs2 := fun u => Sum.elim (fun (vq : Unit × Int32 × (Nat → Int64)) => [loC E ol vq.2.2, dbC E od dO, coC E x a a2 a3 b d k pa y w, stC E a g, stC E a2 g2, stC E a3 g3, hhC E b hs hg nx ct, diC E d co re, grC E k so gw, prC E pa q F, sbO E y v ml n, baC E v cp t, moC E mb z g gs ar]) (fun (vq : Unit) => [loC E ol lo, dbC E od dO, coC E x a a2 a3 b d k pa y w, stC E a g, stC E a2 g2, stC E a3 g3, hhC E b hs hg nx ct, diC E d co re, grC E k so gw, prC E pa q F, sbO E y v ml n, baC E v cp t, moC E mb z g gs ar]) u) rfl (by decide) (fun u => by rcases u with u | u <;> rfl) (by decide) (fun r u H locs hw hP hD hS => ?_)
  rcases u with vq | vq
  · skip
    obtain ⟨u9, r9, lo9⟩ := vq
    have hw7 : r = nI 0 ∧ (w 1 ≠ 0 ∧ r9 = nI (w 1) - 1) ∧ lo9 0 = r9.toInt64 := hw
    clear hw
    obtain ⟨rfl, hw⟩ := hw7
    have hP : va_P E.1 vwCl ([loC E ol lo9, dbC E od dO, coC E x a a2 a3 b d k pa y w, stC E a g, stC E a2 g2, stC E a3 g3, hhC E b hs hg nx ct, diC E d co re, grC E k so gw, prC E pa q F, sbO E y v ml n, baC E v cp t, moC E mb z g gs ar] : List va_W).flatten H := hP
    have hD : va_D A ([loC E ol lo9, dbC E od dO, coC E x a a2 a3 b d k pa y w, stC E a g, stC E a2 g2, stC E a3 g3, hhC E b hs hg nx ct, diC E d co re, grC E k so gw, prC E pa q F, sbO E y v ml n, baC E v cp t, moC E mb z g gs ar] : List va_W).flatten := hD
    obtain ⟨⟨hcnd, hr9⟩, hlo⟩ := hw
    subst hr9
    refine lv_istore (lv' := [(6, .int (nI 0)), (0, .ref sb), (1, .ref (x 0)), (2, .ref (mb 0)), (3, .ref ol), (4, .ref od), (5, .int (nI i))]) hx hb dL_law_2267 hl (by decide) rfl (fun ls hl => ?_)
    refine lv_aload_n hx hb dL_law_2269 rfl (lv_at hl 3 rfl) ?_
    refine run_i (S := Unit) (run_V (As := []) (rest := []) (bs := [loC E ol lo9, dbC E od dO, coC E x a a2 a3 b d k pa y w, stC E a g, stC E a2 g2, stC E a3 g3, hhC E b hs hg nx ct, diC E d co re, grC E k so gw, prC E pa q F, sbO E y v ml n, baC E v cp t, moC E mb z g gs ar]) (cb := [moC E mb z g gs ar]) hx hb hml hown hts hK hZ hA (c_X6_errorPosition l E _ mb z g gs ar hz5) l_L_302 rfl ⟨⟨rfl, rfl⟩, Nat.le_of_ble_eq_true rfl, Nat.le_of_ble_eq_true rfl⟩ 10 rfl [12] rfl (by decide) rfl hP hD hS hl.1 rfl (Nat.le_of_ble_eq_true rfl) dL_law_2270 ⟨by show (cells + 1) + 0 ≤ 603072; omega, by show (slots + 6) + 0 ≤ 7174250; omega⟩) hA hP hD hS (isC := [12]) rfl [0, 1, 2, 3, 4, 5, 6, 7, 8, 9, 10, 11] [0, 1, 2, 3, 4, 5, 6, 7, 8, 9, 10, 11, 12] (br := [loC E ol lo9, dbC E od dO, coC E x a a2 a3 b d k pa y w, stC E a g, stC E a2 g2, stC E a3 g3, hhC E b hs hg nx ct, diC E d co re, grC E k so gw, prC E pa q F, sbO E y v ml n, baC E v cp t]) (bs2 := fun _ => [loC E ol lo9, dbC E od dO, coC E x a a2 a3 b d k pa y w, stC E a g, stC E a2 g2, stC E a3 g3, hhC E b hs hg nx ct, diC E d co re, grC E k so gw, prC E pa q F, sbO E y v ml n, baC E v cp t, moC E mb (upn z 0 (if z 5 = 0 then 1 else 0)) g gs ar]) rfl (by decide) (fun _ => rfl) (by decide) (fun r u6 H locs hw6 hP hD hS => ?_)
    have hw6 : r = nI (z 5 - 1) := hw6
    subst hw6
    refine tp_i (show nI (z 5 - 1) = nI (w 1) - 1 from by rw [show z 5 - 1 = w 1 - 1 by omega, m1_of, show w 1 - 1 + 1 = w 1 by omega]) ?_
    refine lv_istore (lv' := [(7, .int (nI (w 1) - 1)), (6, .int (nI 0)), (0, .ref sb), (1, .ref (x 0)), (2, .ref (mb 0)), (3, .ref ol), (4, .ref od), (5, .int (nI i))]) hx hb dL_law_2273 hl (by decide) rfl (fun ls hl => ?_)
    refine lv_aload_n hx hb dL_law_2275 rfl (lv_at hl 4 rfl) ?_
    refine run_i (S := Unit) (run_V (As := []) (rest := []) (bs := [loC E ol lo9, dbC E od dO, coC E x a a2 a3 b d k pa y w, stC E a g, stC E a2 g2, stC E a3 g3, hhC E b hs hg nx ct, diC E d co re, grC E k so gw, prC E pa q F, sbO E y v ml n, baC E v cp t, moC E mb (upn z 0 (if z 5 = 0 then 1 else 0)) g gs ar]) (cb := [moC E mb (upn z 0 (if z 5 = 0 then 1 else 0)) g gs ar]) hx hb hml hown hts hK hZ hA (c_X6_thrown l E _ mb (upn z 0 (if z 5 = 0 then 1 else 0)) g gs ar) l_L_152 rfl ⟨⟨rfl, rfl⟩, Nat.le_of_ble_eq_true rfl, Nat.le_of_ble_eq_true rfl⟩ 10 rfl [12] rfl (by decide) rfl hP hD hS hl.1 rfl (Nat.le_of_ble_eq_true rfl) dL_law_2276 ⟨by show ((cells + 1) + 0) + 0 ≤ 603072; omega, by show ((slots + 6) + 0) + 0 ≤ 7174250; omega⟩) hA hP hD hS (isC := [12]) rfl [0, 1, 2, 3, 4, 5, 6, 7, 8, 9, 10, 11] [0, 1, 2, 3, 4, 5, 6, 7, 8, 9, 10, 11, 12] (br := [loC E ol lo9, dbC E od dO, coC E x a a2 a3 b d k pa y w, stC E a g, stC E a2 g2, stC E a3 g3, hhC E b hs hg nx ct, diC E d co re, grC E k so gw, prC E pa q F, sbO E y v ml n, baC E v cp t]) (bs2 := fun _ => [loC E ol lo9, dbC E od dO, coC E x a a2 a3 b d k pa y w, stC E a g, stC E a2 g2, stC E a3 g3, hhC E b hs hg nx ct, diC E d co re, grC E k so gw, prC E pa q F, sbO E y v ml n, baC E v cp t, moC E mb (upn z 0 (if z 5 = 0 then 1 else 0)) g gs ar]) rfl (by decide) (fun _ => rfl) (by decide) (fun r u6 H locs hw6 hP hD hS => ?_)
    have hw6 : r = nI ((upn z 0 (if z 5 = 0 then 1 else 0)) 0) := hw6
    subst hw6
    refine lv_iload hx hb dL_law_2279 (lv_at hl 1 rfl) ?_
    refine lv_icmp_eq (tgt := 2286) hx hb dL_law_2281 (by decide) (fun _ => ?_) (fun hc => absurd (show nI ((upn z 0 (if z 5 = 0 then 1 else 0)) 0) = nI 0 from congrArg nI (upn_s.trans (if_neg (by omega)))) hc)
    refine lv_iload hx hb dL_law_2286 (lv_at hl 1 rfl) ?_
    refine nv_if_ne (X := ((0 : Nat) : Int)) hx hb (nI_toInt (by omega)) (tgt := 2303) dL_law_2288 (by decide) (fun c_1 => ?_) (fun c_1 => ?_)
    · exact absurd c_1 (by omega)
    · skip
      refine lv_aload_n hx hb dL_law_2291 rfl (lv_at hl 5 rfl) ?_
      refine lv_iconst (v := nI 0) hx hb dL_law_2292 (by decide) ?_
      refine va_lald hx hb hK hP 0 4 rfl rfl (vp_in_nI (show 0 < 1 by decide) (by decide)) dL_law_2293 ?_
      rw [show lo9 (nI 0).toNatClampNeg = (nI (w 1) - 1).toInt64 from by rw [nI_clamp (show 0 < 2 ^ 31 by decide)]; exact hlo]
      refine lv_iload hx hb dL_law_2294 (lv_at hl 0 rfl) ?_
      refine lv_i2l hx hb dL_law_2296 rfl ?_
      refine W.lcmp hx hb dL_law_2297 ?_
      refine tp_i (show lg_cmp ((nI (w 1) - 1).toInt64) ((nI (w 1) - 1).toInt64) = nI 0 from lg_eq _) ?_
      refine nv_if_eq (X := ((0 : Nat) : Int)) hx hb (nI_toInt (by omega)) (tgt := 2303) dL_law_2298 (by decide) (fun c_2 => ?_) (fun c_2 => ?_)
      · skip
        refine lv_goto (tgt := 2541) hx hb dL_law_2303 (by decide) ?_
        exact W_widen (by omega) (by omega) (kk w g g2 g3 hg nx ct co re so gw q F v ml n cp t (upn z 0 (if z 5 = 0 then 1 else 0)) gs ar lo9 dO _ _ _ (rel_q hR hB4) hP hD hS (lv_sub hl [2, 3, 4, 5, 6, 7] rfl))
      · exact absurd c_2 (by omega)
  · skip
    have hw : r = nI 1 ∧ w 1 = 0 := hw
    have hP : va_P E.1 vwCl ([loC E ol lo, dbC E od dO, coC E x a a2 a3 b d k pa y w, stC E a g, stC E a2 g2, stC E a3 g3, hhC E b hs hg nx ct, diC E d co re, grC E k so gw, prC E pa q F, sbO E y v ml n, baC E v cp t, moC E mb z g gs ar] : List va_W).flatten H := hP
    have hD : va_D A ([loC E ol lo, dbC E od dO, coC E x a a2 a3 b d k pa y w, stC E a g, stC E a2 g2, stC E a3 g3, hhC E b hs hg nx ct, diC E d co re, grC E k so gw, prC E pa q F, sbO E y v ml n, baC E v cp t, moC E mb z g gs ar] : List va_W).flatten := hD
    obtain ⟨rfl, hq⟩ := hw
    refine lv_istore (lv' := [(6, .int (nI 1)), (0, .ref sb), (1, .ref (x 0)), (2, .ref (mb 0)), (3, .ref ol), (4, .ref od), (5, .int (nI i))]) hx hb dL_law_2267 hl (by decide) rfl (fun ls hl => ?_)
    refine lv_aload_n hx hb dL_law_2269 rfl (lv_at hl 3 rfl) ?_
    refine run_i (S := Unit) (run_V (As := []) (rest := []) (bs := [loC E ol lo, dbC E od dO, coC E x a a2 a3 b d k pa y w, stC E a g, stC E a2 g2, stC E a3 g3, hhC E b hs hg nx ct, diC E d co re, grC E k so gw, prC E pa q F, sbO E y v ml n, baC E v cp t, moC E mb z g gs ar]) (cb := [moC E mb z g gs ar]) hx hb hml hown hts hK hZ hA (c_X6_errorPosition l E _ mb z g gs ar hz5) l_L_302 rfl ⟨⟨rfl, rfl⟩, Nat.le_of_ble_eq_true rfl, Nat.le_of_ble_eq_true rfl⟩ 10 rfl [12] rfl (by decide) rfl hP hD hS hl.1 rfl (Nat.le_of_ble_eq_true rfl) dL_law_2270 ⟨by show (cells + 1) + 0 ≤ 603072; omega, by show (slots + 6) + 0 ≤ 7174250; omega⟩) hA hP hD hS (isC := [12]) rfl [0, 1, 2, 3, 4, 5, 6, 7, 8, 9, 10, 11] [0, 1, 2, 3, 4, 5, 6, 7, 8, 9, 10, 11, 12] (br := [loC E ol lo, dbC E od dO, coC E x a a2 a3 b d k pa y w, stC E a g, stC E a2 g2, stC E a3 g3, hhC E b hs hg nx ct, diC E d co re, grC E k so gw, prC E pa q F, sbO E y v ml n, baC E v cp t]) (bs2 := fun _ => [loC E ol lo, dbC E od dO, coC E x a a2 a3 b d k pa y w, stC E a g, stC E a2 g2, stC E a3 g3, hhC E b hs hg nx ct, diC E d co re, grC E k so gw, prC E pa q F, sbO E y v ml n, baC E v cp t, moC E mb (upn z 0 (if z 5 = 0 then 1 else 0)) g gs ar]) rfl (by decide) (fun _ => rfl) (by decide) (fun r u6 H locs hw6 hP hD hS => ?_)
    have hw6 : r = nI (z 5 - 1) := hw6
    subst hw6
    refine lv_istore (lv' := [(7, .int (nI (z 5 - 1))), (6, .int (nI 1)), (0, .ref sb), (1, .ref (x 0)), (2, .ref (mb 0)), (3, .ref ol), (4, .ref od), (5, .int (nI i))]) hx hb dL_law_2273 hl (by decide) rfl (fun ls hl => ?_)
    refine lv_aload_n hx hb dL_law_2275 rfl (lv_at hl 4 rfl) ?_
    refine run_i (S := Unit) (run_V (As := []) (rest := []) (bs := [loC E ol lo, dbC E od dO, coC E x a a2 a3 b d k pa y w, stC E a g, stC E a2 g2, stC E a3 g3, hhC E b hs hg nx ct, diC E d co re, grC E k so gw, prC E pa q F, sbO E y v ml n, baC E v cp t, moC E mb (upn z 0 (if z 5 = 0 then 1 else 0)) g gs ar]) (cb := [moC E mb (upn z 0 (if z 5 = 0 then 1 else 0)) g gs ar]) hx hb hml hown hts hK hZ hA (c_X6_thrown l E _ mb (upn z 0 (if z 5 = 0 then 1 else 0)) g gs ar) l_L_152 rfl ⟨⟨rfl, rfl⟩, Nat.le_of_ble_eq_true rfl, Nat.le_of_ble_eq_true rfl⟩ 10 rfl [12] rfl (by decide) rfl hP hD hS hl.1 rfl (Nat.le_of_ble_eq_true rfl) dL_law_2276 ⟨by show ((cells + 1) + 0) + 0 ≤ 603072; omega, by show ((slots + 6) + 0) + 0 ≤ 7174250; omega⟩) hA hP hD hS (isC := [12]) rfl [0, 1, 2, 3, 4, 5, 6, 7, 8, 9, 10, 11] [0, 1, 2, 3, 4, 5, 6, 7, 8, 9, 10, 11, 12] (br := [loC E ol lo, dbC E od dO, coC E x a a2 a3 b d k pa y w, stC E a g, stC E a2 g2, stC E a3 g3, hhC E b hs hg nx ct, diC E d co re, grC E k so gw, prC E pa q F, sbO E y v ml n, baC E v cp t]) (bs2 := fun _ => [loC E ol lo, dbC E od dO, coC E x a a2 a3 b d k pa y w, stC E a g, stC E a2 g2, stC E a3 g3, hhC E b hs hg nx ct, diC E d co re, grC E k so gw, prC E pa q F, sbO E y v ml n, baC E v cp t, moC E mb (upn z 0 (if z 5 = 0 then 1 else 0)) g gs ar]) rfl (by decide) (fun _ => rfl) (by decide) (fun r u6 H locs hw6 hP hD hS => ?_)
    have hw6 : r = nI ((upn z 0 (if z 5 = 0 then 1 else 0)) 0) := hw6
    subst hw6
    refine lv_iload hx hb dL_law_2279 (lv_at hl 1 rfl) ?_
    refine lv_icmp_eq (tgt := 2286) hx hb dL_law_2281 (by decide) (fun _ => ?_) (fun hc => absurd (show nI ((upn z 0 (if z 5 = 0 then 1 else 0)) 0) = nI 1 from congrArg nI (upn_s.trans (if_pos (by omega)))) hc)
    refine lv_iload hx hb dL_law_2286 (lv_at hl 1 rfl) ?_
    refine nv_if_ne (X := ((1 : Nat) : Int)) hx hb (nI_toInt (by omega)) (tgt := 2303) dL_law_2288 (by decide) (fun c_3 => ?_) (fun c_3 => ?_)
    · skip
      refine lv_goto (tgt := 2541) hx hb dL_law_2303 (by decide) ?_
      exact W_widen (by omega) (by omega) (kk w g g2 g3 hg nx ct co re so gw q F v ml n cp t (upn z 0 (if z 5 = 0 then 1 else 0)) gs ar lo dO _ _ _ (rel_q hR hB4) hP hD hS (lv_sub hl [2, 3, 4, 5, 6, 7] rfl))
    · exact absurd c_3 (by omega)
set_option maxHeartbeats 4000000 in
set_option maxRecDepth 100000 in
theorem st_failedCommand {p : Program} {l : Launch} {e : Env} {s : State} {m : MethodId} {args : Array Value} {below : List Frame} {meth : Method} {c : Code} {E : EE} {A : Nat → Prop} {Q : State → Prop} {x a a2 a3 b d k pa y : Nat → Nat} {hs : Nat → Nat → Nat} {mb : Nat → Nat} {ol od sb : Nat} {i B cells slots L : Nat} {xs : Nat → Int32} (C : LCx p l s m args c E A sb L xs) (hL : L ≤ 2560) (hi : i + 5 ≤ L) (hB4 : B + 420 ≤ 300000) (hrc : cells + 13 ≤ 603072 ∧ slots + 414 ≤ 7174250) (kk : LGo p l e s m args below meth c E A Q x a a2 a3 b d k pa y hs mb ol od sb i (B + 420) (cells + 13) (slots + 414) 2541) : LGo p l e s m args below meth c E A Q x a a2 a3 b d k pa y hs mb ol od sb i B cells slots 2306 := by
  obtain ⟨hx, hb, hml, hown, hts, hK, hZ, hDD, hA, hX, hbl, hbA, hst⟩ := C
  intro w g g2 g3 hg nx ct co re so gw q F v ml n cp t z gs ar lo dO H locs ls hR hP hD hS hl
  obtain ⟨hI, ⟨hs1, hs2, hs3⟩, ⟨hnx, hct, hz1, hh9⟩, ⟨hw1, hw2, hz5, hz6⟩, ⟨hq1, hq2, hF0, hF9⟩, ⟨hn1, hn2, hcp, ht9, htx, ho2⟩⟩ := id hR
  have hmc := hI.mc
  refine lv_aload_n hx hb dL_law_2306 rfl (lv_at hl 1 rfl) ?_
  refine lv_aload_n hx hb dL_law_2307 rfl (lv_at hl 3 rfl) ?_
  refine run_i (S := (Unit × Int32 × (Nat → Int64)) ⊕ Unit) (run_SW (As := [.ref (x 0), .ref ol]) (rest := []) (bs := [loC E ol lo, dbC E od dO, coC E x a a2 a3 b d k pa y w, stC E a g, stC E a2 g2, stC E a3 g3, hhC E b hs hg nx ct, diC E d co re, grC E k so gw, prC E pa q F, sbO E y v ml n, baC E v cp t, moC E mb z g gs ar]) (cb := [loC E ol lo, coC E x a a2 a3 b d k pa y w]) hx hb hml hown hts hK hZ hDD hA (c_L_failedCommand l hst E _ x a a2 a3 b d k pa y w (by omega) ol lo) l_L_303 rfl ⟨⟨rfl, rfl⟩, Nat.le_of_ble_eq_true rfl, Nat.le_of_ble_eq_true rfl⟩ [0, 2] rfl (by decide) hP hD hS hl.1 rfl (Nat.le_of_ble_eq_true rfl) dL_law_2308 ⟨by show cells + 1 ≤ 603072; omega, by show slots + 6 ≤ 7174250; omega⟩) hA hP hD hS (isC := [0, 2]) rfl [1, 3, 4, 5, 6, 7, 8, 9, 10, 11, 12] [11, 0, 12, 1, 2, 3, 4, 5, 6, 7, 8, 9, 10] (br := [dbC E od dO, stC E a g, stC E a2 g2, stC E a3 g3, hhC E b hs hg nx ct, diC E d co re, grC E k so gw, prC E pa q F, sbO E y v ml n, baC E v cp t, moC E mb z g gs ar]) (bs2 := fun u => Sum.elim (fun (vq : Unit × Int32 × (Nat → Int64)) => [loC E ol vq.2.2, dbC E od dO, coC E x a a2 a3 b d k pa y w, stC E a g, stC E a2 g2, stC E a3 g3, hhC E b hs hg nx ct, diC E d co re, grC E k so gw, prC E pa q F, sbO E y v ml n, baC E v cp t, moC E mb z g gs ar]) (fun (vq : Unit) => [loC E ol lo, dbC E od dO, coC E x a a2 a3 b d k pa y w, stC E a g, stC E a2 g2, stC E a3 g3, hhC E b hs hg nx ct, diC E d co re, grC E k so gw, prC E pa q F, sbO E y v ml n, baC E v cp t, moC E mb z g gs ar]) u) rfl (by decide) (fun u => by rcases u with u | u <;> rfl) (by decide) (fun r u H locs hw hP hD hS => ?_)
  rcases u with vq | vq
  · skip
    obtain ⟨u9, r9, lo9⟩ := vq
    have hw7 : r = nI 0 ∧ (w 2 ≠ 0 ∧ r9 = nI (w 2) - 1) ∧ lo9 0 = r9.toInt64 := hw
    clear hw
    obtain ⟨rfl, hw⟩ := hw7
    have hP : va_P E.1 vwCl ([loC E ol lo9, dbC E od dO, coC E x a a2 a3 b d k pa y w, stC E a g, stC E a2 g2, stC E a3 g3, hhC E b hs hg nx ct, diC E d co re, grC E k so gw, prC E pa q F, sbO E y v ml n, baC E v cp t, moC E mb z g gs ar] : List va_W).flatten H := hP
    have hD : va_D A ([loC E ol lo9, dbC E od dO, coC E x a a2 a3 b d k pa y w, stC E a g, stC E a2 g2, stC E a3 g3, hhC E b hs hg nx ct, diC E d co re, grC E k so gw, prC E pa q F, sbO E y v ml n, baC E v cp t, moC E mb z g gs ar] : List va_W).flatten := hD
    obtain ⟨⟨hcnd, hr9⟩, hlo⟩ := hw
    subst hr9
    refine lv_istore (lv' := [(6, .int (nI 0)), (0, .ref sb), (1, .ref (x 0)), (2, .ref (mb 0)), (3, .ref ol), (4, .ref od), (5, .int (nI i))]) hx hb dL_law_2311 hl (by decide) rfl (fun ls hl => ?_)
    refine lv_aload_n hx hb dL_law_2313 rfl (lv_at hl 3 rfl) ?_
    refine run_i (S := Unit) (run_V (As := []) (rest := []) (bs := [loC E ol lo9, dbC E od dO, coC E x a a2 a3 b d k pa y w, stC E a g, stC E a2 g2, stC E a3 g3, hhC E b hs hg nx ct, diC E d co re, grC E k so gw, prC E pa q F, sbO E y v ml n, baC E v cp t, moC E mb z g gs ar]) (cb := [moC E mb z g gs ar]) hx hb hml hown hts hK hZ hA (c_X6_failedCommand l E _ mb z g gs ar hz6) l_L_305 rfl ⟨⟨rfl, rfl⟩, Nat.le_of_ble_eq_true rfl, Nat.le_of_ble_eq_true rfl⟩ 10 rfl [12] rfl (by decide) rfl hP hD hS hl.1 rfl (Nat.le_of_ble_eq_true rfl) dL_law_2314 ⟨by show (cells + 1) + 0 ≤ 603072; omega, by show (slots + 6) + 0 ≤ 7174250; omega⟩) hA hP hD hS (isC := [12]) rfl [0, 1, 2, 3, 4, 5, 6, 7, 8, 9, 10, 11] [0, 1, 2, 3, 4, 5, 6, 7, 8, 9, 10, 11, 12] (br := [loC E ol lo9, dbC E od dO, coC E x a a2 a3 b d k pa y w, stC E a g, stC E a2 g2, stC E a3 g3, hhC E b hs hg nx ct, diC E d co re, grC E k so gw, prC E pa q F, sbO E y v ml n, baC E v cp t]) (bs2 := fun _ => [loC E ol lo9, dbC E od dO, coC E x a a2 a3 b d k pa y w, stC E a g, stC E a2 g2, stC E a3 g3, hhC E b hs hg nx ct, diC E d co re, grC E k so gw, prC E pa q F, sbO E y v ml n, baC E v cp t, moC E mb (upn z 0 (if z 6 = 0 then 1 else 0)) g gs ar]) rfl (by decide) (fun _ => rfl) (by decide) (fun r u6 H locs hw6 hP hD hS => ?_)
    have hw6 : r = nI (z 6 - 1) := hw6
    subst hw6
    refine tp_i (show nI (z 6 - 1) = nI (w 2) - 1 from by rw [show z 6 - 1 = w 2 - 1 by omega, m1_of, show w 2 - 1 + 1 = w 2 by omega]) ?_
    refine lv_istore (lv' := [(7, .int (nI (w 2) - 1)), (6, .int (nI 0)), (0, .ref sb), (1, .ref (x 0)), (2, .ref (mb 0)), (3, .ref ol), (4, .ref od), (5, .int (nI i))]) hx hb dL_law_2317 hl (by decide) rfl (fun ls hl => ?_)
    refine lv_aload_n hx hb dL_law_2319 rfl (lv_at hl 4 rfl) ?_
    refine run_i (S := Unit) (run_V (As := []) (rest := []) (bs := [loC E ol lo9, dbC E od dO, coC E x a a2 a3 b d k pa y w, stC E a g, stC E a2 g2, stC E a3 g3, hhC E b hs hg nx ct, diC E d co re, grC E k so gw, prC E pa q F, sbO E y v ml n, baC E v cp t, moC E mb (upn z 0 (if z 6 = 0 then 1 else 0)) g gs ar]) (cb := [moC E mb (upn z 0 (if z 6 = 0 then 1 else 0)) g gs ar]) hx hb hml hown hts hK hZ hA (c_X6_thrown l E _ mb (upn z 0 (if z 6 = 0 then 1 else 0)) g gs ar) l_L_152 rfl ⟨⟨rfl, rfl⟩, Nat.le_of_ble_eq_true rfl, Nat.le_of_ble_eq_true rfl⟩ 10 rfl [12] rfl (by decide) rfl hP hD hS hl.1 rfl (Nat.le_of_ble_eq_true rfl) dL_law_2320 ⟨by show ((cells + 1) + 0) + 0 ≤ 603072; omega, by show ((slots + 6) + 0) + 0 ≤ 7174250; omega⟩) hA hP hD hS (isC := [12]) rfl [0, 1, 2, 3, 4, 5, 6, 7, 8, 9, 10, 11] [0, 1, 2, 3, 4, 5, 6, 7, 8, 9, 10, 11, 12] (br := [loC E ol lo9, dbC E od dO, coC E x a a2 a3 b d k pa y w, stC E a g, stC E a2 g2, stC E a3 g3, hhC E b hs hg nx ct, diC E d co re, grC E k so gw, prC E pa q F, sbO E y v ml n, baC E v cp t]) (bs2 := fun _ => [loC E ol lo9, dbC E od dO, coC E x a a2 a3 b d k pa y w, stC E a g, stC E a2 g2, stC E a3 g3, hhC E b hs hg nx ct, diC E d co re, grC E k so gw, prC E pa q F, sbO E y v ml n, baC E v cp t, moC E mb (upn z 0 (if z 6 = 0 then 1 else 0)) g gs ar]) rfl (by decide) (fun _ => rfl) (by decide) (fun r u6 H locs hw6 hP hD hS => ?_)
    have hw6 : r = nI ((upn z 0 (if z 6 = 0 then 1 else 0)) 0) := hw6
    subst hw6
    refine lv_iload hx hb dL_law_2323 (lv_at hl 1 rfl) ?_
    refine lv_icmp_eq (tgt := 2330) hx hb dL_law_2325 (by decide) (fun _ => ?_) (fun hc => absurd (show nI ((upn z 0 (if z 6 = 0 then 1 else 0)) 0) = nI 0 from congrArg nI (upn_s.trans (if_neg (by omega)))) hc)
    refine lv_iload hx hb dL_law_2330 (lv_at hl 1 rfl) ?_
    refine nv_if_ne (X := ((0 : Nat) : Int)) hx hb (nI_toInt (by omega)) (tgt := 2347) dL_law_2332 (by decide) (fun c_1 => ?_) (fun c_1 => ?_)
    · exact absurd c_1 (by omega)
    · skip
      refine lv_aload_n hx hb dL_law_2335 rfl (lv_at hl 5 rfl) ?_
      refine lv_iconst (v := nI 0) hx hb dL_law_2336 (by decide) ?_
      refine va_lald hx hb hK hP 0 4 rfl rfl (vp_in_nI (show 0 < 1 by decide) (by decide)) dL_law_2337 ?_
      rw [show lo9 (nI 0).toNatClampNeg = (nI (w 2) - 1).toInt64 from by rw [nI_clamp (show 0 < 2 ^ 31 by decide)]; exact hlo]
      refine lv_iload hx hb dL_law_2338 (lv_at hl 0 rfl) ?_
      refine lv_i2l hx hb dL_law_2340 rfl ?_
      refine W.lcmp hx hb dL_law_2341 ?_
      refine tp_i (show lg_cmp ((nI (w 2) - 1).toInt64) ((nI (w 2) - 1).toInt64) = nI 0 from lg_eq _) ?_
      refine nv_if_eq (X := ((0 : Nat) : Int)) hx hb (nI_toInt (by omega)) (tgt := 2347) dL_law_2342 (by decide) (fun c_2 => ?_) (fun c_2 => ?_)
      · skip
        refine lv_goto (tgt := 2541) hx hb dL_law_2347 (by decide) ?_
        exact W_widen (by omega) (by omega) (kk w g g2 g3 hg nx ct co re so gw q F v ml n cp t (upn z 0 (if z 6 = 0 then 1 else 0)) gs ar lo9 dO _ _ _ (rel_q hR hB4) hP hD hS (lv_sub hl [2, 3, 4, 5, 6, 7] rfl))
      · exact absurd c_2 (by omega)
  · skip
    have hw : r = nI 1 ∧ w 2 = 0 := hw
    have hP : va_P E.1 vwCl ([loC E ol lo, dbC E od dO, coC E x a a2 a3 b d k pa y w, stC E a g, stC E a2 g2, stC E a3 g3, hhC E b hs hg nx ct, diC E d co re, grC E k so gw, prC E pa q F, sbO E y v ml n, baC E v cp t, moC E mb z g gs ar] : List va_W).flatten H := hP
    have hD : va_D A ([loC E ol lo, dbC E od dO, coC E x a a2 a3 b d k pa y w, stC E a g, stC E a2 g2, stC E a3 g3, hhC E b hs hg nx ct, diC E d co re, grC E k so gw, prC E pa q F, sbO E y v ml n, baC E v cp t, moC E mb z g gs ar] : List va_W).flatten := hD
    obtain ⟨rfl, hq⟩ := hw
    refine lv_istore (lv' := [(6, .int (nI 1)), (0, .ref sb), (1, .ref (x 0)), (2, .ref (mb 0)), (3, .ref ol), (4, .ref od), (5, .int (nI i))]) hx hb dL_law_2311 hl (by decide) rfl (fun ls hl => ?_)
    refine lv_aload_n hx hb dL_law_2313 rfl (lv_at hl 3 rfl) ?_
    refine run_i (S := Unit) (run_V (As := []) (rest := []) (bs := [loC E ol lo, dbC E od dO, coC E x a a2 a3 b d k pa y w, stC E a g, stC E a2 g2, stC E a3 g3, hhC E b hs hg nx ct, diC E d co re, grC E k so gw, prC E pa q F, sbO E y v ml n, baC E v cp t, moC E mb z g gs ar]) (cb := [moC E mb z g gs ar]) hx hb hml hown hts hK hZ hA (c_X6_failedCommand l E _ mb z g gs ar hz6) l_L_305 rfl ⟨⟨rfl, rfl⟩, Nat.le_of_ble_eq_true rfl, Nat.le_of_ble_eq_true rfl⟩ 10 rfl [12] rfl (by decide) rfl hP hD hS hl.1 rfl (Nat.le_of_ble_eq_true rfl) dL_law_2314 ⟨by show (cells + 1) + 0 ≤ 603072; omega, by show (slots + 6) + 0 ≤ 7174250; omega⟩) hA hP hD hS (isC := [12]) rfl [0, 1, 2, 3, 4, 5, 6, 7, 8, 9, 10, 11] [0, 1, 2, 3, 4, 5, 6, 7, 8, 9, 10, 11, 12] (br := [loC E ol lo, dbC E od dO, coC E x a a2 a3 b d k pa y w, stC E a g, stC E a2 g2, stC E a3 g3, hhC E b hs hg nx ct, diC E d co re, grC E k so gw, prC E pa q F, sbO E y v ml n, baC E v cp t]) (bs2 := fun _ => [loC E ol lo, dbC E od dO, coC E x a a2 a3 b d k pa y w, stC E a g, stC E a2 g2, stC E a3 g3, hhC E b hs hg nx ct, diC E d co re, grC E k so gw, prC E pa q F, sbO E y v ml n, baC E v cp t, moC E mb (upn z 0 (if z 6 = 0 then 1 else 0)) g gs ar]) rfl (by decide) (fun _ => rfl) (by decide) (fun r u6 H locs hw6 hP hD hS => ?_)
    have hw6 : r = nI (z 6 - 1) := hw6
    subst hw6
    refine lv_istore (lv' := [(7, .int (nI (z 6 - 1))), (6, .int (nI 1)), (0, .ref sb), (1, .ref (x 0)), (2, .ref (mb 0)), (3, .ref ol), (4, .ref od), (5, .int (nI i))]) hx hb dL_law_2317 hl (by decide) rfl (fun ls hl => ?_)
    refine lv_aload_n hx hb dL_law_2319 rfl (lv_at hl 4 rfl) ?_
    refine run_i (S := Unit) (run_V (As := []) (rest := []) (bs := [loC E ol lo, dbC E od dO, coC E x a a2 a3 b d k pa y w, stC E a g, stC E a2 g2, stC E a3 g3, hhC E b hs hg nx ct, diC E d co re, grC E k so gw, prC E pa q F, sbO E y v ml n, baC E v cp t, moC E mb (upn z 0 (if z 6 = 0 then 1 else 0)) g gs ar]) (cb := [moC E mb (upn z 0 (if z 6 = 0 then 1 else 0)) g gs ar]) hx hb hml hown hts hK hZ hA (c_X6_thrown l E _ mb (upn z 0 (if z 6 = 0 then 1 else 0)) g gs ar) l_L_152 rfl ⟨⟨rfl, rfl⟩, Nat.le_of_ble_eq_true rfl, Nat.le_of_ble_eq_true rfl⟩ 10 rfl [12] rfl (by decide) rfl hP hD hS hl.1 rfl (Nat.le_of_ble_eq_true rfl) dL_law_2320 ⟨by show ((cells + 1) + 0) + 0 ≤ 603072; omega, by show ((slots + 6) + 0) + 0 ≤ 7174250; omega⟩) hA hP hD hS (isC := [12]) rfl [0, 1, 2, 3, 4, 5, 6, 7, 8, 9, 10, 11] [0, 1, 2, 3, 4, 5, 6, 7, 8, 9, 10, 11, 12] (br := [loC E ol lo, dbC E od dO, coC E x a a2 a3 b d k pa y w, stC E a g, stC E a2 g2, stC E a3 g3, hhC E b hs hg nx ct, diC E d co re, grC E k so gw, prC E pa q F, sbO E y v ml n, baC E v cp t]) (bs2 := fun _ => [loC E ol lo, dbC E od dO, coC E x a a2 a3 b d k pa y w, stC E a g, stC E a2 g2, stC E a3 g3, hhC E b hs hg nx ct, diC E d co re, grC E k so gw, prC E pa q F, sbO E y v ml n, baC E v cp t, moC E mb (upn z 0 (if z 6 = 0 then 1 else 0)) g gs ar]) rfl (by decide) (fun _ => rfl) (by decide) (fun r u6 H locs hw6 hP hD hS => ?_)
    have hw6 : r = nI ((upn z 0 (if z 6 = 0 then 1 else 0)) 0) := hw6
    subst hw6
    refine lv_iload hx hb dL_law_2323 (lv_at hl 1 rfl) ?_
    refine lv_icmp_eq (tgt := 2330) hx hb dL_law_2325 (by decide) (fun _ => ?_) (fun hc => absurd (show nI ((upn z 0 (if z 6 = 0 then 1 else 0)) 0) = nI 1 from congrArg nI (upn_s.trans (if_pos (by omega)))) hc)
    refine lv_iload hx hb dL_law_2330 (lv_at hl 1 rfl) ?_
    refine nv_if_ne (X := ((1 : Nat) : Int)) hx hb (nI_toInt (by omega)) (tgt := 2347) dL_law_2332 (by decide) (fun c_3 => ?_) (fun c_3 => ?_)
    · skip
      refine lv_goto (tgt := 2541) hx hb dL_law_2347 (by decide) ?_
      exact W_widen (by omega) (by omega) (kk w g g2 g3 hg nx ct co re so gw q F v ml n cp t (upn z 0 (if z 6 = 0 then 1 else 0)) gs ar lo dO _ _ _ (rel_q hR hB4) hP hD hS (lv_sub hl [2, 3, 4, 5, 6, 7] rfl))
    · exact absurd c_3 (by omega)
set_option maxHeartbeats 4000000 in
set_option maxRecDepth 100000 in
theorem st_writeMember {p : Program} {l : Launch} {e : Env} {s : State} {m : MethodId} {args : Array Value} {below : List Frame} {meth : Method} {c : Code} {E : EE} {A : Nat → Prop} {Q : State → Prop} {x a a2 a3 b d k pa y : Nat → Nat} {hs : Nat → Nat → Nat} {mb : Nat → Nat} {ol od sb : Nat} {i B cells slots L : Nat} {xs : Nat → Int32} (C : LCx p l s m args c E A sb L xs) (hL : L ≤ 2560) (hi : i + 5 ≤ L) (hB4 : B + 420 ≤ 300000) (hrc : cells + 13 ≤ 603072 ∧ slots + 414 ≤ 7174250) (kk : LGo p l e s m args below meth c E A Q x a a2 a3 b d k pa y hs mb ol od sb i (B + 420) (cells + 13) (slots + 414) 2541) : LGo p l e s m args below meth c E A Q x a a2 a3 b d k pa y hs mb ol od sb i B cells slots 2350 := by
  obtain ⟨hx, hb, hml, hown, hts, hK, hZ, hDD, hA, hX, hbl, hbA, hst⟩ := C
  intro w g g2 g3 hg nx ct co re so gw q F v ml n cp t z gs ar lo dO H locs ls hR hP hD hS hl
  obtain ⟨hI, ⟨hs1, hs2, hs3⟩, ⟨hnx, hct, hz1, hh9⟩, ⟨hw1, hw2, hz5, hz6⟩, ⟨hq1, hq2, hF0, hF9⟩, ⟨hn1, hn2, hcp, ht9, htx, ho2⟩⟩ := id hR
  have hmc := hI.mc
  obtain ⟨p0, hp0⟩ : ∃ y9, y9 = xs (i + 1) := ⟨_, rfl⟩
  refine lv_aload_n hx hb dL_law_2350 rfl (lv_at hl 1 rfl) ?_
  refine lv_aload_n hx hb dL_law_2351 rfl (lv_at hl 0 rfl) ?_
  refine lv_iload hx hb dL_law_2352 (lv_at hl 5 rfl) ?_
  refine lv_iconst (v := nI 1) hx hb dL_law_2354 (by decide) ?_
  refine nv_iadd hx hb dL_law_2355 ?_
  refine va_sld hx hb hX hbl hbA hS (vp_in_nI (show i + 1 < L by omega) (by omega)) dL_law_2356 ?_
  refine tp_i (show xs (nI (i + 1)).toNatClampNeg = p0 from by rw [nI_clamp (by omega), hp0]) ?_
  refine lv_aload_n hx hb dL_law_2357 rfl (lv_at hl 3 rfl) ?_
  refine run_i (S := ((Nat × Nat × Nat × (Nat → Nat)) × Int32 × (Nat → Int64)) ⊕ Unit) (run_SW (As := [.ref (x 0), .int p0, .ref ol]) (rest := []) (bs := [loC E ol lo, dbC E od dO, coC E x a a2 a3 b d k pa y w, stC E a g, stC E a2 g2, stC E a3 g3, hhC E b hs hg nx ct, diC E d co re, grC E k so gw, prC E pa q F, sbO E y v ml n, baC E v cp t, moC E mb z g gs ar]) (cb := [loC E ol lo, coC E x a a2 a3 b d k pa y w, stC E a g, sbO E y v ml n, baC E v cp t]) hx hb hml hown hts hK hZ hDD hA (c_L_writeMember l hst E _ x a a2 a3 b d k pa y w g B hI v ml n cp t ht9 hcp (by omega) p0 ol lo) l_L_306 rfl ⟨⟨rfl, rfl⟩, Nat.le_of_ble_eq_true rfl, Nat.le_of_ble_eq_true rfl⟩ [0, 2, 3, 10, 11] rfl (by decide) hP hD hS hl.1 rfl (Nat.le_of_ble_eq_true rfl) dL_law_2358 ⟨by show cells + 13 ≤ 603072; omega, by show slots + 414 ≤ 7174250; omega⟩) hA hP hD hS (isC := [0, 2, 3, 10, 11]) rfl [1, 4, 5, 6, 7, 8, 9, 12] [8, 0, 9, 10, 1, 2, 3, 4, 5, 6, 11, 12, 7] (br := [dbC E od dO, stC E a2 g2, stC E a3 g3, hhC E b hs hg nx ct, diC E d co re, grC E k so gw, prC E pa q F, moC E mb z g gs ar]) (bs2 := fun u => Sum.elim (fun (vq : (Nat × Nat × Nat × (Nat → Nat)) × Int32 × (Nat → Int64)) => [loC E ol vq.2.2, dbC E od dO, coC E x a a2 a3 b d k pa y w, stC E a g, stC E a2 g2, stC E a3 g3, hhC E b hs hg nx ct, diC E d co re, grC E k so gw, prC E pa q F, sbO E y vq.1.1 vq.1.2.1 (memL g (tn p0)).length, baC E vq.1.1 vq.1.2.2.1 vq.1.2.2.2, moC E mb z g gs ar]) (fun (vq : Unit) => [loC E ol lo, dbC E od dO, coC E x a a2 a3 b d k pa y w, stC E a g, stC E a2 g2, stC E a3 g3, hhC E b hs hg nx ct, diC E d co re, grC E k so gw, prC E pa q F, sbO E y v ml n, baC E v cp t, moC E mb z g gs ar]) u) rfl (by decide) (fun u => by rcases u with u | u <;> rfl) (by decide) (fun r u H locs hw hP hD hS => ?_)
  rcases u with vq | vq
  · skip
    obtain ⟨u9, r9, lo9⟩ := vq
    have hw7 : r = nI 0 ∧ (hasM g p0 = true ∧ r9 = nI (memL g (tn p0)).length ∧ TX u9.2.2.2 (memL g (tn p0)) ∧ (memL g (tn p0)).length ≤ u9.2.2.1 ∧ (u9.2.2.1 = 16 ∨ u9.2.2.1 = 34) ∧ ∀ j, u9.2.2.2 j < 128) ∧ lo9 0 = r9.toInt64 := hw
    clear hw
    obtain ⟨rfl, hw⟩ := hw7
    have hP : va_P E.1 vwCl ([loC E ol lo9, dbC E od dO, coC E x a a2 a3 b d k pa y w, stC E a g, stC E a2 g2, stC E a3 g3, hhC E b hs hg nx ct, diC E d co re, grC E k so gw, prC E pa q F, sbO E y u9.1 u9.2.1 (memL g (tn p0)).length, baC E u9.1 u9.2.2.1 u9.2.2.2, moC E mb z g gs ar] : List va_W).flatten H := hP
    have hD : va_D A ([loC E ol lo9, dbC E od dO, coC E x a a2 a3 b d k pa y w, stC E a g, stC E a2 g2, stC E a3 g3, hhC E b hs hg nx ct, diC E d co re, grC E k so gw, prC E pa q F, sbO E y u9.1 u9.2.1 (memL g (tn p0)).length, baC E u9.1 u9.2.2.1 u9.2.2.2, moC E mb z g gs ar] : List va_W).flatten := hD
    obtain ⟨⟨hcnd, hr9, hT9, hT8, hT7, hT6⟩, hlo⟩ := hw
    subst hr9
    refine lv_istore (lv' := [(6, .int (nI 0)), (0, .ref sb), (1, .ref (x 0)), (2, .ref (mb 0)), (3, .ref ol), (4, .ref od), (5, .int (nI i))]) hx hb dL_law_2361 hl (by decide) rfl (fun ls hl => ?_)
    refine lv_aload_n hx hb dL_law_2363 rfl (lv_at hl 3 rfl) ?_
    refine lv_aload_n hx hb dL_law_2364 rfl (lv_at hl 1 rfl) ?_
    refine lv_iload hx hb dL_law_2365 (lv_at hl 6 rfl) ?_
    refine lv_iconst (v := nI 1) hx hb dL_law_2367 (by decide) ?_
    refine nv_iadd hx hb dL_law_2368 ?_
    refine va_sld hx hb hX hbl hbA hS (vp_in_nI (show i + 1 < L by omega) (by omega)) dL_law_2369 ?_
    refine tp_i (show xs (nI (i + 1)).toNatClampNeg = p0 from by rw [nI_clamp (by omega), hp0]) ?_
    refine run_i (S := Unit) (run_V (As := [.int p0]) (rest := []) (bs := [loC E ol lo9, dbC E od dO, coC E x a a2 a3 b d k pa y w, stC E a g, stC E a2 g2, stC E a3 g3, hhC E b hs hg nx ct, diC E d co re, grC E k so gw, prC E pa q F, sbO E y u9.1 u9.2.1 (memL g (tn p0)).length, baC E u9.1 u9.2.2.1 u9.2.2.2, moC E mb z g gs ar]) (cb := [moC E mb z g gs ar]) hx hb hml hown hts hK hZ hA (c_X6_writeMember l E _ mb z g gs ar B hI p0) l_L_308 rfl ⟨⟨rfl, rfl⟩, Nat.le_of_ble_eq_true rfl, Nat.le_of_ble_eq_true rfl⟩ 10 rfl [12] rfl (by decide) rfl hP hD hS hl.1 rfl (Nat.le_of_ble_eq_true rfl) dL_law_2370 ⟨by show (cells + 13) + 0 ≤ 603072; omega, by show (slots + 414) + 0 ≤ 7174250; omega⟩) hA hP hD hS (isC := [12]) rfl [0, 1, 2, 3, 4, 5, 6, 7, 8, 9, 10, 11] [0, 1, 2, 3, 4, 5, 6, 7, 8, 9, 10, 11, 12] (br := [loC E ol lo9, dbC E od dO, coC E x a a2 a3 b d k pa y w, stC E a g, stC E a2 g2, stC E a3 g3, hhC E b hs hg nx ct, diC E d co re, grC E k so gw, prC E pa q F, sbO E y u9.1 u9.2.1 (memL g (tn p0)).length, baC E u9.1 u9.2.2.1 u9.2.2.2]) (bs2 := fun _ => [loC E ol lo9, dbC E od dO, coC E x a a2 a3 b d k pa y w, stC E a g, stC E a2 g2, stC E a3 g3, hhC E b hs hg nx ct, diC E d co re, grC E k so gw, prC E pa q F, sbO E y u9.1 u9.2.1 (memL g (tn p0)).length, baC E u9.1 u9.2.2.1 u9.2.2.2, moC E mb (if hasM g p0 = true then upn (upn z 0 0) 4 (memL g (tn p0)).length else upn z 0 1) g gs (if hasM g p0 = true then upr ar 2 (putL (ar 2) 0 (memL g (tn p0))) else ar)]) rfl (by decide) (fun _ => rfl) (by decide) (fun r u6 H locs hw6 hP hD hS => ?_)
    have hw6 : r = nI (if hasM g p0 = true then (memL g (tn p0)).length else 0) := hw6
    subst hw6
    rw [if_pos hcnd, if_pos hcnd] at hP hD
    have hP : va_P E.1 vwCl ([loC E ol lo9, dbC E od dO, coC E x a a2 a3 b d k pa y w, stC E a g, stC E a2 g2, stC E a3 g3, hhC E b hs hg nx ct, diC E d co re, grC E k so gw, prC E pa q F, sbO E y u9.1 u9.2.1 (memL g (tn p0)).length, baC E u9.1 u9.2.2.1 u9.2.2.2, moC E mb (upn (upn z 0 0) 4 (memL g (tn p0)).length) g gs (upr ar 2 (putL (ar 2) 0 (memL g (tn p0))))] : List va_W).flatten H := hP
    have hD : va_D A ([loC E ol lo9, dbC E od dO, coC E x a a2 a3 b d k pa y w, stC E a g, stC E a2 g2, stC E a3 g3, hhC E b hs hg nx ct, diC E d co re, grC E k so gw, prC E pa q F, sbO E y u9.1 u9.2.1 (memL g (tn p0)).length, baC E u9.1 u9.2.2.1 u9.2.2.2, moC E mb (upn (upn z 0 0) 4 (memL g (tn p0)).length) g gs (upr ar 2 (putL (ar 2) 0 (memL g (tn p0))))] : List va_W).flatten := hD
    refine tp_i (show nI (if hasM g p0 = true then (memL g (tn p0)).length else 0) = nI (memL g (tn p0)).length from congrArg nI (if_pos hcnd)) ?_
    refine lv_istore (lv' := [(7, .int (nI (memL g (tn p0)).length)), (6, .int (nI 0)), (0, .ref sb), (1, .ref (x 0)), (2, .ref (mb 0)), (3, .ref ol), (4, .ref od), (5, .int (nI i))]) hx hb dL_law_2373 hl (by decide) rfl (fun ls hl => ?_)
    refine lv_aload_n hx hb dL_law_2375 rfl (lv_at hl 4 rfl) ?_
    refine run_i (S := Unit) (run_V (As := []) (rest := []) (bs := [loC E ol lo9, dbC E od dO, coC E x a a2 a3 b d k pa y w, stC E a g, stC E a2 g2, stC E a3 g3, hhC E b hs hg nx ct, diC E d co re, grC E k so gw, prC E pa q F, sbO E y u9.1 u9.2.1 (memL g (tn p0)).length, baC E u9.1 u9.2.2.1 u9.2.2.2, moC E mb (upn (upn z 0 0) 4 (memL g (tn p0)).length) g gs (upr ar 2 (putL (ar 2) 0 (memL g (tn p0))))]) (cb := [moC E mb (upn (upn z 0 0) 4 (memL g (tn p0)).length) g gs (upr ar 2 (putL (ar 2) 0 (memL g (tn p0))))]) hx hb hml hown hts hK hZ hA (c_X6_thrown l E _ mb (upn (upn z 0 0) 4 (memL g (tn p0)).length) g gs (upr ar 2 (putL (ar 2) 0 (memL g (tn p0))))) l_L_152 rfl ⟨⟨rfl, rfl⟩, Nat.le_of_ble_eq_true rfl, Nat.le_of_ble_eq_true rfl⟩ 10 rfl [12] rfl (by decide) rfl hP hD hS hl.1 rfl (Nat.le_of_ble_eq_true rfl) dL_law_2376 ⟨by show ((cells + 13) + 0) + 0 ≤ 603072; omega, by show ((slots + 414) + 0) + 0 ≤ 7174250; omega⟩) hA hP hD hS (isC := [12]) rfl [0, 1, 2, 3, 4, 5, 6, 7, 8, 9, 10, 11] [0, 1, 2, 3, 4, 5, 6, 7, 8, 9, 10, 11, 12] (br := [loC E ol lo9, dbC E od dO, coC E x a a2 a3 b d k pa y w, stC E a g, stC E a2 g2, stC E a3 g3, hhC E b hs hg nx ct, diC E d co re, grC E k so gw, prC E pa q F, sbO E y u9.1 u9.2.1 (memL g (tn p0)).length, baC E u9.1 u9.2.2.1 u9.2.2.2]) (bs2 := fun _ => [loC E ol lo9, dbC E od dO, coC E x a a2 a3 b d k pa y w, stC E a g, stC E a2 g2, stC E a3 g3, hhC E b hs hg nx ct, diC E d co re, grC E k so gw, prC E pa q F, sbO E y u9.1 u9.2.1 (memL g (tn p0)).length, baC E u9.1 u9.2.2.1 u9.2.2.2, moC E mb (upn (upn z 0 0) 4 (memL g (tn p0)).length) g gs (upr ar 2 (putL (ar 2) 0 (memL g (tn p0))))]) rfl (by decide) (fun _ => rfl) (by decide) (fun r u6 H locs hw6 hP hD hS => ?_)
    have hw6 : r = nI ((upn (upn z 0 0) 4 (memL g (tn p0)).length) 0) := hw6
    subst hw6
    refine lv_iload hx hb dL_law_2379 (lv_at hl 1 rfl) ?_
    refine lv_icmp_eq (tgt := 2386) hx hb dL_law_2381 (by decide) (fun _ => ?_) (fun hc => absurd (show nI ((upn (upn z 0 0) 4 (memL g (tn p0)).length) 0) = nI 0 from congrArg nI ((upn_n (by decide)).trans upn_s)) hc)
    refine lv_iload hx hb dL_law_2386 (lv_at hl 1 rfl) ?_
    refine nv_if_ne (X := ((0 : Nat) : Int)) hx hb (nI_toInt (by omega)) (tgt := 2403) dL_law_2388 (by decide) (fun c_1 => ?_) (fun c_1 => ?_)
    · exact absurd c_1 (by omega)
    · skip
      refine lv_aload_n hx hb dL_law_2391 rfl (lv_at hl 5 rfl) ?_
      refine lv_iconst (v := nI 0) hx hb dL_law_2392 (by decide) ?_
      refine va_lald hx hb hK hP 0 4 rfl rfl (vp_in_nI (show 0 < 1 by decide) (by decide)) dL_law_2393 ?_
      rw [show lo9 (nI 0).toNatClampNeg = (nI (memL g (tn p0)).length).toInt64 from by rw [nI_clamp (show 0 < 2 ^ 31 by decide)]; exact hlo]
      refine lv_iload hx hb dL_law_2394 (lv_at hl 0 rfl) ?_
      refine lv_i2l hx hb dL_law_2396 rfl ?_
      refine W.lcmp hx hb dL_law_2397 ?_
      refine tp_i (show lg_cmp ((nI (memL g (tn p0)).length).toInt64) ((nI (memL g (tn p0)).length).toInt64) = nI 0 from lg_eq _) ?_
      refine nv_if_eq (X := ((0 : Nat) : Int)) hx hb (nI_toInt (by omega)) (tgt := 2403) dL_law_2398 (by decide) (fun c_2 => ?_) (fun c_2 => ?_)
      · skip
        refine lv_goto (tgt := 2541) hx hb dL_law_2403 (by decide) ?_
        exact W_widen (by omega) (by omega) (kk w g g2 g3 hg nx ct co re so gw q F u9.1 u9.2.1 ((memL g (tn p0)).length) u9.2.2.1 u9.2.2.2 (upn (upn z 0 0) 4 (memL g (tn p0)).length) gs (upr ar 2 (putL (ar 2) 0 (memL g (tn p0)))) lo9 dO _ _ _ (rel_wm hR hB4 hT9 hT8 hT7 hT6) hP hD hS (lv_sub hl [2, 3, 4, 5, 6, 7] rfl))
      · exact absurd c_2 (by omega)
  · skip
    have hw : r = nI 1 ∧ hasM g p0 = false := hw
    have hP : va_P E.1 vwCl ([loC E ol lo, dbC E od dO, coC E x a a2 a3 b d k pa y w, stC E a g, stC E a2 g2, stC E a3 g3, hhC E b hs hg nx ct, diC E d co re, grC E k so gw, prC E pa q F, sbO E y v ml n, baC E v cp t, moC E mb z g gs ar] : List va_W).flatten H := hP
    have hD : va_D A ([loC E ol lo, dbC E od dO, coC E x a a2 a3 b d k pa y w, stC E a g, stC E a2 g2, stC E a3 g3, hhC E b hs hg nx ct, diC E d co re, grC E k so gw, prC E pa q F, sbO E y v ml n, baC E v cp t, moC E mb z g gs ar] : List va_W).flatten := hD
    obtain ⟨rfl, hq⟩ := hw
    refine lv_istore (lv' := [(6, .int (nI 1)), (0, .ref sb), (1, .ref (x 0)), (2, .ref (mb 0)), (3, .ref ol), (4, .ref od), (5, .int (nI i))]) hx hb dL_law_2361 hl (by decide) rfl (fun ls hl => ?_)
    refine lv_aload_n hx hb dL_law_2363 rfl (lv_at hl 3 rfl) ?_
    refine lv_aload_n hx hb dL_law_2364 rfl (lv_at hl 1 rfl) ?_
    refine lv_iload hx hb dL_law_2365 (lv_at hl 6 rfl) ?_
    refine lv_iconst (v := nI 1) hx hb dL_law_2367 (by decide) ?_
    refine nv_iadd hx hb dL_law_2368 ?_
    refine va_sld hx hb hX hbl hbA hS (vp_in_nI (show i + 1 < L by omega) (by omega)) dL_law_2369 ?_
    refine tp_i (show xs (nI (i + 1)).toNatClampNeg = p0 from by rw [nI_clamp (by omega), hp0]) ?_
    refine run_i (S := Unit) (run_V (As := [.int p0]) (rest := []) (bs := [loC E ol lo, dbC E od dO, coC E x a a2 a3 b d k pa y w, stC E a g, stC E a2 g2, stC E a3 g3, hhC E b hs hg nx ct, diC E d co re, grC E k so gw, prC E pa q F, sbO E y v ml n, baC E v cp t, moC E mb z g gs ar]) (cb := [moC E mb z g gs ar]) hx hb hml hown hts hK hZ hA (c_X6_writeMember l E _ mb z g gs ar B hI p0) l_L_308 rfl ⟨⟨rfl, rfl⟩, Nat.le_of_ble_eq_true rfl, Nat.le_of_ble_eq_true rfl⟩ 10 rfl [12] rfl (by decide) rfl hP hD hS hl.1 rfl (Nat.le_of_ble_eq_true rfl) dL_law_2370 ⟨by show (cells + 13) + 0 ≤ 603072; omega, by show (slots + 414) + 0 ≤ 7174250; omega⟩) hA hP hD hS (isC := [12]) rfl [0, 1, 2, 3, 4, 5, 6, 7, 8, 9, 10, 11] [0, 1, 2, 3, 4, 5, 6, 7, 8, 9, 10, 11, 12] (br := [loC E ol lo, dbC E od dO, coC E x a a2 a3 b d k pa y w, stC E a g, stC E a2 g2, stC E a3 g3, hhC E b hs hg nx ct, diC E d co re, grC E k so gw, prC E pa q F, sbO E y v ml n, baC E v cp t]) (bs2 := fun _ => [loC E ol lo, dbC E od dO, coC E x a a2 a3 b d k pa y w, stC E a g, stC E a2 g2, stC E a3 g3, hhC E b hs hg nx ct, diC E d co re, grC E k so gw, prC E pa q F, sbO E y v ml n, baC E v cp t, moC E mb (if hasM g p0 = true then upn (upn z 0 0) 4 (memL g (tn p0)).length else upn z 0 1) g gs (if hasM g p0 = true then upr ar 2 (putL (ar 2) 0 (memL g (tn p0))) else ar)]) rfl (by decide) (fun _ => rfl) (by decide) (fun r u6 H locs hw6 hP hD hS => ?_)
    have hw6 : r = nI (if hasM g p0 = true then (memL g (tn p0)).length else 0) := hw6
    subst hw6
    have hq9 : ¬ hasM g p0 = true := (fun h9 => by rw [hq] at h9; cases h9)
    rw [if_neg hq9, if_neg hq9] at hP hD
    have hP : va_P E.1 vwCl ([loC E ol lo, dbC E od dO, coC E x a a2 a3 b d k pa y w, stC E a g, stC E a2 g2, stC E a3 g3, hhC E b hs hg nx ct, diC E d co re, grC E k so gw, prC E pa q F, sbO E y v ml n, baC E v cp t, moC E mb (upn z 0 1) g gs ar] : List va_W).flatten H := hP
    have hD : va_D A ([loC E ol lo, dbC E od dO, coC E x a a2 a3 b d k pa y w, stC E a g, stC E a2 g2, stC E a3 g3, hhC E b hs hg nx ct, diC E d co re, grC E k so gw, prC E pa q F, sbO E y v ml n, baC E v cp t, moC E mb (upn z 0 1) g gs ar] : List va_W).flatten := hD
    refine lv_istore (lv' := [(7, .int (nI (if hasM g p0 = true then (memL g (tn p0)).length else 0))), (6, .int (nI 1)), (0, .ref sb), (1, .ref (x 0)), (2, .ref (mb 0)), (3, .ref ol), (4, .ref od), (5, .int (nI i))]) hx hb dL_law_2373 hl (by decide) rfl (fun ls hl => ?_)
    refine lv_aload_n hx hb dL_law_2375 rfl (lv_at hl 4 rfl) ?_
    refine run_i (S := Unit) (run_V (As := []) (rest := []) (bs := [loC E ol lo, dbC E od dO, coC E x a a2 a3 b d k pa y w, stC E a g, stC E a2 g2, stC E a3 g3, hhC E b hs hg nx ct, diC E d co re, grC E k so gw, prC E pa q F, sbO E y v ml n, baC E v cp t, moC E mb (upn z 0 1) g gs ar]) (cb := [moC E mb (upn z 0 1) g gs ar]) hx hb hml hown hts hK hZ hA (c_X6_thrown l E _ mb (upn z 0 1) g gs ar) l_L_152 rfl ⟨⟨rfl, rfl⟩, Nat.le_of_ble_eq_true rfl, Nat.le_of_ble_eq_true rfl⟩ 10 rfl [12] rfl (by decide) rfl hP hD hS hl.1 rfl (Nat.le_of_ble_eq_true rfl) dL_law_2376 ⟨by show ((cells + 13) + 0) + 0 ≤ 603072; omega, by show ((slots + 414) + 0) + 0 ≤ 7174250; omega⟩) hA hP hD hS (isC := [12]) rfl [0, 1, 2, 3, 4, 5, 6, 7, 8, 9, 10, 11] [0, 1, 2, 3, 4, 5, 6, 7, 8, 9, 10, 11, 12] (br := [loC E ol lo, dbC E od dO, coC E x a a2 a3 b d k pa y w, stC E a g, stC E a2 g2, stC E a3 g3, hhC E b hs hg nx ct, diC E d co re, grC E k so gw, prC E pa q F, sbO E y v ml n, baC E v cp t]) (bs2 := fun _ => [loC E ol lo, dbC E od dO, coC E x a a2 a3 b d k pa y w, stC E a g, stC E a2 g2, stC E a3 g3, hhC E b hs hg nx ct, diC E d co re, grC E k so gw, prC E pa q F, sbO E y v ml n, baC E v cp t, moC E mb (upn z 0 1) g gs ar]) rfl (by decide) (fun _ => rfl) (by decide) (fun r u6 H locs hw6 hP hD hS => ?_)
    have hw6 : r = nI ((upn z 0 1) 0) := hw6
    subst hw6
    refine lv_iload hx hb dL_law_2379 (lv_at hl 1 rfl) ?_
    refine lv_icmp_eq (tgt := 2386) hx hb dL_law_2381 (by decide) (fun _ => ?_) (fun hc => absurd (show nI ((upn z 0 1) 0) = nI 1 from congrArg nI (upn_s)) hc)
    refine lv_iload hx hb dL_law_2386 (lv_at hl 1 rfl) ?_
    refine nv_if_ne (X := ((1 : Nat) : Int)) hx hb (nI_toInt (by omega)) (tgt := 2403) dL_law_2388 (by decide) (fun c_3 => ?_) (fun c_3 => ?_)
    · skip
      refine lv_goto (tgt := 2541) hx hb dL_law_2403 (by decide) ?_
      exact W_widen (by omega) (by omega) (kk w g g2 g3 hg nx ct co re so gw q F v ml n cp t (upn z 0 1) gs ar lo dO _ _ _ (rel_q hR hB4) hP hD hS (lv_sub hl [2, 3, 4, 5, 6, 7] rfl))
    · exact absurd c_3 (by omega)
set_option maxHeartbeats 4000000 in
set_option maxRecDepth 100000 in
theorem st_outputAt {p : Program} {l : Launch} {e : Env} {s : State} {m : MethodId} {args : Array Value} {below : List Frame} {meth : Method} {c : Code} {E : EE} {A : Nat → Prop} {Q : State → Prop} {x a a2 a3 b d k pa y : Nat → Nat} {hs : Nat → Nat → Nat} {mb : Nat → Nat} {ol od sb : Nat} {i B cells slots L : Nat} {xs : Nat → Int32} (C : LCx p l s m args c E A sb L xs) (hL : L ≤ 2560) (hi : i + 5 ≤ L) (hB4 : B + 420 ≤ 300000) (hrc : cells + 13 ≤ 603072 ∧ slots + 414 ≤ 7174250) (kk : LGo p l e s m args below meth c E A Q x a a2 a3 b d k pa y hs mb ol od sb i (B + 420) (cells + 13) (slots + 414) 2541) : LGo p l e s m args below meth c E A Q x a a2 a3 b d k pa y hs mb ol od sb i B cells slots 2406 := by
  obtain ⟨hx, hb, hml, hown, hts, hK, hZ, hDD, hA, hX, hbl, hbA, hst⟩ := C
  intro w g g2 g3 hg nx ct co re so gw q F v ml n cp t z gs ar lo dO H locs ls hR hP hD hS hl
  obtain ⟨hI, ⟨hs1, hs2, hs3⟩, ⟨hnx, hct, hz1, hh9⟩, ⟨hw1, hw2, hz5, hz6⟩, ⟨hq1, hq2, hF0, hF9⟩, ⟨hn1, hn2, hcp, ht9, htx, ho2⟩⟩ := id hR
  have hmc := hI.mc
  obtain ⟨p0, hp0⟩ : ∃ y9, y9 = xs (i + 1) := ⟨_, rfl⟩
  refine lv_aload_n hx hb dL_law_2406 rfl (lv_at hl 1 rfl) ?_
  refine lv_aload_n hx hb dL_law_2407 rfl (lv_at hl 0 rfl) ?_
  refine lv_iload hx hb dL_law_2408 (lv_at hl 5 rfl) ?_
  refine lv_iconst (v := nI 1) hx hb dL_law_2410 (by decide) ?_
  refine nv_iadd hx hb dL_law_2411 ?_
  refine va_sld hx hb hX hbl hbA hS (vp_in_nI (show i + 1 < L by omega) (by omega)) dL_law_2412 ?_
  refine tp_i (show xs (nI (i + 1)).toNatClampNeg = p0 from by rw [nI_clamp (by omega), hp0]) ?_
  refine lv_aload_n hx hb dL_law_2413 rfl (lv_at hl 3 rfl) ?_
  refine run_i (S := (Unit × Int32 × (Nat → Int64)) ⊕ Unit) (run_SW (As := [.ref (x 0), .int p0, .ref ol]) (rest := []) (bs := [loC E ol lo, dbC E od dO, coC E x a a2 a3 b d k pa y w, stC E a g, stC E a2 g2, stC E a3 g3, hhC E b hs hg nx ct, diC E d co re, grC E k so gw, prC E pa q F, sbO E y v ml n, baC E v cp t, moC E mb z g gs ar]) (cb := [loC E ol lo, coC E x a a2 a3 b d k pa y w, sbO E y v ml n, baC E v cp t]) hx hb hml hown hts hK hZ hDD hA (c_L_outputAt l hst E _ x a a2 a3 b d k pa y w v ml n cp t ht9 hn2 (by omega) p0 ol lo) l_L_309 rfl ⟨⟨rfl, rfl⟩, Nat.le_of_ble_eq_true rfl, Nat.le_of_ble_eq_true rfl⟩ [0, 2, 10, 11] rfl (by decide) hP hD hS hl.1 rfl (Nat.le_of_ble_eq_true rfl) dL_law_2414 ⟨by show cells + 1 ≤ 603072; omega, by show slots + 6 ≤ 7174250; omega⟩) hA hP hD hS (isC := [0, 2, 10, 11]) rfl [1, 3, 4, 5, 6, 7, 8, 9, 12] [9, 0, 10, 1, 2, 3, 4, 5, 6, 7, 11, 12, 8] (br := [dbC E od dO, stC E a g, stC E a2 g2, stC E a3 g3, hhC E b hs hg nx ct, diC E d co re, grC E k so gw, prC E pa q F, moC E mb z g gs ar]) (bs2 := fun u => Sum.elim (fun (vq : Unit × Int32 × (Nat → Int64)) => [loC E ol vq.2.2, dbC E od dO, coC E x a a2 a3 b d k pa y w, stC E a g, stC E a2 g2, stC E a3 g3, hhC E b hs hg nx ct, diC E d co re, grC E k so gw, prC E pa q F, sbO E y v ml n, baC E v cp t, moC E mb z g gs ar]) (fun (vq : Unit) => [loC E ol lo, dbC E od dO, coC E x a a2 a3 b d k pa y w, stC E a g, stC E a2 g2, stC E a3 g3, hhC E b hs hg nx ct, diC E d co re, grC E k so gw, prC E pa q F, sbO E y v ml n, baC E v cp t, moC E mb z g gs ar]) u) rfl (by decide) (fun u => by rcases u with u | u <;> rfl) (by decide) (fun r u H locs hw hP hD hS => ?_)
  rcases u with vq | vq
  · skip
    obtain ⟨u9, r9, lo9⟩ := vq
    have hw7 : r = nI 0 ∧ ((0 ≤ p0.toInt ∧ p0.toInt < (n : Int)) ∧ r9 = nI (t (tn p0))) ∧ lo9 0 = r9.toInt64 := hw
    clear hw
    obtain ⟨rfl, hw⟩ := hw7
    have hP : va_P E.1 vwCl ([loC E ol lo9, dbC E od dO, coC E x a a2 a3 b d k pa y w, stC E a g, stC E a2 g2, stC E a3 g3, hhC E b hs hg nx ct, diC E d co re, grC E k so gw, prC E pa q F, sbO E y v ml n, baC E v cp t, moC E mb z g gs ar] : List va_W).flatten H := hP
    have hD : va_D A ([loC E ol lo9, dbC E od dO, coC E x a a2 a3 b d k pa y w, stC E a g, stC E a2 g2, stC E a3 g3, hhC E b hs hg nx ct, diC E d co re, grC E k so gw, prC E pa q F, sbO E y v ml n, baC E v cp t, moC E mb z g gs ar] : List va_W).flatten := hD
    obtain ⟨⟨hcnd, hr9⟩, hlo⟩ := hw
    subst hr9
    refine lv_istore (lv' := [(6, .int (nI 0)), (0, .ref sb), (1, .ref (x 0)), (2, .ref (mb 0)), (3, .ref ol), (4, .ref od), (5, .int (nI i))]) hx hb dL_law_2417 hl (by decide) rfl (fun ls hl => ?_)
    refine lv_aload_n hx hb dL_law_2419 rfl (lv_at hl 3 rfl) ?_
    refine lv_aload_n hx hb dL_law_2420 rfl (lv_at hl 1 rfl) ?_
    refine lv_iload hx hb dL_law_2421 (lv_at hl 6 rfl) ?_
    refine lv_iconst (v := nI 1) hx hb dL_law_2423 (by decide) ?_
    refine nv_iadd hx hb dL_law_2424 ?_
    refine va_sld hx hb hX hbl hbA hS (vp_in_nI (show i + 1 < L by omega) (by omega)) dL_law_2425 ?_
    refine tp_i (show xs (nI (i + 1)).toNatClampNeg = p0 from by rw [nI_clamp (by omega), hp0]) ?_
    refine run_i (S := Unit) (run_V (As := [.int p0]) (rest := []) (bs := [loC E ol lo9, dbC E od dO, coC E x a a2 a3 b d k pa y w, stC E a g, stC E a2 g2, stC E a3 g3, hhC E b hs hg nx ct, diC E d co re, grC E k so gw, prC E pa q F, sbO E y v ml n, baC E v cp t, moC E mb z g gs ar]) (cb := [moC E mb z g gs ar]) hx hb hml hown hts hK hZ hA (c_X6_outputAt l E _ mb z g gs ar p0 (by omega) ho2) l_L_311 rfl ⟨⟨rfl, rfl⟩, Nat.le_of_ble_eq_true rfl, Nat.le_of_ble_eq_true rfl⟩ 10 rfl [12] rfl (by decide) rfl hP hD hS hl.1 rfl (Nat.le_of_ble_eq_true rfl) dL_law_2426 ⟨by show (cells + 1) + 0 ≤ 603072; omega, by show (slots + 6) + 0 ≤ 7174250; omega⟩) hA hP hD hS (isC := [12]) rfl [0, 1, 2, 3, 4, 5, 6, 7, 8, 9, 10, 11] [0, 1, 2, 3, 4, 5, 6, 7, 8, 9, 10, 11, 12] (br := [loC E ol lo9, dbC E od dO, coC E x a a2 a3 b d k pa y w, stC E a g, stC E a2 g2, stC E a3 g3, hhC E b hs hg nx ct, diC E d co re, grC E k so gw, prC E pa q F, sbO E y v ml n, baC E v cp t]) (bs2 := fun _ => [loC E ol lo9, dbC E od dO, coC E x a a2 a3 b d k pa y w, stC E a g, stC E a2 g2, stC E a3 g3, hhC E b hs hg nx ct, diC E d co re, grC E k so gw, prC E pa q F, sbO E y v ml n, baC E v cp t, moC E mb (upn z 0 (if 0 ≤ p0.toInt ∧ p0.toInt < (z 4 : Int) then 0 else 1)) g gs ar]) rfl (by decide) (fun _ => rfl) (by decide) (fun r u6 H locs hw6 hP hD hS => ?_)
    have hw6 : r = nI (if 0 ≤ p0.toInt ∧ p0.toInt < (z 4 : Int) then ar 2 (tn p0) else 0) := hw6
    subst hw6
    refine tp_i (show nI (if 0 ≤ p0.toInt ∧ p0.toInt < (z 4 : Int) then ar 2 (tn p0) else 0) = nI (t (tn p0)) from congrArg nI ((if_pos (by omega)).trans (htx _ (by have := tn_t (x := p0) (by omega); omega)).symm)) ?_
    refine lv_istore (lv' := [(7, .int (nI (t (tn p0)))), (6, .int (nI 0)), (0, .ref sb), (1, .ref (x 0)), (2, .ref (mb 0)), (3, .ref ol), (4, .ref od), (5, .int (nI i))]) hx hb dL_law_2429 hl (by decide) rfl (fun ls hl => ?_)
    refine lv_aload_n hx hb dL_law_2431 rfl (lv_at hl 4 rfl) ?_
    refine run_i (S := Unit) (run_V (As := []) (rest := []) (bs := [loC E ol lo9, dbC E od dO, coC E x a a2 a3 b d k pa y w, stC E a g, stC E a2 g2, stC E a3 g3, hhC E b hs hg nx ct, diC E d co re, grC E k so gw, prC E pa q F, sbO E y v ml n, baC E v cp t, moC E mb (upn z 0 (if 0 ≤ p0.toInt ∧ p0.toInt < (z 4 : Int) then 0 else 1)) g gs ar]) (cb := [moC E mb (upn z 0 (if 0 ≤ p0.toInt ∧ p0.toInt < (z 4 : Int) then 0 else 1)) g gs ar]) hx hb hml hown hts hK hZ hA (c_X6_thrown l E _ mb (upn z 0 (if 0 ≤ p0.toInt ∧ p0.toInt < (z 4 : Int) then 0 else 1)) g gs ar) l_L_152 rfl ⟨⟨rfl, rfl⟩, Nat.le_of_ble_eq_true rfl, Nat.le_of_ble_eq_true rfl⟩ 10 rfl [12] rfl (by decide) rfl hP hD hS hl.1 rfl (Nat.le_of_ble_eq_true rfl) dL_law_2432 ⟨by show ((cells + 1) + 0) + 0 ≤ 603072; omega, by show ((slots + 6) + 0) + 0 ≤ 7174250; omega⟩) hA hP hD hS (isC := [12]) rfl [0, 1, 2, 3, 4, 5, 6, 7, 8, 9, 10, 11] [0, 1, 2, 3, 4, 5, 6, 7, 8, 9, 10, 11, 12] (br := [loC E ol lo9, dbC E od dO, coC E x a a2 a3 b d k pa y w, stC E a g, stC E a2 g2, stC E a3 g3, hhC E b hs hg nx ct, diC E d co re, grC E k so gw, prC E pa q F, sbO E y v ml n, baC E v cp t]) (bs2 := fun _ => [loC E ol lo9, dbC E od dO, coC E x a a2 a3 b d k pa y w, stC E a g, stC E a2 g2, stC E a3 g3, hhC E b hs hg nx ct, diC E d co re, grC E k so gw, prC E pa q F, sbO E y v ml n, baC E v cp t, moC E mb (upn z 0 (if 0 ≤ p0.toInt ∧ p0.toInt < (z 4 : Int) then 0 else 1)) g gs ar]) rfl (by decide) (fun _ => rfl) (by decide) (fun r u6 H locs hw6 hP hD hS => ?_)
    have hw6 : r = nI ((upn z 0 (if 0 ≤ p0.toInt ∧ p0.toInt < (z 4 : Int) then 0 else 1)) 0) := hw6
    subst hw6
    refine lv_iload hx hb dL_law_2435 (lv_at hl 1 rfl) ?_
    refine lv_icmp_eq (tgt := 2442) hx hb dL_law_2437 (by decide) (fun _ => ?_) (fun hc => absurd (show nI ((upn z 0 (if 0 ≤ p0.toInt ∧ p0.toInt < (z 4 : Int) then 0 else 1)) 0) = nI 0 from congrArg nI (upn_s.trans (if_pos (by omega)))) hc)
    refine lv_iload hx hb dL_law_2442 (lv_at hl 1 rfl) ?_
    refine nv_if_ne (X := ((0 : Nat) : Int)) hx hb (nI_toInt (by omega)) (tgt := 2459) dL_law_2444 (by decide) (fun c_1 => ?_) (fun c_1 => ?_)
    · exact absurd c_1 (by omega)
    · skip
      refine lv_aload_n hx hb dL_law_2447 rfl (lv_at hl 5 rfl) ?_
      refine lv_iconst (v := nI 0) hx hb dL_law_2448 (by decide) ?_
      refine va_lald hx hb hK hP 0 4 rfl rfl (vp_in_nI (show 0 < 1 by decide) (by decide)) dL_law_2449 ?_
      rw [show lo9 (nI 0).toNatClampNeg = (nI (t (tn p0))).toInt64 from by rw [nI_clamp (show 0 < 2 ^ 31 by decide)]; exact hlo]
      refine lv_iload hx hb dL_law_2450 (lv_at hl 0 rfl) ?_
      refine lv_i2l hx hb dL_law_2452 rfl ?_
      refine W.lcmp hx hb dL_law_2453 ?_
      refine tp_i (show lg_cmp ((nI (t (tn p0))).toInt64) ((nI (t (tn p0))).toInt64) = nI 0 from lg_eq _) ?_
      refine nv_if_eq (X := ((0 : Nat) : Int)) hx hb (nI_toInt (by omega)) (tgt := 2459) dL_law_2454 (by decide) (fun c_2 => ?_) (fun c_2 => ?_)
      · skip
        refine lv_goto (tgt := 2541) hx hb dL_law_2459 (by decide) ?_
        exact W_widen (by omega) (by omega) (kk w g g2 g3 hg nx ct co re so gw q F v ml n cp t (upn z 0 (if 0 ≤ p0.toInt ∧ p0.toInt < (z 4 : Int) then 0 else 1)) gs ar lo9 dO _ _ _ (rel_q hR hB4) hP hD hS (lv_sub hl [2, 3, 4, 5, 6, 7] rfl))
      · exact absurd c_2 (by omega)
  · skip
    have hw : r = nI 1 ∧ ¬ (0 ≤ p0.toInt ∧ p0.toInt < (n : Int)) := hw
    have hP : va_P E.1 vwCl ([loC E ol lo, dbC E od dO, coC E x a a2 a3 b d k pa y w, stC E a g, stC E a2 g2, stC E a3 g3, hhC E b hs hg nx ct, diC E d co re, grC E k so gw, prC E pa q F, sbO E y v ml n, baC E v cp t, moC E mb z g gs ar] : List va_W).flatten H := hP
    have hD : va_D A ([loC E ol lo, dbC E od dO, coC E x a a2 a3 b d k pa y w, stC E a g, stC E a2 g2, stC E a3 g3, hhC E b hs hg nx ct, diC E d co re, grC E k so gw, prC E pa q F, sbO E y v ml n, baC E v cp t, moC E mb z g gs ar] : List va_W).flatten := hD
    obtain ⟨rfl, hq⟩ := hw
    refine lv_istore (lv' := [(6, .int (nI 1)), (0, .ref sb), (1, .ref (x 0)), (2, .ref (mb 0)), (3, .ref ol), (4, .ref od), (5, .int (nI i))]) hx hb dL_law_2417 hl (by decide) rfl (fun ls hl => ?_)
    refine lv_aload_n hx hb dL_law_2419 rfl (lv_at hl 3 rfl) ?_
    refine lv_aload_n hx hb dL_law_2420 rfl (lv_at hl 1 rfl) ?_
    refine lv_iload hx hb dL_law_2421 (lv_at hl 6 rfl) ?_
    refine lv_iconst (v := nI 1) hx hb dL_law_2423 (by decide) ?_
    refine nv_iadd hx hb dL_law_2424 ?_
    refine va_sld hx hb hX hbl hbA hS (vp_in_nI (show i + 1 < L by omega) (by omega)) dL_law_2425 ?_
    refine tp_i (show xs (nI (i + 1)).toNatClampNeg = p0 from by rw [nI_clamp (by omega), hp0]) ?_
    refine run_i (S := Unit) (run_V (As := [.int p0]) (rest := []) (bs := [loC E ol lo, dbC E od dO, coC E x a a2 a3 b d k pa y w, stC E a g, stC E a2 g2, stC E a3 g3, hhC E b hs hg nx ct, diC E d co re, grC E k so gw, prC E pa q F, sbO E y v ml n, baC E v cp t, moC E mb z g gs ar]) (cb := [moC E mb z g gs ar]) hx hb hml hown hts hK hZ hA (c_X6_outputAt l E _ mb z g gs ar p0 (by omega) ho2) l_L_311 rfl ⟨⟨rfl, rfl⟩, Nat.le_of_ble_eq_true rfl, Nat.le_of_ble_eq_true rfl⟩ 10 rfl [12] rfl (by decide) rfl hP hD hS hl.1 rfl (Nat.le_of_ble_eq_true rfl) dL_law_2426 ⟨by show (cells + 1) + 0 ≤ 603072; omega, by show (slots + 6) + 0 ≤ 7174250; omega⟩) hA hP hD hS (isC := [12]) rfl [0, 1, 2, 3, 4, 5, 6, 7, 8, 9, 10, 11] [0, 1, 2, 3, 4, 5, 6, 7, 8, 9, 10, 11, 12] (br := [loC E ol lo, dbC E od dO, coC E x a a2 a3 b d k pa y w, stC E a g, stC E a2 g2, stC E a3 g3, hhC E b hs hg nx ct, diC E d co re, grC E k so gw, prC E pa q F, sbO E y v ml n, baC E v cp t]) (bs2 := fun _ => [loC E ol lo, dbC E od dO, coC E x a a2 a3 b d k pa y w, stC E a g, stC E a2 g2, stC E a3 g3, hhC E b hs hg nx ct, diC E d co re, grC E k so gw, prC E pa q F, sbO E y v ml n, baC E v cp t, moC E mb (upn z 0 (if 0 ≤ p0.toInt ∧ p0.toInt < (z 4 : Int) then 0 else 1)) g gs ar]) rfl (by decide) (fun _ => rfl) (by decide) (fun r u6 H locs hw6 hP hD hS => ?_)
    have hw6 : r = nI (if 0 ≤ p0.toInt ∧ p0.toInt < (z 4 : Int) then ar 2 (tn p0) else 0) := hw6
    subst hw6
    refine lv_istore (lv' := [(7, .int (nI (if 0 ≤ p0.toInt ∧ p0.toInt < (z 4 : Int) then ar 2 (tn p0) else 0))), (6, .int (nI 1)), (0, .ref sb), (1, .ref (x 0)), (2, .ref (mb 0)), (3, .ref ol), (4, .ref od), (5, .int (nI i))]) hx hb dL_law_2429 hl (by decide) rfl (fun ls hl => ?_)
    refine lv_aload_n hx hb dL_law_2431 rfl (lv_at hl 4 rfl) ?_
    refine run_i (S := Unit) (run_V (As := []) (rest := []) (bs := [loC E ol lo, dbC E od dO, coC E x a a2 a3 b d k pa y w, stC E a g, stC E a2 g2, stC E a3 g3, hhC E b hs hg nx ct, diC E d co re, grC E k so gw, prC E pa q F, sbO E y v ml n, baC E v cp t, moC E mb (upn z 0 (if 0 ≤ p0.toInt ∧ p0.toInt < (z 4 : Int) then 0 else 1)) g gs ar]) (cb := [moC E mb (upn z 0 (if 0 ≤ p0.toInt ∧ p0.toInt < (z 4 : Int) then 0 else 1)) g gs ar]) hx hb hml hown hts hK hZ hA (c_X6_thrown l E _ mb (upn z 0 (if 0 ≤ p0.toInt ∧ p0.toInt < (z 4 : Int) then 0 else 1)) g gs ar) l_L_152 rfl ⟨⟨rfl, rfl⟩, Nat.le_of_ble_eq_true rfl, Nat.le_of_ble_eq_true rfl⟩ 10 rfl [12] rfl (by decide) rfl hP hD hS hl.1 rfl (Nat.le_of_ble_eq_true rfl) dL_law_2432 ⟨by show ((cells + 1) + 0) + 0 ≤ 603072; omega, by show ((slots + 6) + 0) + 0 ≤ 7174250; omega⟩) hA hP hD hS (isC := [12]) rfl [0, 1, 2, 3, 4, 5, 6, 7, 8, 9, 10, 11] [0, 1, 2, 3, 4, 5, 6, 7, 8, 9, 10, 11, 12] (br := [loC E ol lo, dbC E od dO, coC E x a a2 a3 b d k pa y w, stC E a g, stC E a2 g2, stC E a3 g3, hhC E b hs hg nx ct, diC E d co re, grC E k so gw, prC E pa q F, sbO E y v ml n, baC E v cp t]) (bs2 := fun _ => [loC E ol lo, dbC E od dO, coC E x a a2 a3 b d k pa y w, stC E a g, stC E a2 g2, stC E a3 g3, hhC E b hs hg nx ct, diC E d co re, grC E k so gw, prC E pa q F, sbO E y v ml n, baC E v cp t, moC E mb (upn z 0 (if 0 ≤ p0.toInt ∧ p0.toInt < (z 4 : Int) then 0 else 1)) g gs ar]) rfl (by decide) (fun _ => rfl) (by decide) (fun r u6 H locs hw6 hP hD hS => ?_)
    have hw6 : r = nI ((upn z 0 (if 0 ≤ p0.toInt ∧ p0.toInt < (z 4 : Int) then 0 else 1)) 0) := hw6
    subst hw6
    refine lv_iload hx hb dL_law_2435 (lv_at hl 1 rfl) ?_
    refine lv_icmp_eq (tgt := 2442) hx hb dL_law_2437 (by decide) (fun _ => ?_) (fun hc => absurd (show nI ((upn z 0 (if 0 ≤ p0.toInt ∧ p0.toInt < (z 4 : Int) then 0 else 1)) 0) = nI 1 from congrArg nI (upn_s.trans (if_neg (by omega)))) hc)
    refine lv_iload hx hb dL_law_2442 (lv_at hl 1 rfl) ?_
    refine nv_if_ne (X := ((1 : Nat) : Int)) hx hb (nI_toInt (by omega)) (tgt := 2459) dL_law_2444 (by decide) (fun c_3 => ?_) (fun c_3 => ?_)
    · skip
      refine lv_goto (tgt := 2541) hx hb dL_law_2459 (by decide) ?_
      exact W_widen (by omega) (by omega) (kk w g g2 g3 hg nx ct co re so gw q F v ml n cp t (upn z 0 (if 0 ≤ p0.toInt ∧ p0.toInt < (z 4 : Int) then 0 else 1)) gs ar lo dO _ _ _ (rel_q hR hB4) hP hD hS (lv_sub hl [2, 3, 4, 5, 6, 7] rfl))
    · exact absurd c_3 (by omega)
set_option maxHeartbeats 4000000 in
set_option maxRecDepth 100000 in
theorem st_undo {p : Program} {l : Launch} {e : Env} {s : State} {m : MethodId} {args : Array Value} {below : List Frame} {meth : Method} {c : Code} {E : EE} {A : Nat → Prop} {Q : State → Prop} {x a a2 a3 b d k pa y : Nat → Nat} {hs : Nat → Nat → Nat} {mb : Nat → Nat} {ol od sb : Nat} {i B cells slots L : Nat} {xs : Nat → Int32} (C : LCx p l s m args c E A sb L xs) (hL : L ≤ 2560) (hi : i + 5 ≤ L) (hB4 : B + 420 ≤ 300000) (hrc : cells + 13 ≤ 603072 ∧ slots + 414 ≤ 7174250) (kk : LGo p l e s m args below meth c E A Q x a a2 a3 b d k pa y hs mb ol od sb i (B + 420) (cells + 13) (slots + 414) 2541) : LGo p l e s m args below meth c E A Q x a a2 a3 b d k pa y hs mb ol od sb i B cells slots 2462 := by
  obtain ⟨hx, hb, hml, hown, hts, hK, hZ, hDD, hA, hX, hbl, hbA, hst⟩ := C
  intro w g g2 g3 hg nx ct co re so gw q F v ml n cp t z gs ar lo dO H locs ls hR hP hD hS hl
  obtain ⟨hI, ⟨hs1, hs2, hs3⟩, ⟨hnx, hct, hz1, hh9⟩, ⟨hw1, hw2, hz5, hz6⟩, ⟨hq1, hq2, hF0, hF9⟩, ⟨hn1, hn2, hcp, ht9, htx, ho2⟩⟩ := id hR
  have hmc := hI.mc
  refine lv_aload_n hx hb dL_law_2462 rfl (lv_at hl 1 rfl) ?_
  refine lv_aload_n hx hb dL_law_2463 rfl (lv_at hl 3 rfl) ?_
  refine run_i (S := (Unit × Int32 × (Nat → Int64)) ⊕ Unit) (run_SW (As := [.ref (x 0), .ref ol]) (rest := []) (bs := [loC E ol lo, dbC E od dO, coC E x a a2 a3 b d k pa y w, stC E a g, stC E a2 g2, stC E a3 g3, hhC E b hs hg nx ct, diC E d co re, grC E k so gw, prC E pa q F, sbO E y v ml n, baC E v cp t, moC E mb z g gs ar]) (cb := [loC E ol lo, coC E x a a2 a3 b d k pa y w, hhC E b hs hg nx ct, stC E a g]) hx hb hml hown hts hK hZ hDD hA (c_L_undo l hst E _ x a a2 a3 b d k pa y w g B hI hs hg nx ct hnx hct ol lo) l_L_312 rfl ⟨⟨rfl, rfl⟩, Nat.le_of_ble_eq_true rfl, Nat.le_of_ble_eq_true rfl⟩ [0, 2, 6, 3] rfl (by decide) hP hD hS hl.1 rfl (Nat.le_of_ble_eq_true rfl) dL_law_2464 ⟨by show cells + 1 ≤ 603072; omega, by show slots + 6 ≤ 7174250; omega⟩) hA hP hD hS (isC := [0, 2, 6, 3]) rfl [1, 4, 5, 7, 8, 9, 10, 11, 12] [9, 0, 10, 12, 1, 2, 11, 3, 4, 5, 6, 7, 8] (br := [dbC E od dO, stC E a2 g2, stC E a3 g3, diC E d co re, grC E k so gw, prC E pa q F, sbO E y v ml n, baC E v cp t, moC E mb z g gs ar]) (bs2 := fun u => Sum.elim (fun (vq : Unit × Int32 × (Nat → Int64)) => [loC E ol vq.2.2, dbC E od dO, coC E x a a2 a3 b d k pa y w, stC E a (hg ((nx + 8 - 1) % 8)), stC E a2 g2, stC E a3 g3, hhC E b hs hg ((nx + 8 - 1) % 8) (ct - 1), diC E d co re, grC E k so gw, prC E pa q F, sbO E y v ml n, baC E v cp t, moC E mb z g gs ar]) (fun (vq : Unit) => [loC E ol lo, dbC E od dO, coC E x a a2 a3 b d k pa y w, stC E a g, stC E a2 g2, stC E a3 g3, hhC E b hs hg nx ct, diC E d co re, grC E k so gw, prC E pa q F, sbO E y v ml n, baC E v cp t, moC E mb z g gs ar]) u) rfl (by decide) (fun u => by rcases u with u | u <;> rfl) (by decide) (fun r u H locs hw hP hD hS => ?_)
  rcases u with vq | vq
  · skip
    obtain ⟨u9, r9, lo9⟩ := vq
    have hw7 : r = nI 0 ∧ (ct ≠ 0 ∧ r9 = nI (ct - 1)) ∧ lo9 0 = r9.toInt64 := hw
    clear hw
    obtain ⟨rfl, hw⟩ := hw7
    have hP : va_P E.1 vwCl ([loC E ol lo9, dbC E od dO, coC E x a a2 a3 b d k pa y w, stC E a (hg ((nx + 8 - 1) % 8)), stC E a2 g2, stC E a3 g3, hhC E b hs hg ((nx + 8 - 1) % 8) (ct - 1), diC E d co re, grC E k so gw, prC E pa q F, sbO E y v ml n, baC E v cp t, moC E mb z g gs ar] : List va_W).flatten H := hP
    have hD : va_D A ([loC E ol lo9, dbC E od dO, coC E x a a2 a3 b d k pa y w, stC E a (hg ((nx + 8 - 1) % 8)), stC E a2 g2, stC E a3 g3, hhC E b hs hg ((nx + 8 - 1) % 8) (ct - 1), diC E d co re, grC E k so gw, prC E pa q F, sbO E y v ml n, baC E v cp t, moC E mb z g gs ar] : List va_W).flatten := hD
    obtain ⟨⟨hcnd, hr9⟩, hlo⟩ := hw
    subst hr9
    refine lv_istore (lv' := [(6, .int (nI 0)), (0, .ref sb), (1, .ref (x 0)), (2, .ref (mb 0)), (3, .ref ol), (4, .ref od), (5, .int (nI i))]) hx hb dL_law_2467 hl (by decide) rfl (fun ls hl => ?_)
    refine lv_aload_n hx hb dL_law_2469 rfl (lv_at hl 3 rfl) ?_
    refine run_i (S := Unit) (run_V (As := []) (rest := []) (bs := [loC E ol lo9, dbC E od dO, coC E x a a2 a3 b d k pa y w, stC E a (hg ((nx + 8 - 1) % 8)), stC E a2 g2, stC E a3 g3, hhC E b hs hg ((nx + 8 - 1) % 8) (ct - 1), diC E d co re, grC E k so gw, prC E pa q F, sbO E y v ml n, baC E v cp t, moC E mb z g gs ar]) (cb := [moC E mb z g gs ar]) hx hb hml hown hts hK hZ hA (c_X6_undo l E _ mb z g gs ar (by omega)) l_L_314 rfl ⟨⟨rfl, rfl⟩, Nat.le_of_ble_eq_true rfl, Nat.le_of_ble_eq_true rfl⟩ 10 rfl [12] rfl (by decide) rfl hP hD hS hl.1 rfl (Nat.le_of_ble_eq_true rfl) dL_law_2470 ⟨by show (cells + 1) + 0 ≤ 603072; omega, by show (slots + 6) + 0 ≤ 7174250; omega⟩) hA hP hD hS (isC := [12]) rfl [0, 1, 2, 3, 4, 5, 6, 7, 8, 9, 10, 11] [0, 1, 2, 3, 4, 5, 6, 7, 8, 9, 10, 11, 12] (br := [loC E ol lo9, dbC E od dO, coC E x a a2 a3 b d k pa y w, stC E a (hg ((nx + 8 - 1) % 8)), stC E a2 g2, stC E a3 g3, hhC E b hs hg ((nx + 8 - 1) % 8) (ct - 1), diC E d co re, grC E k so gw, prC E pa q F, sbO E y v ml n, baC E v cp t]) (bs2 := fun _ => [loC E ol lo9, dbC E od dO, coC E x a a2 a3 b d k pa y w, stC E a (hg ((nx + 8 - 1) % 8)), stC E a2 g2, stC E a3 g3, hhC E b hs hg ((nx + 8 - 1) % 8) (ct - 1), diC E d co re, grC E k so gw, prC E pa q F, sbO E y v ml n, baC E v cp t, moC E mb (if z 1 = 0 then upn z 0 1 else upn (upn z 0 0) 1 (z 1 - 1)) (if z 1 = 0 then g else gs (3 + (z 1 - 1))) gs ar]) rfl (by decide) (fun _ => rfl) (by decide) (fun r u6 H locs hw6 hP hD hS => ?_)
    have hw6 : r = nI (z 1 - 1) := hw6
    subst hw6
    have h60 : ¬ z 1 = 0 := by omega
    rw [if_neg h60, if_neg h60, (rel_u hR hB4 hcnd).1] at hP hD
    have hP : va_P E.1 vwCl ([loC E ol lo9, dbC E od dO, coC E x a a2 a3 b d k pa y w, stC E a (hg ((nx + 8 - 1) % 8)), stC E a2 g2, stC E a3 g3, hhC E b hs hg ((nx + 8 - 1) % 8) (ct - 1), diC E d co re, grC E k so gw, prC E pa q F, sbO E y v ml n, baC E v cp t, moC E mb (upn (upn z 0 0) 1 (z 1 - 1)) (hg ((nx + 8 - 1) % 8)) gs ar] : List va_W).flatten H := hP
    have hD : va_D A ([loC E ol lo9, dbC E od dO, coC E x a a2 a3 b d k pa y w, stC E a (hg ((nx + 8 - 1) % 8)), stC E a2 g2, stC E a3 g3, hhC E b hs hg ((nx + 8 - 1) % 8) (ct - 1), diC E d co re, grC E k so gw, prC E pa q F, sbO E y v ml n, baC E v cp t, moC E mb (upn (upn z 0 0) 1 (z 1 - 1)) (hg ((nx + 8 - 1) % 8)) gs ar] : List va_W).flatten := hD
    refine tp_i (show nI (z 1 - 1) = nI (ct - 1) from by rw [hz1]) ?_
    refine lv_istore (lv' := [(7, .int (nI (ct - 1))), (6, .int (nI 0)), (0, .ref sb), (1, .ref (x 0)), (2, .ref (mb 0)), (3, .ref ol), (4, .ref od), (5, .int (nI i))]) hx hb dL_law_2473 hl (by decide) rfl (fun ls hl => ?_)
    refine lv_aload_n hx hb dL_law_2475 rfl (lv_at hl 4 rfl) ?_
    refine run_i (S := Unit) (run_V (As := []) (rest := []) (bs := [loC E ol lo9, dbC E od dO, coC E x a a2 a3 b d k pa y w, stC E a (hg ((nx + 8 - 1) % 8)), stC E a2 g2, stC E a3 g3, hhC E b hs hg ((nx + 8 - 1) % 8) (ct - 1), diC E d co re, grC E k so gw, prC E pa q F, sbO E y v ml n, baC E v cp t, moC E mb (upn (upn z 0 0) 1 (z 1 - 1)) (hg ((nx + 8 - 1) % 8)) gs ar]) (cb := [moC E mb (upn (upn z 0 0) 1 (z 1 - 1)) (hg ((nx + 8 - 1) % 8)) gs ar]) hx hb hml hown hts hK hZ hA (c_X6_thrown l E _ mb (upn (upn z 0 0) 1 (z 1 - 1)) (hg ((nx + 8 - 1) % 8)) gs ar) l_L_152 rfl ⟨⟨rfl, rfl⟩, Nat.le_of_ble_eq_true rfl, Nat.le_of_ble_eq_true rfl⟩ 10 rfl [12] rfl (by decide) rfl hP hD hS hl.1 rfl (Nat.le_of_ble_eq_true rfl) dL_law_2476 ⟨by show ((cells + 1) + 0) + 0 ≤ 603072; omega, by show ((slots + 6) + 0) + 0 ≤ 7174250; omega⟩) hA hP hD hS (isC := [12]) rfl [0, 1, 2, 3, 4, 5, 6, 7, 8, 9, 10, 11] [0, 1, 2, 3, 4, 5, 6, 7, 8, 9, 10, 11, 12] (br := [loC E ol lo9, dbC E od dO, coC E x a a2 a3 b d k pa y w, stC E a (hg ((nx + 8 - 1) % 8)), stC E a2 g2, stC E a3 g3, hhC E b hs hg ((nx + 8 - 1) % 8) (ct - 1), diC E d co re, grC E k so gw, prC E pa q F, sbO E y v ml n, baC E v cp t]) (bs2 := fun _ => [loC E ol lo9, dbC E od dO, coC E x a a2 a3 b d k pa y w, stC E a (hg ((nx + 8 - 1) % 8)), stC E a2 g2, stC E a3 g3, hhC E b hs hg ((nx + 8 - 1) % 8) (ct - 1), diC E d co re, grC E k so gw, prC E pa q F, sbO E y v ml n, baC E v cp t, moC E mb (upn (upn z 0 0) 1 (z 1 - 1)) (hg ((nx + 8 - 1) % 8)) gs ar]) rfl (by decide) (fun _ => rfl) (by decide) (fun r u6 H locs hw6 hP hD hS => ?_)
    have hw6 : r = nI ((upn (upn z 0 0) 1 (z 1 - 1)) 0) := hw6
    subst hw6
    refine lv_iload hx hb dL_law_2479 (lv_at hl 1 rfl) ?_
    refine lv_icmp_eq (tgt := 2486) hx hb dL_law_2481 (by decide) (fun _ => ?_) (fun hc => absurd (show nI ((upn (upn z 0 0) 1 (z 1 - 1)) 0) = nI 0 from congrArg nI ((upn_n (by decide)).trans upn_s)) hc)
    refine lv_iload hx hb dL_law_2486 (lv_at hl 1 rfl) ?_
    refine nv_if_ne (X := ((0 : Nat) : Int)) hx hb (nI_toInt (by omega)) (tgt := 2503) dL_law_2488 (by decide) (fun c_1 => ?_) (fun c_1 => ?_)
    · exact absurd c_1 (by omega)
    · skip
      refine lv_aload_n hx hb dL_law_2491 rfl (lv_at hl 5 rfl) ?_
      refine lv_iconst (v := nI 0) hx hb dL_law_2492 (by decide) ?_
      refine va_lald hx hb hK hP 0 4 rfl rfl (vp_in_nI (show 0 < 1 by decide) (by decide)) dL_law_2493 ?_
      rw [show lo9 (nI 0).toNatClampNeg = (nI (ct - 1)).toInt64 from by rw [nI_clamp (show 0 < 2 ^ 31 by decide)]; exact hlo]
      refine lv_iload hx hb dL_law_2494 (lv_at hl 0 rfl) ?_
      refine lv_i2l hx hb dL_law_2496 rfl ?_
      refine W.lcmp hx hb dL_law_2497 ?_
      refine tp_i (show lg_cmp ((nI (ct - 1)).toInt64) ((nI (ct - 1)).toInt64) = nI 0 from lg_eq _) ?_
      refine nv_if_eq (X := ((0 : Nat) : Int)) hx hb (nI_toInt (by omega)) (tgt := 2503) dL_law_2498 (by decide) (fun c_2 => ?_) (fun c_2 => ?_)
      · skip
        refine lv_goto (tgt := 2541) hx hb dL_law_2503 (by decide) ?_
        exact W_widen (by omega) (by omega) (kk w (hg ((nx + 8 - 1) % 8)) g2 g3 hg ((nx + 8 - 1) % 8) (ct - 1) co re so gw q F v ml n cp t (upn (upn z 0 0) 1 (z 1 - 1)) gs ar lo9 dO _ _ _ ((rel_u hR hB4 hcnd).2) hP hD hS (lv_sub hl [2, 3, 4, 5, 6, 7] rfl))
      · exact absurd c_2 (by omega)
  · skip
    have hw : r = nI 1 ∧ ct = 0 := hw
    have hP : va_P E.1 vwCl ([loC E ol lo, dbC E od dO, coC E x a a2 a3 b d k pa y w, stC E a g, stC E a2 g2, stC E a3 g3, hhC E b hs hg nx ct, diC E d co re, grC E k so gw, prC E pa q F, sbO E y v ml n, baC E v cp t, moC E mb z g gs ar] : List va_W).flatten H := hP
    have hD : va_D A ([loC E ol lo, dbC E od dO, coC E x a a2 a3 b d k pa y w, stC E a g, stC E a2 g2, stC E a3 g3, hhC E b hs hg nx ct, diC E d co re, grC E k so gw, prC E pa q F, sbO E y v ml n, baC E v cp t, moC E mb z g gs ar] : List va_W).flatten := hD
    obtain ⟨rfl, hq⟩ := hw
    refine lv_istore (lv' := [(6, .int (nI 1)), (0, .ref sb), (1, .ref (x 0)), (2, .ref (mb 0)), (3, .ref ol), (4, .ref od), (5, .int (nI i))]) hx hb dL_law_2467 hl (by decide) rfl (fun ls hl => ?_)
    refine lv_aload_n hx hb dL_law_2469 rfl (lv_at hl 3 rfl) ?_
    refine run_i (S := Unit) (run_V (As := []) (rest := []) (bs := [loC E ol lo, dbC E od dO, coC E x a a2 a3 b d k pa y w, stC E a g, stC E a2 g2, stC E a3 g3, hhC E b hs hg nx ct, diC E d co re, grC E k so gw, prC E pa q F, sbO E y v ml n, baC E v cp t, moC E mb z g gs ar]) (cb := [moC E mb z g gs ar]) hx hb hml hown hts hK hZ hA (c_X6_undo l E _ mb z g gs ar (by omega)) l_L_314 rfl ⟨⟨rfl, rfl⟩, Nat.le_of_ble_eq_true rfl, Nat.le_of_ble_eq_true rfl⟩ 10 rfl [12] rfl (by decide) rfl hP hD hS hl.1 rfl (Nat.le_of_ble_eq_true rfl) dL_law_2470 ⟨by show (cells + 1) + 0 ≤ 603072; omega, by show (slots + 6) + 0 ≤ 7174250; omega⟩) hA hP hD hS (isC := [12]) rfl [0, 1, 2, 3, 4, 5, 6, 7, 8, 9, 10, 11] [0, 1, 2, 3, 4, 5, 6, 7, 8, 9, 10, 11, 12] (br := [loC E ol lo, dbC E od dO, coC E x a a2 a3 b d k pa y w, stC E a g, stC E a2 g2, stC E a3 g3, hhC E b hs hg nx ct, diC E d co re, grC E k so gw, prC E pa q F, sbO E y v ml n, baC E v cp t]) (bs2 := fun _ => [loC E ol lo, dbC E od dO, coC E x a a2 a3 b d k pa y w, stC E a g, stC E a2 g2, stC E a3 g3, hhC E b hs hg nx ct, diC E d co re, grC E k so gw, prC E pa q F, sbO E y v ml n, baC E v cp t, moC E mb (if z 1 = 0 then upn z 0 1 else upn (upn z 0 0) 1 (z 1 - 1)) (if z 1 = 0 then g else gs (3 + (z 1 - 1))) gs ar]) rfl (by decide) (fun _ => rfl) (by decide) (fun r u6 H locs hw6 hP hD hS => ?_)
    have hw6 : r = nI (z 1 - 1) := hw6
    subst hw6
    have h60 : z 1 = 0 := by omega
    rw [if_pos h60, if_pos h60] at hP hD
    have hP : va_P E.1 vwCl ([loC E ol lo, dbC E od dO, coC E x a a2 a3 b d k pa y w, stC E a g, stC E a2 g2, stC E a3 g3, hhC E b hs hg nx ct, diC E d co re, grC E k so gw, prC E pa q F, sbO E y v ml n, baC E v cp t, moC E mb (upn z 0 1) g gs ar] : List va_W).flatten H := hP
    have hD : va_D A ([loC E ol lo, dbC E od dO, coC E x a a2 a3 b d k pa y w, stC E a g, stC E a2 g2, stC E a3 g3, hhC E b hs hg nx ct, diC E d co re, grC E k so gw, prC E pa q F, sbO E y v ml n, baC E v cp t, moC E mb (upn z 0 1) g gs ar] : List va_W).flatten := hD
    refine lv_istore (lv' := [(7, .int (nI (z 1 - 1))), (6, .int (nI 1)), (0, .ref sb), (1, .ref (x 0)), (2, .ref (mb 0)), (3, .ref ol), (4, .ref od), (5, .int (nI i))]) hx hb dL_law_2473 hl (by decide) rfl (fun ls hl => ?_)
    refine lv_aload_n hx hb dL_law_2475 rfl (lv_at hl 4 rfl) ?_
    refine run_i (S := Unit) (run_V (As := []) (rest := []) (bs := [loC E ol lo, dbC E od dO, coC E x a a2 a3 b d k pa y w, stC E a g, stC E a2 g2, stC E a3 g3, hhC E b hs hg nx ct, diC E d co re, grC E k so gw, prC E pa q F, sbO E y v ml n, baC E v cp t, moC E mb (upn z 0 1) g gs ar]) (cb := [moC E mb (upn z 0 1) g gs ar]) hx hb hml hown hts hK hZ hA (c_X6_thrown l E _ mb (upn z 0 1) g gs ar) l_L_152 rfl ⟨⟨rfl, rfl⟩, Nat.le_of_ble_eq_true rfl, Nat.le_of_ble_eq_true rfl⟩ 10 rfl [12] rfl (by decide) rfl hP hD hS hl.1 rfl (Nat.le_of_ble_eq_true rfl) dL_law_2476 ⟨by show ((cells + 1) + 0) + 0 ≤ 603072; omega, by show ((slots + 6) + 0) + 0 ≤ 7174250; omega⟩) hA hP hD hS (isC := [12]) rfl [0, 1, 2, 3, 4, 5, 6, 7, 8, 9, 10, 11] [0, 1, 2, 3, 4, 5, 6, 7, 8, 9, 10, 11, 12] (br := [loC E ol lo, dbC E od dO, coC E x a a2 a3 b d k pa y w, stC E a g, stC E a2 g2, stC E a3 g3, hhC E b hs hg nx ct, diC E d co re, grC E k so gw, prC E pa q F, sbO E y v ml n, baC E v cp t]) (bs2 := fun _ => [loC E ol lo, dbC E od dO, coC E x a a2 a3 b d k pa y w, stC E a g, stC E a2 g2, stC E a3 g3, hhC E b hs hg nx ct, diC E d co re, grC E k so gw, prC E pa q F, sbO E y v ml n, baC E v cp t, moC E mb (upn z 0 1) g gs ar]) rfl (by decide) (fun _ => rfl) (by decide) (fun r u6 H locs hw6 hP hD hS => ?_)
    have hw6 : r = nI ((upn z 0 1) 0) := hw6
    subst hw6
    refine lv_iload hx hb dL_law_2479 (lv_at hl 1 rfl) ?_
    refine lv_icmp_eq (tgt := 2486) hx hb dL_law_2481 (by decide) (fun _ => ?_) (fun hc => absurd (show nI ((upn z 0 1) 0) = nI 1 from congrArg nI (upn_s)) hc)
    refine lv_iload hx hb dL_law_2486 (lv_at hl 1 rfl) ?_
    refine nv_if_ne (X := ((1 : Nat) : Int)) hx hb (nI_toInt (by omega)) (tgt := 2503) dL_law_2488 (by decide) (fun c_3 => ?_) (fun c_3 => ?_)
    · skip
      refine lv_goto (tgt := 2541) hx hb dL_law_2503 (by decide) ?_
      exact W_widen (by omega) (by omega) (kk w g g2 g3 hg nx ct co re so gw q F v ml n cp t (upn z 0 1) gs ar lo dO _ _ _ (rel_q hR hB4) hP hD hS (lv_sub hl [2, 3, 4, 5, 6, 7] rfl))
    · exact absurd c_3 (by omega)
set_option maxHeartbeats 4000000 in
set_option maxRecDepth 100000 in
theorem st_save {p : Program} {l : Launch} {e : Env} {s : State} {m : MethodId} {args : Array Value} {below : List Frame} {meth : Method} {c : Code} {E : EE} {A : Nat → Prop} {Q : State → Prop} {x a a2 a3 b d k pa y : Nat → Nat} {hs : Nat → Nat → Nat} {mb : Nat → Nat} {ol od sb : Nat} {i B cells slots L : Nat} {xs : Nat → Int32} (C : LCx p l s m args c E A sb L xs) (hL : L ≤ 2560) (hi : i + 5 ≤ L) (hB4 : B + 420 ≤ 300000) (hrc : cells + 13 ≤ 603072 ∧ slots + 414 ≤ 7174250) (kk : LGo p l e s m args below meth c E A Q x a a2 a3 b d k pa y hs mb ol od sb i (B + 420) (cells + 13) (slots + 414) 2541) : LGo p l e s m args below meth c E A Q x a a2 a3 b d k pa y hs mb ol od sb i B cells slots 2506 := by
  obtain ⟨hx, hb, hml, hown, hts, hK, hZ, hDD, hA, hX, hbl, hbA, hst⟩ := C
  intro w g g2 g3 hg nx ct co re so gw q F v ml n cp t z gs ar lo dO H locs ls hR hP hD hS hl
  obtain ⟨hI, ⟨hs1, hs2, hs3⟩, ⟨hnx, hct, hz1, hh9⟩, ⟨hw1, hw2, hz5, hz6⟩, ⟨hq1, hq2, hF0, hF9⟩, ⟨hn1, hn2, hcp, ht9, htx, ho2⟩⟩ := id hR
  have hmc := hI.mc
  refine lv_aload_n hx hb dL_law_2506 rfl (lv_at hl 1 rfl) ?_
  refine run_v (S := Unit) (run_V (As := []) (rest := []) (bs := [loC E ol lo, dbC E od dO, coC E x a a2 a3 b d k pa y w, stC E a g, stC E a2 g2, stC E a3 g3, hhC E b hs hg nx ct, diC E d co re, grC E k so gw, prC E pa q F, sbO E y v ml n, baC E v cp t, moC E mb z g gs ar]) (cb := [coC E x a a2 a3 b d k pa y w, stC E a g, stC E a2 g2]) hx hb hml hown hts hK hZ hA (c_X5_save l E _ x a a2 a3 b d k pa y w g g2) l_L_315 rfl ⟨⟨rfl, rfl⟩, Nat.le_of_ble_eq_true rfl, Nat.le_of_ble_eq_true rfl⟩ 9 rfl [2, 3, 4] rfl (by decide) rfl hP hD hS hl.1 rfl (Nat.le_of_ble_eq_true rfl) dL_law_2507 ⟨by show cells + 0 ≤ 603072; omega, by show slots + 0 ≤ 7174250; omega⟩) hA hP hD hS (isC := [2, 3, 4]) rfl [0, 1, 5, 6, 7, 8, 9, 10, 11, 12] [0, 1, 10, 11, 12, 2, 3, 4, 5, 6, 7, 8, 9] (br := [loC E ol lo, dbC E od dO, stC E a3 g3, hhC E b hs hg nx ct, diC E d co re, grC E k so gw, prC E pa q F, sbO E y v ml n, baC E v cp t, moC E mb z g gs ar]) (bs2 := fun _ => [loC E ol lo, dbC E od dO, coC E x a a2 a3 b d k pa y (upn w 0 1), stC E a g, stC E a2 g, stC E a3 g3, hhC E b hs hg nx ct, diC E d co re, grC E k so gw, prC E pa q F, sbO E y v ml n, baC E v cp t, moC E mb z g gs ar]) rfl (by decide) (fun _ => rfl) (by decide) (fun u5 H locs hw6 hP hD hS => ?_)
  refine lv_aload_n hx hb dL_law_2510 rfl (lv_at hl 2 rfl) ?_
  refine run_v (S := Unit) (run_V (As := []) (rest := []) (bs := [loC E ol lo, dbC E od dO, coC E x a a2 a3 b d k pa y (upn w 0 1), stC E a g, stC E a2 g, stC E a3 g3, hhC E b hs hg nx ct, diC E d co re, grC E k so gw, prC E pa q F, sbO E y v ml n, baC E v cp t, moC E mb z g gs ar]) (cb := [moC E mb z g gs ar]) hx hb hml hown hts hK hZ hA (c_X6_save l E _ mb z g gs ar) l_L_318 rfl ⟨⟨rfl, rfl⟩, Nat.le_of_ble_eq_true rfl, Nat.le_of_ble_eq_true rfl⟩ 10 rfl [12] rfl (by decide) rfl hP hD hS hl.1 rfl (Nat.le_of_ble_eq_true rfl) dL_law_2511 ⟨by show (cells + 0) + 0 ≤ 603072; omega, by show (slots + 0) + 0 ≤ 7174250; omega⟩) hA hP hD hS (isC := [12]) rfl [0, 1, 2, 3, 4, 5, 6, 7, 8, 9, 10, 11] [0, 1, 2, 3, 4, 5, 6, 7, 8, 9, 10, 11, 12] (br := [loC E ol lo, dbC E od dO, coC E x a a2 a3 b d k pa y (upn w 0 1), stC E a g, stC E a2 g, stC E a3 g3, hhC E b hs hg nx ct, diC E d co re, grC E k so gw, prC E pa q F, sbO E y v ml n, baC E v cp t]) (bs2 := fun _ => [loC E ol lo, dbC E od dO, coC E x a a2 a3 b d k pa y (upn w 0 1), stC E a g, stC E a2 g, stC E a3 g3, hhC E b hs hg nx ct, diC E d co re, grC E k so gw, prC E pa q F, sbO E y v ml n, baC E v cp t, moC E mb (upn (upn z 0 0) 2 1) g (upa gs 1 g) ar]) rfl (by decide) (fun _ => rfl) (by decide) (fun u6 H locs hw6 hP hD hS => ?_)
  refine lv_goto (tgt := 2541) hx hb dL_law_2514 (by decide) ?_
  exact W_widen (by omega) (by omega) (kk (upn w 0 1) g g g3 hg nx ct co re so gw q F v ml n cp t (upn (upn z 0 0) 2 1) (upa gs 1 g) ar lo dO _ _ _ (rel_s hR hB4) hP hD hS (lv_sub hl [0, 1, 2, 3, 4, 5] rfl))
set_option maxHeartbeats 4000000 in
set_option maxRecDepth 100000 in
theorem st_restore {p : Program} {l : Launch} {e : Env} {s : State} {m : MethodId} {args : Array Value} {below : List Frame} {meth : Method} {c : Code} {E : EE} {A : Nat → Prop} {Q : State → Prop} {x a a2 a3 b d k pa y : Nat → Nat} {hs : Nat → Nat → Nat} {mb : Nat → Nat} {ol od sb : Nat} {i B cells slots L : Nat} {xs : Nat → Int32} (C : LCx p l s m args c E A sb L xs) (hL : L ≤ 2560) (hi : i + 5 ≤ L) (hB4 : B + 420 ≤ 300000) (hrc : cells + 13 ≤ 603072 ∧ slots + 414 ≤ 7174250) (kk : LGo p l e s m args below meth c E A Q x a a2 a3 b d k pa y hs mb ol od sb i (B + 420) (cells + 13) (slots + 414) 2541) : LGo p l e s m args below meth c E A Q x a a2 a3 b d k pa y hs mb ol od sb i B cells slots 2517 := by
  obtain ⟨hx, hb, hml, hown, hts, hK, hZ, hDD, hA, hX, hbl, hbA, hst⟩ := C
  intro w g g2 g3 hg nx ct co re so gw q F v ml n cp t z gs ar lo dO H locs ls hR hP hD hS hl
  obtain ⟨hI, ⟨hs1, hs2, hs3⟩, ⟨hnx, hct, hz1, hh9⟩, ⟨hw1, hw2, hz5, hz6⟩, ⟨hq1, hq2, hF0, hF9⟩, ⟨hn1, hn2, hcp, ht9, htx, ho2⟩⟩ := id hR
  have hmc := hI.mc
  refine lv_aload_n hx hb dL_law_2517 rfl (lv_at hl 1 rfl) ?_
  refine run_i (S := (Unit) ⊕ Unit) (run_SW (As := [.ref (x 0)]) (rest := []) (bs := [loC E ol lo, dbC E od dO, coC E x a a2 a3 b d k pa y w, stC E a g, stC E a2 g2, stC E a3 g3, hhC E b hs hg nx ct, diC E d co re, grC E k so gw, prC E pa q F, sbO E y v ml n, baC E v cp t, moC E mb z g gs ar]) (cb := [coC E x a a2 a3 b d k pa y w, hhC E b hs hg nx ct, stC E a g, stC E a2 g2]) hx hb hml hown hts hK hZ hDD hA (c_L_restore l hst E _ x a a2 a3 b d k pa y w hs hg nx ct hnx hct g g2 hs2) l_L_319 rfl ⟨⟨rfl, rfl⟩, Nat.le_of_ble_eq_true rfl, Nat.le_of_ble_eq_true rfl⟩ [2, 6, 3, 4] rfl (by decide) hP hD hS hl.1 rfl (Nat.le_of_ble_eq_true rfl) dL_law_2518 ⟨by show cells + 1 ≤ 603072; omega, by show slots + 6 ≤ 7174250; omega⟩) hA hP hD hS (isC := [2, 6, 3, 4]) rfl [0, 1, 5, 7, 8, 9, 10, 11, 12] [0, 1, 9, 11, 12, 2, 10, 3, 4, 5, 6, 7, 8] (br := [loC E ol lo, dbC E od dO, stC E a3 g3, diC E d co re, grC E k so gw, prC E pa q F, sbO E y v ml n, baC E v cp t, moC E mb z g gs ar]) (bs2 := fun u => Sum.elim (fun (vq : Unit) => [loC E ol lo, dbC E od dO, coC E x a a2 a3 b d k pa y w, stC E a g2, stC E a2 g2, stC E a3 g3, hhC E b hs hg nx 0, diC E d co re, grC E k so gw, prC E pa q F, sbO E y v ml n, baC E v cp t, moC E mb z g gs ar]) (fun (vq : Unit) => [loC E ol lo, dbC E od dO, coC E x a a2 a3 b d k pa y w, stC E a g, stC E a2 g2, stC E a3 g3, hhC E b hs hg nx ct, diC E d co re, grC E k so gw, prC E pa q F, sbO E y v ml n, baC E v cp t, moC E mb z g gs ar]) u) rfl (by decide) (fun u => by rcases u with u | u <;> rfl) (by decide) (fun r u H locs hw hP hD hS => ?_)
  rcases u with vq | vq
  · skip
    have u9 := vq
    have hw7 : r = nI 0 ∧ w 0 ≠ 0 := hw
    clear hw
    obtain ⟨rfl, hw⟩ := hw7
    have hP : va_P E.1 vwCl ([loC E ol lo, dbC E od dO, coC E x a a2 a3 b d k pa y w, stC E a g2, stC E a2 g2, stC E a3 g3, hhC E b hs hg nx 0, diC E d co re, grC E k so gw, prC E pa q F, sbO E y v ml n, baC E v cp t, moC E mb z g gs ar] : List va_W).flatten H := hP
    have hD : va_D A ([loC E ol lo, dbC E od dO, coC E x a a2 a3 b d k pa y w, stC E a g2, stC E a2 g2, stC E a3 g3, hhC E b hs hg nx 0, diC E d co re, grC E k so gw, prC E pa q F, sbO E y v ml n, baC E v cp t, moC E mb z g gs ar] : List va_W).flatten := hD
    have hcnd := hw
    refine lv_istore (lv' := [(6, .int (nI 0)), (0, .ref sb), (1, .ref (x 0)), (2, .ref (mb 0)), (3, .ref ol), (4, .ref od), (5, .int (nI i))]) hx hb dL_law_2521 hl (by decide) rfl (fun ls hl => ?_)
    refine lv_aload_n hx hb dL_law_2523 rfl (lv_at hl 3 rfl) ?_
    refine run_v (S := Unit) (run_V (As := []) (rest := []) (bs := [loC E ol lo, dbC E od dO, coC E x a a2 a3 b d k pa y w, stC E a g2, stC E a2 g2, stC E a3 g3, hhC E b hs hg nx 0, diC E d co re, grC E k so gw, prC E pa q F, sbO E y v ml n, baC E v cp t, moC E mb z g gs ar]) (cb := [moC E mb z g gs ar]) hx hb hml hown hts hK hZ hA (c_X6_restore l E _ mb z g gs ar (by omega)) l_L_322 rfl ⟨⟨rfl, rfl⟩, Nat.le_of_ble_eq_true rfl, Nat.le_of_ble_eq_true rfl⟩ 10 rfl [12] rfl (by decide) rfl hP hD hS hl.1 rfl (Nat.le_of_ble_eq_true rfl) dL_law_2524 ⟨by show (cells + 1) + 0 ≤ 603072; omega, by show (slots + 6) + 0 ≤ 7174250; omega⟩) hA hP hD hS (isC := [12]) rfl [0, 1, 2, 3, 4, 5, 6, 7, 8, 9, 10, 11] [0, 1, 2, 3, 4, 5, 6, 7, 8, 9, 10, 11, 12] (br := [loC E ol lo, dbC E od dO, coC E x a a2 a3 b d k pa y w, stC E a g2, stC E a2 g2, stC E a3 g3, hhC E b hs hg nx 0, diC E d co re, grC E k so gw, prC E pa q F, sbO E y v ml n, baC E v cp t]) (bs2 := fun _ => [loC E ol lo, dbC E od dO, coC E x a a2 a3 b d k pa y w, stC E a g2, stC E a2 g2, stC E a3 g3, hhC E b hs hg nx 0, diC E d co re, grC E k so gw, prC E pa q F, sbO E y v ml n, baC E v cp t, moC E mb (if z 2 = 0 then upn z 0 1 else upn (upn z 0 0) 1 0) (if z 2 = 0 then g else gs 1) gs ar]) rfl (by decide) (fun _ => rfl) (by decide) (fun u6 H locs hw6 hP hD hS => ?_)
    have h60 : ¬ z 2 = 0 := by omega
    rw [if_neg h60, if_neg h60, (rel_r hR hB4 hcnd).1] at hP hD
    have hP : va_P E.1 vwCl ([loC E ol lo, dbC E od dO, coC E x a a2 a3 b d k pa y w, stC E a g2, stC E a2 g2, stC E a3 g3, hhC E b hs hg nx 0, diC E d co re, grC E k so gw, prC E pa q F, sbO E y v ml n, baC E v cp t, moC E mb (upn (upn z 0 0) 1 0) g2 gs ar] : List va_W).flatten H := hP
    have hD : va_D A ([loC E ol lo, dbC E od dO, coC E x a a2 a3 b d k pa y w, stC E a g2, stC E a2 g2, stC E a3 g3, hhC E b hs hg nx 0, diC E d co re, grC E k so gw, prC E pa q F, sbO E y v ml n, baC E v cp t, moC E mb (upn (upn z 0 0) 1 0) g2 gs ar] : List va_W).flatten := hD
    refine lv_aload_n hx hb dL_law_2527 rfl (lv_at hl 3 rfl) ?_
    refine run_i (S := Unit) (run_V (As := []) (rest := []) (bs := [loC E ol lo, dbC E od dO, coC E x a a2 a3 b d k pa y w, stC E a g2, stC E a2 g2, stC E a3 g3, hhC E b hs hg nx 0, diC E d co re, grC E k so gw, prC E pa q F, sbO E y v ml n, baC E v cp t, moC E mb (upn (upn z 0 0) 1 0) g2 gs ar]) (cb := [moC E mb (upn (upn z 0 0) 1 0) g2 gs ar]) hx hb hml hown hts hK hZ hA (c_X6_thrown l E _ mb (upn (upn z 0 0) 1 0) g2 gs ar) l_L_152 rfl ⟨⟨rfl, rfl⟩, Nat.le_of_ble_eq_true rfl, Nat.le_of_ble_eq_true rfl⟩ 10 rfl [12] rfl (by decide) rfl hP hD hS hl.1 rfl (Nat.le_of_ble_eq_true rfl) dL_law_2528 ⟨by show ((cells + 1) + 0) + 0 ≤ 603072; omega, by show ((slots + 6) + 0) + 0 ≤ 7174250; omega⟩) hA hP hD hS (isC := [12]) rfl [0, 1, 2, 3, 4, 5, 6, 7, 8, 9, 10, 11] [0, 1, 2, 3, 4, 5, 6, 7, 8, 9, 10, 11, 12] (br := [loC E ol lo, dbC E od dO, coC E x a a2 a3 b d k pa y w, stC E a g2, stC E a2 g2, stC E a3 g3, hhC E b hs hg nx 0, diC E d co re, grC E k so gw, prC E pa q F, sbO E y v ml n, baC E v cp t]) (bs2 := fun _ => [loC E ol lo, dbC E od dO, coC E x a a2 a3 b d k pa y w, stC E a g2, stC E a2 g2, stC E a3 g3, hhC E b hs hg nx 0, diC E d co re, grC E k so gw, prC E pa q F, sbO E y v ml n, baC E v cp t, moC E mb (upn (upn z 0 0) 1 0) g2 gs ar]) rfl (by decide) (fun _ => rfl) (by decide) (fun r u6 H locs hw6 hP hD hS => ?_)
    have hw6 : r = nI ((upn (upn z 0 0) 1 0) 0) := hw6
    subst hw6
    refine lv_iload hx hb dL_law_2531 (lv_at hl 0 rfl) ?_
    refine lv_icmp_eq (tgt := 2538) hx hb dL_law_2533 (by decide) (fun _ => ?_) (fun hc => absurd (show nI ((upn (upn z 0 0) 1 0) 0) = nI 0 from congrArg nI ((upn_n (by decide)).trans upn_s)) hc)
    refine lv_goto (tgt := 2541) hx hb dL_law_2538 (by decide) ?_
    exact W_widen (by omega) (by omega) (kk w g2 g2 g3 hg nx 0 co re so gw q F v ml n cp t (upn (upn z 0 0) 1 0) gs ar lo dO _ _ _ ((rel_r hR hB4 hcnd).2) hP hD hS (lv_sub hl [1, 2, 3, 4, 5, 6] rfl))
  · skip
    have hw : r = nI 1 ∧ w 0 = 0 := hw
    have hP : va_P E.1 vwCl ([loC E ol lo, dbC E od dO, coC E x a a2 a3 b d k pa y w, stC E a g, stC E a2 g2, stC E a3 g3, hhC E b hs hg nx ct, diC E d co re, grC E k so gw, prC E pa q F, sbO E y v ml n, baC E v cp t, moC E mb z g gs ar] : List va_W).flatten H := hP
    have hD : va_D A ([loC E ol lo, dbC E od dO, coC E x a a2 a3 b d k pa y w, stC E a g, stC E a2 g2, stC E a3 g3, hhC E b hs hg nx ct, diC E d co re, grC E k so gw, prC E pa q F, sbO E y v ml n, baC E v cp t, moC E mb z g gs ar] : List va_W).flatten := hD
    obtain ⟨rfl, hq⟩ := hw
    refine lv_istore (lv' := [(6, .int (nI 1)), (0, .ref sb), (1, .ref (x 0)), (2, .ref (mb 0)), (3, .ref ol), (4, .ref od), (5, .int (nI i))]) hx hb dL_law_2521 hl (by decide) rfl (fun ls hl => ?_)
    refine lv_aload_n hx hb dL_law_2523 rfl (lv_at hl 3 rfl) ?_
    refine run_v (S := Unit) (run_V (As := []) (rest := []) (bs := [loC E ol lo, dbC E od dO, coC E x a a2 a3 b d k pa y w, stC E a g, stC E a2 g2, stC E a3 g3, hhC E b hs hg nx ct, diC E d co re, grC E k so gw, prC E pa q F, sbO E y v ml n, baC E v cp t, moC E mb z g gs ar]) (cb := [moC E mb z g gs ar]) hx hb hml hown hts hK hZ hA (c_X6_restore l E _ mb z g gs ar (by omega)) l_L_322 rfl ⟨⟨rfl, rfl⟩, Nat.le_of_ble_eq_true rfl, Nat.le_of_ble_eq_true rfl⟩ 10 rfl [12] rfl (by decide) rfl hP hD hS hl.1 rfl (Nat.le_of_ble_eq_true rfl) dL_law_2524 ⟨by show (cells + 1) + 0 ≤ 603072; omega, by show (slots + 6) + 0 ≤ 7174250; omega⟩) hA hP hD hS (isC := [12]) rfl [0, 1, 2, 3, 4, 5, 6, 7, 8, 9, 10, 11] [0, 1, 2, 3, 4, 5, 6, 7, 8, 9, 10, 11, 12] (br := [loC E ol lo, dbC E od dO, coC E x a a2 a3 b d k pa y w, stC E a g, stC E a2 g2, stC E a3 g3, hhC E b hs hg nx ct, diC E d co re, grC E k so gw, prC E pa q F, sbO E y v ml n, baC E v cp t]) (bs2 := fun _ => [loC E ol lo, dbC E od dO, coC E x a a2 a3 b d k pa y w, stC E a g, stC E a2 g2, stC E a3 g3, hhC E b hs hg nx ct, diC E d co re, grC E k so gw, prC E pa q F, sbO E y v ml n, baC E v cp t, moC E mb (if z 2 = 0 then upn z 0 1 else upn (upn z 0 0) 1 0) (if z 2 = 0 then g else gs 1) gs ar]) rfl (by decide) (fun _ => rfl) (by decide) (fun u6 H locs hw6 hP hD hS => ?_)
    have h60 : z 2 = 0 := by omega
    rw [if_pos h60, if_pos h60] at hP hD
    have hP : va_P E.1 vwCl ([loC E ol lo, dbC E od dO, coC E x a a2 a3 b d k pa y w, stC E a g, stC E a2 g2, stC E a3 g3, hhC E b hs hg nx ct, diC E d co re, grC E k so gw, prC E pa q F, sbO E y v ml n, baC E v cp t, moC E mb (upn z 0 1) g gs ar] : List va_W).flatten H := hP
    have hD : va_D A ([loC E ol lo, dbC E od dO, coC E x a a2 a3 b d k pa y w, stC E a g, stC E a2 g2, stC E a3 g3, hhC E b hs hg nx ct, diC E d co re, grC E k so gw, prC E pa q F, sbO E y v ml n, baC E v cp t, moC E mb (upn z 0 1) g gs ar] : List va_W).flatten := hD
    refine lv_aload_n hx hb dL_law_2527 rfl (lv_at hl 3 rfl) ?_
    refine run_i (S := Unit) (run_V (As := []) (rest := []) (bs := [loC E ol lo, dbC E od dO, coC E x a a2 a3 b d k pa y w, stC E a g, stC E a2 g2, stC E a3 g3, hhC E b hs hg nx ct, diC E d co re, grC E k so gw, prC E pa q F, sbO E y v ml n, baC E v cp t, moC E mb (upn z 0 1) g gs ar]) (cb := [moC E mb (upn z 0 1) g gs ar]) hx hb hml hown hts hK hZ hA (c_X6_thrown l E _ mb (upn z 0 1) g gs ar) l_L_152 rfl ⟨⟨rfl, rfl⟩, Nat.le_of_ble_eq_true rfl, Nat.le_of_ble_eq_true rfl⟩ 10 rfl [12] rfl (by decide) rfl hP hD hS hl.1 rfl (Nat.le_of_ble_eq_true rfl) dL_law_2528 ⟨by show ((cells + 1) + 0) + 0 ≤ 603072; omega, by show ((slots + 6) + 0) + 0 ≤ 7174250; omega⟩) hA hP hD hS (isC := [12]) rfl [0, 1, 2, 3, 4, 5, 6, 7, 8, 9, 10, 11] [0, 1, 2, 3, 4, 5, 6, 7, 8, 9, 10, 11, 12] (br := [loC E ol lo, dbC E od dO, coC E x a a2 a3 b d k pa y w, stC E a g, stC E a2 g2, stC E a3 g3, hhC E b hs hg nx ct, diC E d co re, grC E k so gw, prC E pa q F, sbO E y v ml n, baC E v cp t]) (bs2 := fun _ => [loC E ol lo, dbC E od dO, coC E x a a2 a3 b d k pa y w, stC E a g, stC E a2 g2, stC E a3 g3, hhC E b hs hg nx ct, diC E d co re, grC E k so gw, prC E pa q F, sbO E y v ml n, baC E v cp t, moC E mb (upn z 0 1) g gs ar]) rfl (by decide) (fun _ => rfl) (by decide) (fun r u6 H locs hw6 hP hD hS => ?_)
    have hw6 : r = nI ((upn z 0 1) 0) := hw6
    subst hw6
    refine lv_iload hx hb dL_law_2531 (lv_at hl 0 rfl) ?_
    refine lv_icmp_eq (tgt := 2538) hx hb dL_law_2533 (by decide) (fun _ => ?_) (fun hc => absurd (show nI ((upn z 0 1) 0) = nI 1 from congrArg nI (upn_s)) hc)
    refine lv_goto (tgt := 2541) hx hb dL_law_2538 (by decide) ?_
    exact W_widen (by omega) (by omega) (kk w g g2 g3 hg nx ct co re so gw q F v ml n cp t (upn z 0 1) gs ar lo dO _ _ _ (rel_q hR hB4) hP hD hS (lv_sub hl [1, 2, 3, 4, 5, 6] rfl))
