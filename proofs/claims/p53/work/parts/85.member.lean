abbrev rm_L_isMember : Room := { frames := 9, cells := 170, slots := 1440, locals := 251 }
set_option maxHeartbeats 8000000 in
set_option maxRecDepth 100000 in
theorem c_L_isMember (l : Launch) (hst : l.stackTraces = false) (E : EE) (sz : Nat) (X hs : Nat → Nat → Nat) (w : Nat → Nat) (g g2 : GG) (B : Nat) (hI : IB B g) (hg : Nat → GG) (nx ct : Nat) (hnx : nx < 8) (hct : ct ≤ 8) (j : JT) (hj : JV j) (m0 : Nat) (hm0 : m0 < g 8 0) : MIx l yL_isMember cL_isMember 11 .boolean rm_L_isMember [.ref (X 0 0), .int (nI m0), .int (nI (allSh g))] E sz (OB E X hs w g g2 hg nx ct j) (fun (r : Int32) (u : JT) => r = nI 1 ∧ JV u) (fun u => OB E X hs w g g2 hg nx ct u) 170 1440 := by
  refine mi_gox (by decide) (Nat.le_of_ble_eq_true rfl) ?_
  intro p e s m below meth c A Q ls hx hb hml hown hts hK hZ hDD hA hsz hP hD hl hret
  have hS : va_S A s.heap s.heap [] := va_S.rf
  have hl : lv_has ls 11 [(0, .ref (X 0 0)), (1, .int (nI m0)), (2, .int (nI (allSh g)))] := hl
  have hmc := hI.mc
  have hbm := hI.mem hm0
  have hz : 0 < g 8 0 := by omega
  have hpwm := powN_le hI m0
  have hT := allSh_pos hI hz
  have hA4 := all_le hI
  have hbud := hI.bud
  have hpu := hI.pu (m := m0) (by omega)
  have hdq := dq_le9 hI hm0
  have hdv := dv_q (g := g) m0
  have hhf := powN_half hm0
  have h128 : 2 ^ (g 8 0 - 1) ≤ 2 ^ 7 := Nat.pow_le_pow_right (by decide) (by omega)
  have hpp := powN_pos hI hz
  have hpsn := powN_sum hI (g 8 0)
  have hdu := bt_due hI hm0
  have hln := ln_le (g := g) (m := m0)
  have hln2 : lnG g m0 ≤ 41 := memL_len
  have hmulb : g 8 2 * g 0 m0 ≤ 300000 * 50 := Nat.mul_le_mul (by omega) hbm.1.2
  have hpmm := hpwm
  refine lv_aload_n hx hb dL_isMember_0 rfl (lv_at hl 0 rfl) ?_
  refine run_i (S := Unit) (run_V (As := []) (rest := []) (bs := OB E X hs w g g2 hg nx ct j) (cb := [coC E (X 0) (X 1) (X 2) (X 3) (X 4) (X 5) (X 6) (X 7) (X 8) w, stC E (X 1) g]) hx hb hml hown hts hK hZ hA (c_X5_memberCount l E _ (X 0) (X 1) (X 2) (X 3) (X 4) (X 5) (X 6) (X 7) (X 8) w g B hI) l_L_180 rfl ⟨⟨rfl, rfl⟩, Nat.le_of_ble_eq_true rfl, Nat.le_of_ble_eq_true rfl⟩ 9 rfl [0, 1] rfl (by decide) rfl hP hD hS hl.1 rfl (Nat.le_of_ble_eq_true rfl) dL_isMember_1 ⟨by show 0 + 0 ≤ 170; omega, by show 0 + 0 ≤ 1440; omega⟩) hA hP hD hS (isC := [0, 1]) rfl [2, 3, 4, 5, 6, 7, 8, 9] [8, 9, 0, 1, 2, 3, 4, 5, 6, 7] (br := [stC E (X 2) g2, stC E (X 3) j.1, hhC E (X 4) hs hg nx ct, diC E (X 5) j.2.1 j.2.2.1, grC E (X 6) j.2.2.2.1 j.2.2.2.2.1, prC E (X 7) j.2.2.2.2.2.1 j.2.2.2.2.2.2.1, sbO E (X 8) j.2.2.2.2.2.2.2.1 j.2.2.2.2.2.2.2.2.1 j.2.2.2.2.2.2.2.2.2.1, baC E j.2.2.2.2.2.2.2.1 j.2.2.2.2.2.2.2.2.2.2.1 j.2.2.2.2.2.2.2.2.2.2.2]) (bs2 := fun _ => OB E X hs w g g2 hg nx ct j) rfl (by decide) (fun _ => rfl) (by decide) (fun r u H locs hw hP hD hS => ?_)
  subst hw
  refine lv_istore_n (lv' := [(3, .int (nI (g 8 0))), (0, .ref (X 0 0)), (1, .int (nI m0)), (2, .int (nI (allSh g)))]) hx hb dL_isMember_4 rfl hl (by decide) rfl (fun ls hl => ?_)
  refine lv_aload_n hx hb dL_isMember_5 rfl (lv_at hl 1 rfl) ?_
  refine lv_iload_n hx hb dL_isMember_6 rfl (lv_at hl 2 rfl) ?_
  refine run_l (S := JT) (run_SX (As := [.ref (X 0 0), .int (nI m0)]) (rest := []) (bs := OB E X hs w g g2 hg nx ct j) (cb := OB E X hs w g g2 hg nx ct j) hx hb hml hown hts hK hZ hDD hA (c_L_dueBeats l hst E _ X hs w g g2 B hI hg nx ct hnx hct j hj (nI m0)) l_L_291 rfl ⟨⟨rfl, rfl⟩, Nat.le_of_ble_eq_true rfl, Nat.le_of_ble_eq_true rfl⟩ [0, 1, 2, 3, 4, 5, 6, 7, 8, 9] rfl (by decide) hP hD hS hl.1 rfl (Nat.le_of_ble_eq_true rfl) dL_isMember_7 ⟨by show 0 + 1 ≤ 170; omega, by show 0 + 6 ≤ 1440; omega⟩) hA hP hD hS (isC := [0, 1, 2, 3, 4, 5, 6, 7, 8, 9]) rfl [] [0, 1, 2, 3, 4, 5, 6, 7, 8, 9] (br := []) (bs2 := fun u => OB E X hs w g g2 hg nx ct u) rfl (by decide) (fun _ => rfl) (by decide) (fun r j_1 H locs hw hP hD hS => ?_)
  obtain ⟨hw, hj_2⟩ := hw
  subst hw
  refine tp_l (wl_in hmc (by omega)) ?_
  refine lv_lstore (lv' := [(4, .long (lN (dlk g m0 60))), (3, .int (nI (g 8 0))), (0, .ref (X 0 0)), (1, .int (nI m0)), (2, .int (nI (allSh g)))]) hx hb dL_isMember_10 hl (by decide) rfl (fun ls hl => ?_)
  refine lv_iconst (v := nI 0) hx hb dL_isMember_12 (by decide) ?_
  refine lv_istore (lv' := [(6, .int (nI 0)), (4, .long (lN (dlk g m0 60))), (3, .int (nI (g 8 0))), (0, .ref (X 0 0)), (1, .int (nI m0)), (2, .int (nI (allSh g)))]) hx hb dL_isMember_13 hl (by decide) rfl (fun ls hl => ?_)
  refine lv_iconst (v := nI 0) hx hb dL_isMember_15 (by decide) ?_
  refine lv_istore (lv' := [(7, .int (nI 0)), (6, .int (nI 0)), (4, .long (lN (dlk g m0 60))), (3, .int (nI (g 8 0))), (0, .ref (X 0 0)), (1, .int (nI m0)), (2, .int (nI (allSh g)))]) hx hb dL_isMember_16 hl (by decide) rfl (fun ls hl => ?_)
  have loop18 : ∀ (n : Nat) (i : Nat) (j1 : JT), (i ≤ g 8 0) → (JV j1) → g 8 0 - i < n → ∀ (H : Heap) (locs : List Loc) (ls : Array Slot), va_P E.1 vwCl (OB E X hs w g g2 hg nx ct j1 : List va_W).flatten H → va_D A (OB E X hs w g g2 hg nx ct j1 : List va_W).flatten → va_S A s.heap H locs → lv_has ls 11 [(0, .ref (X 0 0)), (1, .int (nI m0)), (2, .int (nI (allSh g))), (3, .int (nI (g 8 0))), (4, .long (lN (dlk g m0 60))), (6, .int (nI (sm (powN g) i))), (7, .int (nI i))] → W p l e rm_L_isMember s m ([.ref (X 0 0), .int (nI m0), .int (nI (allSh g))] : List Value).toArray below meth c H locs ((0 + 1) + 16 * i) ((0 + 6) + 96 * i) Q (F0 m 18 ls []) := by
    intro n18
    induction n18 with
    | zero => intro i j1 hi hj1 hn18; exact absurd hn18 (Nat.not_lt_zero _)
    | succ n18 ih18 =>
      intro i j1 hi hj1 hn18 H locs ls hP hD hS hl
      refine lv_iload hx hb dL_isMember_18 (lv_at hl 6 rfl) ?_
      refine lv_iload_n hx hb dL_isMember_20 rfl (lv_at hl 3 rfl) ?_
      refine nv_icmp_ge (X := ((i : Nat) : Int)) (Y := ((g 8 0 : Nat) : Int)) hx hb (nI_toInt (by omega)) (nI_toInt (by omega)) (tgt := 158) dL_isMember_21 (by decide) (fun c_3 => ?_) (fun c_3 => ?_)
      · skip
        have hl : lv_has ls 11 [(0, .ref (X 0 0)), (1, .int (nI m0)), (2, .int (nI (allSh g))), (3, .int (nI (g 8 0))), (4, .long (lN (dlk g m0 60))), (6, .int (nI (sm (powN g) (g 8 0)))), (7, .int (nI i))] := by rw [show sm (powN g) (g 8 0) = sm (powN g) i from by rw [show i = g 8 0 by omega]]; exact hl
        refine lv_aload_n hx hb dL_isMember_158 rfl (lv_at hl 0 rfl) ?_
        refine run_i (S := Unit) (run_V (As := []) (rest := []) (bs := OB E X hs w g g2 hg nx ct j1) (cb := [coC E (X 0) (X 1) (X 2) (X 3) (X 4) (X 5) (X 6) (X 7) (X 8) w, stC E (X 1) g]) hx hb hml hown hts hK hZ hA (c_X5_surplus l E _ (X 0) (X 1) (X 2) (X 3) (X 4) (X 5) (X 6) (X 7) (X 8) w g B hI) l_L_197 rfl ⟨⟨rfl, rfl⟩, Nat.le_of_ble_eq_true rfl, Nat.le_of_ble_eq_true rfl⟩ 9 rfl [0, 1] rfl (by decide) rfl hP hD hS hl.1 rfl (Nat.le_of_ble_eq_true rfl) dL_isMember_159 ⟨by show ((0 + 1) + 16 * i) + 0 ≤ 170; omega, by show ((0 + 6) + 96 * i) + 0 ≤ 1440; omega⟩) hA hP hD hS (isC := [0, 1]) rfl [2, 3, 4, 5, 6, 7, 8, 9] [8, 9, 0, 1, 2, 3, 4, 5, 6, 7] (br := [stC E (X 2) g2, stC E (X 3) j1.1, hhC E (X 4) hs hg nx ct, diC E (X 5) j1.2.1 j1.2.2.1, grC E (X 6) j1.2.2.2.1 j1.2.2.2.2.1, prC E (X 7) j1.2.2.2.2.2.1 j1.2.2.2.2.2.2.1, sbO E (X 8) j1.2.2.2.2.2.2.2.1 j1.2.2.2.2.2.2.2.2.1 j1.2.2.2.2.2.2.2.2.2.1, baC E j1.2.2.2.2.2.2.2.1 j1.2.2.2.2.2.2.2.2.2.2.1 j1.2.2.2.2.2.2.2.2.2.2.2]) (bs2 := fun _ => OB E X hs w g g2 hg nx ct j1) rfl (by decide) (fun _ => rfl) (by decide) (fun r u H locs hw hP hD hS => ?_)
        subst hw
        refine lv_i2l hx hb dL_isMember_162 rfl ?_
        refine lv_aload_n hx hb dL_isMember_163 rfl (lv_at hl 0 rfl) ?_
        refine lv_iload_n hx hb dL_isMember_164 rfl (lv_at hl 1 rfl) ?_
        refine run_i (S := JT) (run_SX (As := [.ref (X 0 0), .int (nI m0)]) (rest := [.long ((nI (g 8 2)).toInt64)]) (bs := OB E X hs w g g2 hg nx ct j1) (cb := OB E X hs w g g2 hg nx ct j1) hx hb hml hown hts hK hZ hDD hA (c_L_shares l hst E _ X hs w g g2 B hI hg nx ct hnx hct j1 hj1 (nI m0)) l_L_209 rfl ⟨⟨rfl, rfl⟩, Nat.le_of_ble_eq_true rfl, Nat.le_of_ble_eq_true rfl⟩ [0, 1, 2, 3, 4, 5, 6, 7, 8, 9] rfl (by decide) hP hD hS hl.1 rfl (Nat.le_of_ble_eq_true rfl) dL_isMember_165 ⟨by show ((0 + 1) + 16 * i) + 1 ≤ 170; omega, by show ((0 + 6) + 96 * i) + 6 ≤ 1440; omega⟩) hA hP hD hS (isC := [0, 1, 2, 3, 4, 5, 6, 7, 8, 9]) rfl [] [0, 1, 2, 3, 4, 5, 6, 7, 8, 9] (br := []) (bs2 := fun u => OB E X hs w g g2 hg nx ct u) rfl (by decide) (fun _ => rfl) (by decide) (fun r j_4 H locs hw hP hD hS => ?_)
        obtain ⟨hw, hj_5⟩ := hw
        subst hw
        refine tp_i (wf_in hmc (by omega)) ?_
        refine lv_i2l hx hb dL_isMember_168 rfl ?_
        refine lv_lmul hx hb dL_isMember_169 ?_
        refine lv_iload_n hx hb dL_isMember_170 rfl (lv_at hl 2 rfl) ?_
        refine lv_i2l hx hb dL_isMember_171 rfl ?_
        refine lv_ldiv hx hb dL_isMember_172 (l0_ne (by omega) (by omega)) ?_
        refine lv_l2i hx hb dL_isMember_173 (v := nI (dq g m0)) (by rw [lmul_n (Nat.lt_of_le_of_lt hmulb (by decide)) (by omega) (by omega), ldiv_n (Nat.lt_of_le_of_lt hmulb (by decide)) (by omega)]; exact l2i_n (Nat.lt_of_le_of_lt hdq (by decide))) ?_
        refine lv_istore (lv' := [(7, .int (nI (dq g m0))), (0, .ref (X 0 0)), (1, .int (nI m0)), (2, .int (nI (allSh g))), (3, .int (nI (g 8 0))), (4, .long (lN (dlk g m0 60))), (6, .int (nI (sm (powN g) (g 8 0))))]) hx hb dL_isMember_174 hl (by decide) rfl (fun ls hl => ?_)
        refine lv_aload_n hx hb dL_isMember_176 rfl (lv_at hl 1 rfl) ?_
        refine lv_iload_n hx hb dL_isMember_177 rfl (lv_at hl 2 rfl) ?_
        refine run_i (S := JT) (run_SX (As := [.ref (X 0 0), .int (nI m0)]) (rest := []) (bs := OB E X hs w g g2 hg nx ct j_4) (cb := OB E X hs w g g2 hg nx ct j_4) hx hb hml hown hts hK hZ hDD hA (c_L_dividend l hst E _ X hs w g g2 B hI hg nx ct hnx hct j_4 hj_5 (nI m0)) l_L_205 rfl ⟨⟨rfl, rfl⟩, Nat.le_of_ble_eq_true rfl, Nat.le_of_ble_eq_true rfl⟩ [0, 1, 2, 3, 4, 5, 6, 7, 8, 9] rfl (by decide) hP hD hS hl.1 rfl (Nat.le_of_ble_eq_true rfl) dL_isMember_178 ⟨by show (((0 + 1) + 16 * i) + 1) + 1 ≤ 170; omega, by show (((0 + 6) + 96 * i) + 6) + 6 ≤ 1440; omega⟩) hA hP hD hS (isC := [0, 1, 2, 3, 4, 5, 6, 7, 8, 9]) rfl [] [0, 1, 2, 3, 4, 5, 6, 7, 8, 9] (br := []) (bs2 := fun u => OB E X hs w g g2 hg nx ct u) rfl (by decide) (fun _ => rfl) (by decide) (fun r j_6 H locs hw hP hD hS => ?_)
        obtain ⟨hw, hj_7⟩ := hw
        subst hw
        refine tp_i (wf_in hmc (by omega)) ?_
        refine lv_aload_n hx hb dL_isMember_181 rfl (lv_at hl 1 rfl) ?_
        refine lv_iload_n hx hb dL_isMember_182 rfl (lv_at hl 2 rfl) ?_
        refine run_i (S := JT) (run_SX (As := [.ref (X 0 0), .int (nI m0)]) (rest := [.int (nI (dv g m0))]) (bs := OB E X hs w g g2 hg nx ct j_6) (cb := OB E X hs w g g2 hg nx ct j_6) hx hb hml hown hts hK hZ hDD hA (c_L_dividendByCounting l hst E _ X hs w g g2 B hI hg nx ct hnx hct j_6 hj_7 (nI m0)) l_L_306 rfl ⟨⟨rfl, rfl⟩, Nat.le_of_ble_eq_true rfl, Nat.le_of_ble_eq_true rfl⟩ [0, 1, 2, 3, 4, 5, 6, 7, 8, 9] rfl (by decide) hP hD hS hl.1 rfl (Nat.le_of_ble_eq_true rfl) dL_isMember_183 ⟨by show ((((0 + 1) + 16 * i) + 1) + 1) + 1 ≤ 170; omega, by show ((((0 + 6) + 96 * i) + 6) + 6) + 6 ≤ 1440; omega⟩) hA hP hD hS (isC := [0, 1, 2, 3, 4, 5, 6, 7, 8, 9]) rfl [] [0, 1, 2, 3, 4, 5, 6, 7, 8, 9] (br := []) (bs2 := fun u => OB E X hs w g g2 hg nx ct u) rfl (by decide) (fun _ => rfl) (by decide) (fun r j_8 H locs hw hP hD hS => ?_)
        obtain ⟨hw, hj_9⟩ := hw
        subst hw
        refine tp_i (wf_in hmc (by omega)) ?_
        refine nv_icmp_ne (X := ((dv g m0 : Nat) : Int)) (Y := ((dv g m0 : Nat) : Int)) hx hb (nI_toInt (by omega)) (nI_toInt (by omega)) (tgt := 215) dL_isMember_186 (by decide) (fun c_10 => ?_) (fun c_10 => ?_)
        · exact absurd c_10 (by omega)
        · skip
          refine lv_aload_n hx hb dL_isMember_189 rfl (lv_at hl 1 rfl) ?_
          refine lv_iload_n hx hb dL_isMember_190 rfl (lv_at hl 2 rfl) ?_
          refine run_i (S := JT) (run_SX (As := [.ref (X 0 0), .int (nI m0)]) (rest := []) (bs := OB E X hs w g g2 hg nx ct j_8) (cb := OB E X hs w g g2 hg nx ct j_8) hx hb hml hown hts hK hZ hDD hA (c_L_dividend l hst E _ X hs w g g2 B hI hg nx ct hnx hct j_8 hj_9 (nI m0)) l_L_205 rfl ⟨⟨rfl, rfl⟩, Nat.le_of_ble_eq_true rfl, Nat.le_of_ble_eq_true rfl⟩ [0, 1, 2, 3, 4, 5, 6, 7, 8, 9] rfl (by decide) hP hD hS hl.1 rfl (Nat.le_of_ble_eq_true rfl) dL_isMember_191 ⟨by show (((((0 + 1) + 16 * i) + 1) + 1) + 1) + 1 ≤ 170; omega, by show (((((0 + 6) + 96 * i) + 6) + 6) + 6) + 6 ≤ 1440; omega⟩) hA hP hD hS (isC := [0, 1, 2, 3, 4, 5, 6, 7, 8, 9]) rfl [] [0, 1, 2, 3, 4, 5, 6, 7, 8, 9] (br := []) (bs2 := fun u => OB E X hs w g g2 hg nx ct u) rfl (by decide) (fun _ => rfl) (by decide) (fun r j_11 H locs hw hP hD hS => ?_)
          obtain ⟨hw, hj_12⟩ := hw
          subst hw
          refine tp_i (wf_in hmc (by omega)) ?_
          refine lv_iload hx hb dL_isMember_194 (lv_at hl 0 rfl) ?_
          refine nv_icmp_eq (X := ((dv g m0 : Nat) : Int)) (Y := ((dq g m0 : Nat) : Int)) hx hb (nI_toInt (by omega)) (nI_toInt (by omega)) (tgt := 211) dL_isMember_196 (by decide) (fun c_13 => ?_) (fun c_13 => ?_)
          · skip
            refine lv_iconst (v := nI 1) hx hb dL_isMember_211 (by decide) ?_
            refine lv_goto (tgt := 216) hx hb dL_isMember_212 (by decide) ?_
            refine lv_istore (lv' := [(8, .int (nI 1)), (7, .int (nI (dq g m0))), (0, .ref (X 0 0)), (1, .int (nI m0)), (2, .int (nI (allSh g))), (3, .int (nI (g 8 0))), (4, .long (lN (dlk g m0 60))), (6, .int (nI (sm (powN g) (g 8 0))))]) hx hb dL_isMember_216 hl (by decide) rfl (fun ls hl => ?_)
            refine lv_aload_n hx hb dL_isMember_218 rfl (lv_at hl 2 rfl) ?_
            refine lv_iload_n hx hb dL_isMember_219 rfl (lv_at hl 3 rfl) ?_
            refine run_i (S := JT) (run_SX (As := [.ref (X 0 0), .int (nI m0)]) (rest := []) (bs := OB E X hs w g g2 hg nx ct j_11) (cb := OB E X hs w g g2 hg nx ct j_11) hx hb hml hown hts hK hZ hDD hA (c_L_powerByTable l hst E _ X hs w g g2 B hI hg nx ct hnx hct j_11 hj_12 (nI m0)) l_L_308 rfl ⟨⟨rfl, rfl⟩, Nat.le_of_ble_eq_true rfl, Nat.le_of_ble_eq_true rfl⟩ [0, 1, 2, 3, 4, 5, 6, 7, 8, 9] rfl (by decide) hP hD hS hl.1 rfl (Nat.le_of_ble_eq_true rfl) dL_isMember_220 ⟨by show ((((((0 + 1) + 16 * i) + 1) + 1) + 1) + 1) + 1 ≤ 170; omega, by show ((((((0 + 6) + 96 * i) + 6) + 6) + 6) + 6) + 6 ≤ 1440; omega⟩) hA hP hD hS (isC := [0, 1, 2, 3, 4, 5, 6, 7, 8, 9]) rfl [] [0, 1, 2, 3, 4, 5, 6, 7, 8, 9] (br := []) (bs2 := fun u => OB E X hs w g g2 hg nx ct u) rfl (by decide) (fun _ => rfl) (by decide) (fun r j_14 H locs hw hP hD hS => ?_)
            obtain ⟨hw, hj_15⟩ := hw
            subst hw
            refine tp_i (wf_in hmc (by omega)) ?_
            refine lv_aload_n hx hb dL_isMember_223 rfl (lv_at hl 2 rfl) ?_
            refine lv_iload_n hx hb dL_isMember_224 rfl (lv_at hl 3 rfl) ?_
            refine run_i (S := JT) (run_SX (As := [.ref (X 0 0), .int (nI m0)]) (rest := [.int (nI (powN g m0))]) (bs := OB E X hs w g g2 hg nx ct j_14) (cb := OB E X hs w g g2 hg nx ct j_14) hx hb hml hown hts hK hZ hDD hA (c_L_power l hst E _ X hs w g g2 B hI hg nx ct hnx hct j_14 hj_15 (nI m0)) l_L_296 rfl ⟨⟨rfl, rfl⟩, Nat.le_of_ble_eq_true rfl, Nat.le_of_ble_eq_true rfl⟩ [0, 1, 2, 3, 4, 5, 6, 7, 8, 9] rfl (by decide) hP hD hS hl.1 rfl (Nat.le_of_ble_eq_true rfl) dL_isMember_225 ⟨by show (((((((0 + 1) + 16 * i) + 1) + 1) + 1) + 1) + 1) + 1 ≤ 170; omega, by show (((((((0 + 6) + 96 * i) + 6) + 6) + 6) + 6) + 6) + 6 ≤ 1440; omega⟩) hA hP hD hS (isC := [0, 1, 2, 3, 4, 5, 6, 7, 8, 9]) rfl [] [0, 1, 2, 3, 4, 5, 6, 7, 8, 9] (br := []) (bs2 := fun u => OB E X hs w g g2 hg nx ct u) rfl (by decide) (fun _ => rfl) (by decide) (fun r j_16 H locs hw hP hD hS => ?_)
            obtain ⟨hw, hj_17⟩ := hw
            subst hw
            refine tp_i (wf_in hmc (by omega)) ?_
            refine nv_icmp_ne (X := ((powN g m0 : Nat) : Int)) (Y := ((powN g m0 : Nat) : Int)) hx hb (nI_toInt (by omega)) (nI_toInt (by omega)) (tgt := 280) dL_isMember_228 (by decide) (fun c_18 => ?_) (fun c_18 => ?_)
            · exact absurd c_18 (by omega)
            · skip
              refine lv_aload_n hx hb dL_isMember_231 rfl (lv_at hl 2 rfl) ?_
              refine lv_iload_n hx hb dL_isMember_232 rfl (lv_at hl 3 rfl) ?_
              refine run_i (S := JT) (run_SX (As := [.ref (X 0 0), .int (nI m0)]) (rest := []) (bs := OB E X hs w g g2 hg nx ct j_16) (cb := OB E X hs w g g2 hg nx ct j_16) hx hb hml hown hts hK hZ hDD hA (c_L_power l hst E _ X hs w g g2 B hI hg nx ct hnx hct j_16 hj_17 (nI m0)) l_L_296 rfl ⟨⟨rfl, rfl⟩, Nat.le_of_ble_eq_true rfl, Nat.le_of_ble_eq_true rfl⟩ [0, 1, 2, 3, 4, 5, 6, 7, 8, 9] rfl (by decide) hP hD hS hl.1 rfl (Nat.le_of_ble_eq_true rfl) dL_isMember_233 ⟨by show ((((((((0 + 1) + 16 * i) + 1) + 1) + 1) + 1) + 1) + 1) + 1 ≤ 170; omega, by show ((((((((0 + 6) + 96 * i) + 6) + 6) + 6) + 6) + 6) + 6) + 6 ≤ 1440; omega⟩) hA hP hD hS (isC := [0, 1, 2, 3, 4, 5, 6, 7, 8, 9]) rfl [] [0, 1, 2, 3, 4, 5, 6, 7, 8, 9] (br := []) (bs2 := fun u => OB E X hs w g g2 hg nx ct u) rfl (by decide) (fun _ => rfl) (by decide) (fun r j_19 H locs hw hP hD hS => ?_)
              obtain ⟨hw, hj_20⟩ := hw
              subst hw
              refine tp_i (wf_in hmc (by omega)) ?_
              refine nv_if_lt (X := ((powN g m0 : Nat) : Int)) hx hb (nI_toInt (by omega)) (tgt := 280) dL_isMember_236 (by decide) (fun c_21 => ?_) (fun c_21 => ?_)
              · exact absurd c_21 (by omega)
              · skip
                refine lv_aload_n hx hb dL_isMember_239 rfl (lv_at hl 2 rfl) ?_
                refine lv_iload_n hx hb dL_isMember_240 rfl (lv_at hl 3 rfl) ?_
                refine run_i (S := JT) (run_SX (As := [.ref (X 0 0), .int (nI m0)]) (rest := []) (bs := OB E X hs w g g2 hg nx ct j_19) (cb := OB E X hs w g g2 hg nx ct j_19) hx hb hml hown hts hK hZ hDD hA (c_L_power l hst E _ X hs w g g2 B hI hg nx ct hnx hct j_19 hj_20 (nI m0)) l_L_296 rfl ⟨⟨rfl, rfl⟩, Nat.le_of_ble_eq_true rfl, Nat.le_of_ble_eq_true rfl⟩ [0, 1, 2, 3, 4, 5, 6, 7, 8, 9] rfl (by decide) hP hD hS hl.1 rfl (Nat.le_of_ble_eq_true rfl) dL_isMember_241 ⟨by show (((((((((0 + 1) + 16 * i) + 1) + 1) + 1) + 1) + 1) + 1) + 1) + 1 ≤ 170; omega, by show (((((((((0 + 6) + 96 * i) + 6) + 6) + 6) + 6) + 6) + 6) + 6) + 6 ≤ 1440; omega⟩) hA hP hD hS (isC := [0, 1, 2, 3, 4, 5, 6, 7, 8, 9]) rfl [] [0, 1, 2, 3, 4, 5, 6, 7, 8, 9] (br := []) (bs2 := fun u => OB E X hs w g g2 hg nx ct u) rfl (by decide) (fun _ => rfl) (by decide) (fun r j_22 H locs hw hP hD hS => ?_)
                obtain ⟨hw, hj_23⟩ := hw
                subst hw
                refine tp_i (wf_in hmc (by omega)) ?_
                refine lv_iconst (v := nI 1) hx hb dL_isMember_244 (by decide) ?_
                refine lv_iload_n hx hb dL_isMember_245 rfl (lv_at hl 5 rfl) ?_
                refine lv_iconst (v := nI 1) hx hb dL_isMember_246 (by decide) ?_
                refine nv_isub hx hb (by omega) dL_isMember_247 ?_
                refine nv_ishl hx hb (by omega) (by omega) dL_isMember_248 ?_
                refine nv_icmp_gt (X := ((powN g m0 : Nat) : Int)) (Y := ((1 * 2 ^ ((g 8 0) - 1) : Nat) : Int)) hx hb (nI_toInt (by omega)) (nI_toInt (by omega)) (tgt := 280) dL_isMember_249 (by decide) (fun c_24 => ?_) (fun c_24 => ?_)
                · exact absurd c_24 (by omega)
                · skip
                  refine lv_iload hx hb dL_isMember_252 (lv_at hl 7 rfl) ?_
                  refine nv_if_le (X := ((sm (powN g) (g 8 0) : Nat) : Int)) hx hb (nI_toInt (by omega)) (tgt := 280) dL_isMember_254 (by decide) (fun c_25 => ?_) (fun c_25 => ?_)
                  · exact absurd c_25 (by omega)
                  · skip
                    refine lv_aload_n hx hb dL_isMember_257 rfl (lv_at hl 2 rfl) ?_
                    refine lv_iload_n hx hb dL_isMember_258 rfl (lv_at hl 3 rfl) ?_
                    refine run_f (S := JT) (run_SX (As := [.ref (X 0 0), .int (nI m0)]) (rest := []) (bs := OB E X hs w g g2 hg nx ct j_22) (cb := OB E X hs w g g2 hg nx ct j_22) hx hb hml hown hts hK hZ hDD hA (c_L_powerShare l hst E _ X hs w g g2 B hI hg nx ct hnx hct j_22 hj_23 (nI m0)) l_L_310 rfl ⟨⟨rfl, rfl⟩, Nat.le_of_ble_eq_true rfl, Nat.le_of_ble_eq_true rfl⟩ [0, 1, 2, 3, 4, 5, 6, 7, 8, 9] rfl (by decide) hP hD hS hl.1 rfl (Nat.le_of_ble_eq_true rfl) dL_isMember_259 ⟨by show ((((((((((0 + 1) + 16 * i) + 1) + 1) + 1) + 1) + 1) + 1) + 1) + 1) + 1 ≤ 170; omega, by show ((((((((((0 + 6) + 96 * i) + 6) + 6) + 6) + 6) + 6) + 6) + 6) + 6) + 6 ≤ 1440; omega⟩) hA hP hD hS (isC := [0, 1, 2, 3, 4, 5, 6, 7, 8, 9]) rfl [] [0, 1, 2, 3, 4, 5, 6, 7, 8, 9] (br := []) (bs2 := fun u => OB E X hs w g g2 hg nx ct u) rfl (by decide) (fun _ => rfl) (by decide) (fun r j_26 H locs hw hP hD hS => ?_)
                    obtain ⟨hw, hj_27⟩ := hw
                    subst hw
                    refine lv_aload_n hx hb dL_isMember_262 rfl (lv_at hl 2 rfl) ?_
                    refine lv_iload_n hx hb dL_isMember_263 rfl (lv_at hl 3 rfl) ?_
                    refine run_i (S := JT) (run_SX (As := [.ref (X 0 0), .int (nI m0)]) (rest := [.float (wps g (nI m0))]) (bs := OB E X hs w g g2 hg nx ct j_26) (cb := OB E X hs w g g2 hg nx ct j_26) hx hb hml hown hts hK hZ hDD hA (c_L_power l hst E _ X hs w g g2 B hI hg nx ct hnx hct j_26 hj_27 (nI m0)) l_L_296 rfl ⟨⟨rfl, rfl⟩, Nat.le_of_ble_eq_true rfl, Nat.le_of_ble_eq_true rfl⟩ [0, 1, 2, 3, 4, 5, 6, 7, 8, 9] rfl (by decide) hP hD hS hl.1 rfl (Nat.le_of_ble_eq_true rfl) dL_isMember_264 ⟨by show (((((((((((0 + 1) + 16 * i) + 1) + 1) + 1) + 1) + 1) + 1) + 1) + 1) + 1) + 1 ≤ 170; omega, by show (((((((((((0 + 6) + 96 * i) + 6) + 6) + 6) + 6) + 6) + 6) + 6) + 6) + 6) + 6 ≤ 1440; omega⟩) hA hP hD hS (isC := [0, 1, 2, 3, 4, 5, 6, 7, 8, 9]) rfl [] [0, 1, 2, 3, 4, 5, 6, 7, 8, 9] (br := []) (bs2 := fun u => OB E X hs w g g2 hg nx ct u) rfl (by decide) (fun _ => rfl) (by decide) (fun r j_28 H locs hw hP hD hS => ?_)
                    obtain ⟨hw, hj_29⟩ := hw
                    subst hw
                    refine tp_i (wf_in hmc (by omega)) ?_
                    refine lv_i2f hx hb dL_isMember_267 ?_
                    refine lv_iload hx hb dL_isMember_268 (lv_at hl 7 rfl) ?_
                    refine lv_i2f hx hb dL_isMember_270 ?_
                    refine lv_fdiv hx hb dL_isMember_271 (ps_n hI hz m0) ?_
                    rw [wps_in hmc hm0]
                    refine lv_fcmp hx hb dL_isMember_272 ?_
                    refine tp_i (cmpf_0 (ps_n hI hz m0) _) ?_
                    refine nv_if_ne (X := ((0 : Nat) : Int)) hx hb (nI_toInt (by omega)) (tgt := 280) dL_isMember_273 (by decide) (fun c_30 => ?_) (fun c_30 => ?_)
                    · exact absurd c_30 (by omega)
                    · skip
                      refine lv_iconst (v := nI 1) hx hb dL_isMember_276 (by decide) ?_
                      refine lv_goto (tgt := 281) hx hb dL_isMember_277 (by decide) ?_
                      refine lv_istore (lv' := [(9, .int (nI 1)), (8, .int (nI 1)), (7, .int (nI (dq g m0))), (0, .ref (X 0 0)), (1, .int (nI m0)), (2, .int (nI (allSh g))), (3, .int (nI (g 8 0))), (4, .long (lN (dlk g m0 60))), (6, .int (nI (sm (powN g) (g 8 0))))]) hx hb dL_isMember_281 hl (by decide) rfl (fun ls hl => ?_)
                      refine lv_aload_n hx hb dL_isMember_283 rfl (lv_at hl 3 rfl) ?_
                      refine lv_iload_n hx hb dL_isMember_284 rfl (lv_at hl 4 rfl) ?_
                      refine run_i (S := JT) (run_SX (As := [.ref (X 0 0), .int (nI m0)]) (rest := []) (bs := OB E X hs w g g2 hg nx ct j_28) (cb := OB E X hs w g g2 hg nx ct j_28) hx hb hml hown hts hK hZ hDD hA (c_L_writeMember l hst E _ X hs w g g2 B hI hg nx ct hnx hct j_28 hj_29 (nI m0)) l_L_313 rfl ⟨⟨rfl, rfl⟩, Nat.le_of_ble_eq_true rfl, Nat.le_of_ble_eq_true rfl⟩ [0, 1, 2, 3, 4, 5, 6, 7, 8, 9] rfl (by decide) hP hD hS hl.1 rfl (Nat.le_of_ble_eq_true rfl) dL_isMember_285 ⟨by show ((((((((((((0 + 1) + 16 * i) + 1) + 1) + 1) + 1) + 1) + 1) + 1) + 1) + 1) + 1) + 13 ≤ 170; omega, by show ((((((((((((0 + 6) + 96 * i) + 6) + 6) + 6) + 6) + 6) + 6) + 6) + 6) + 6) + 6) + 414 ≤ 1440; omega⟩) hA hP hD hS (isC := [0, 1, 2, 3, 4, 5, 6, 7, 8, 9]) rfl [] [0, 1, 2, 3, 4, 5, 6, 7, 8, 9] (br := []) (bs2 := fun u => OB E X hs w g g2 hg nx ct u) rfl (by decide) (fun _ => rfl) (by decide) (fun r j_31 H locs hw hP hD hS => ?_)
                      obtain ⟨hw, hj_32⟩ := hw
                      subst hw
                      refine tp_i (wf_in hmc (by omega)) ?_
                      refine lv_istore (lv' := [(10, .int (nI (lnG g m0))), (9, .int (nI 1)), (8, .int (nI 1)), (7, .int (nI (dq g m0))), (0, .ref (X 0 0)), (1, .int (nI m0)), (2, .int (nI (allSh g))), (3, .int (nI (g 8 0))), (4, .long (lN (dlk g m0 60))), (6, .int (nI (sm (powN g) (g 8 0))))]) hx hb dL_isMember_288 hl (by decide) rfl (fun ls hl => ?_)
                      refine lv_iload hx hb dL_isMember_290 (lv_at hl 2 rfl) ?_
                      refine nv_if_eq (X := ((1 : Nat) : Int)) hx hb (nI_toInt (by omega)) (tgt := 386) dL_isMember_292 (by decide) (fun c_33 => ?_) (fun c_33 => ?_)
                      · exact absurd c_33 (by omega)
                      · skip
                        refine lv_iload hx hb dL_isMember_295 (lv_at hl 1 rfl) ?_
                        refine nv_if_eq (X := ((1 : Nat) : Int)) hx hb (nI_toInt (by omega)) (tgt := 386) dL_isMember_297 (by decide) (fun c_34 => ?_) (fun c_34 => ?_)
                        · exact absurd c_34 (by omega)
                        · skip
                          refine lv_aload_n hx hb dL_isMember_300 rfl (lv_at hl 4 rfl) ?_
                          refine lv_iload_n hx hb dL_isMember_301 rfl (lv_at hl 5 rfl) ?_
                          refine run_l (S := JT) (run_SX (As := [.ref (X 0 0), .int (nI m0)]) (rest := []) (bs := OB E X hs w g g2 hg nx ct j_31) (cb := OB E X hs w g g2 hg nx ct j_31) hx hb hml hown hts hK hZ hDD hA (c_L_dueBeatsByDoubling l hst E _ X hs w g g2 B hI hg nx ct hnx hct j_31 hj_32 (nI m0)) l_L_315 rfl ⟨⟨rfl, rfl⟩, Nat.le_of_ble_eq_true rfl, Nat.le_of_ble_eq_true rfl⟩ [0, 1, 2, 3, 4, 5, 6, 7, 8, 9] rfl (by decide) hP hD hS hl.1 rfl (Nat.le_of_ble_eq_true rfl) dL_isMember_302 ⟨by show (((((((((((((0 + 1) + 16 * i) + 1) + 1) + 1) + 1) + 1) + 1) + 1) + 1) + 1) + 1) + 13) + 1 ≤ 170; omega, by show (((((((((((((0 + 6) + 96 * i) + 6) + 6) + 6) + 6) + 6) + 6) + 6) + 6) + 6) + 6) + 414) + 6 ≤ 1440; omega⟩) hA hP hD hS (isC := [0, 1, 2, 3, 4, 5, 6, 7, 8, 9]) rfl [] [0, 1, 2, 3, 4, 5, 6, 7, 8, 9] (br := []) (bs2 := fun u => OB E X hs w g g2 hg nx ct u) rfl (by decide) (fun _ => rfl) (by decide) (fun r j_35 H locs hw hP hD hS => ?_)
                          obtain ⟨hw, hj_36⟩ := hw
                          subst hw
                          refine tp_l (wl_in hmc (by omega)) ?_
                          refine lv_lload hx hb dL_isMember_305 (lv_at hl 8 rfl) ?_
                          refine W.lcmp hx hb dL_isMember_307 ?_
                          refine tp_i (lg_eq _) ?_
                          refine nv_if_ne (X := ((0 : Nat) : Int)) hx hb (nI_toInt (by omega)) (tgt := 386) dL_isMember_308 (by decide) (fun c_37 => ?_) (fun c_37 => ?_)
                          · exact absurd c_37 (by omega)
                          · skip
                            refine lv_lload hx hb dL_isMember_311 (lv_at hl 8 rfl) ?_
                            refine run_i (S := Unit) (run_S (As := [.long (lN (dlk g m0 60))]) (rest := []) (bs := OB E X hs w g g2 hg nx ct j_35) (cb := []) hx hb hml hown hts hK hZ hA (c_L_bits l E _ (dlk g m0 60) (dlk_64 (Nat.le_refl _))) l_L_302 rfl ⟨⟨rfl, rfl⟩, Nat.le_of_ble_eq_true rfl, Nat.le_of_ble_eq_true rfl⟩ [] rfl (by decide) hP hD hS hl.1 rfl (Nat.le_of_ble_eq_true rfl) dL_isMember_313 ⟨by show ((((((((((((((0 + 1) + 16 * i) + 1) + 1) + 1) + 1) + 1) + 1) + 1) + 1) + 1) + 1) + 13) + 1) + 0 ≤ 170; omega, by show ((((((((((((((0 + 6) + 96 * i) + 6) + 6) + 6) + 6) + 6) + 6) + 6) + 6) + 6) + 6) + 414) + 6) + 0 ≤ 1440; omega⟩) hA hP hD hS (isC := []) rfl [0, 1, 2, 3, 4, 5, 6, 7, 8, 9] [0, 1, 2, 3, 4, 5, 6, 7, 8, 9] (br := OB E X hs w g g2 hg nx ct j_35) (bs2 := fun _ => OB E X hs w g g2 hg nx ct j_35) rfl (by decide) (fun _ => rfl) (by decide) (fun r u H locs hw hP hD hS => ?_)
                            subst hw
                            refine lv_iconst (v := nI 5) hx hb dL_isMember_316 (by decide) ?_
                            refine nv_icmp_lt (X := ((bt60 (dlk g m0 60) : Nat) : Int)) (Y := ((5 : Nat) : Int)) hx hb (nI_toInt (Nat.lt_of_le_of_lt (bt_le 60) (by decide))) (nI_toInt (by omega)) (tgt := 386) dL_isMember_317 (by decide) (fun c_38 => ?_) (fun c_38 => ?_)
                            · exact absurd c_38 (by omega)
                            · skip
                              refine lv_lload hx hb dL_isMember_320 (lv_at hl 8 rfl) ?_
                              refine run_i (S := Unit) (run_S (As := [.long (lN (dlk g m0 60))]) (rest := []) (bs := OB E X hs w g g2 hg nx ct j_35) (cb := []) hx hb hml hown hts hK hZ hA (c_L_bits l E _ (dlk g m0 60) (dlk_64 (Nat.le_refl _))) l_L_302 rfl ⟨⟨rfl, rfl⟩, Nat.le_of_ble_eq_true rfl, Nat.le_of_ble_eq_true rfl⟩ [] rfl (by decide) hP hD hS hl.1 rfl (Nat.le_of_ble_eq_true rfl) dL_isMember_322 ⟨by show ((((((((((((((0 + 1) + 16 * i) + 1) + 1) + 1) + 1) + 1) + 1) + 1) + 1) + 1) + 1) + 13) + 1) + 0 ≤ 170; omega, by show ((((((((((((((0 + 6) + 96 * i) + 6) + 6) + 6) + 6) + 6) + 6) + 6) + 6) + 6) + 6) + 414) + 6) + 0 ≤ 1440; omega⟩) hA hP hD hS (isC := []) rfl [0, 1, 2, 3, 4, 5, 6, 7, 8, 9] [0, 1, 2, 3, 4, 5, 6, 7, 8, 9] (br := OB E X hs w g g2 hg nx ct j_35) (bs2 := fun _ => OB E X hs w g g2 hg nx ct j_35) rfl (by decide) (fun _ => rfl) (by decide) (fun r u H locs hw hP hD hS => ?_)
                              subst hw
                              refine lv_bipush (v := nI 30) hx hb dL_isMember_325 (by decide) ?_
                              refine nv_icmp_gt (X := ((bt60 (dlk g m0 60) : Nat) : Int)) (Y := ((30 : Nat) : Int)) hx hb (nI_toInt (Nat.lt_of_le_of_lt (bt_le 60) (by decide))) (nI_toInt (by omega)) (tgt := 386) dL_isMember_327 (by decide) (fun c_39 => ?_) (fun c_39 => ?_)
                              · exact absurd c_39 (by omega)
                              · skip
                                refine lv_aload_n hx hb dL_isMember_330 rfl (lv_at hl 4 rfl) ?_
                                refine lv_iload_n hx hb dL_isMember_331 rfl (lv_at hl 5 rfl) ?_
                                refine run_i (S := JT) (run_SX (As := [.ref (X 0 0), .int (nI m0)]) (rest := []) (bs := OB E X hs w g g2 hg nx ct j_35) (cb := OB E X hs w g g2 hg nx ct j_35) hx hb hml hown hts hK hZ hDD hA (c_L_shares l hst E _ X hs w g g2 B hI hg nx ct hnx hct j_35 hj_36 (nI m0)) l_L_209 rfl ⟨⟨rfl, rfl⟩, Nat.le_of_ble_eq_true rfl, Nat.le_of_ble_eq_true rfl⟩ [0, 1, 2, 3, 4, 5, 6, 7, 8, 9] rfl (by decide) hP hD hS hl.1 rfl (Nat.le_of_ble_eq_true rfl) dL_isMember_332 ⟨by show ((((((((((((((0 + 1) + 16 * i) + 1) + 1) + 1) + 1) + 1) + 1) + 1) + 1) + 1) + 1) + 13) + 1) + 1 ≤ 170; omega, by show ((((((((((((((0 + 6) + 96 * i) + 6) + 6) + 6) + 6) + 6) + 6) + 6) + 6) + 6) + 6) + 414) + 6) + 6 ≤ 1440; omega⟩) hA hP hD hS (isC := [0, 1, 2, 3, 4, 5, 6, 7, 8, 9]) rfl [] [0, 1, 2, 3, 4, 5, 6, 7, 8, 9] (br := []) (bs2 := fun u => OB E X hs w g g2 hg nx ct u) rfl (by decide) (fun _ => rfl) (by decide) (fun r j_40 H locs hw hP hD hS => ?_)
                                obtain ⟨hw, hj_41⟩ := hw
                                subst hw
                                refine tp_i (wf_in hmc (by omega)) ?_
                                refine lv_iconst (v := nI 1) hx hb dL_isMember_335 (by decide) ?_
                                refine nv_icmp_lt (X := ((g 0 m0 : Nat) : Int)) (Y := ((1 : Nat) : Int)) hx hb (nI_toInt (by omega)) (nI_toInt (by omega)) (tgt := 386) dL_isMember_336 (by decide) (fun c_42 => ?_) (fun c_42 => ?_)
                                · exact absurd c_42 (by omega)
                                · skip
                                  refine lv_aload_n hx hb dL_isMember_339 rfl (lv_at hl 4 rfl) ?_
                                  refine lv_iload_n hx hb dL_isMember_340 rfl (lv_at hl 5 rfl) ?_
                                  refine run_i (S := JT) (run_SX (As := [.ref (X 0 0), .int (nI m0)]) (rest := []) (bs := OB E X hs w g g2 hg nx ct j_40) (cb := OB E X hs w g g2 hg nx ct j_40) hx hb hml hown hts hK hZ hDD hA (c_L_shares l hst E _ X hs w g g2 B hI hg nx ct hnx hct j_40 hj_41 (nI m0)) l_L_209 rfl ⟨⟨rfl, rfl⟩, Nat.le_of_ble_eq_true rfl, Nat.le_of_ble_eq_true rfl⟩ [0, 1, 2, 3, 4, 5, 6, 7, 8, 9] rfl (by decide) hP hD hS hl.1 rfl (Nat.le_of_ble_eq_true rfl) dL_isMember_341 ⟨by show (((((((((((((((0 + 1) + 16 * i) + 1) + 1) + 1) + 1) + 1) + 1) + 1) + 1) + 1) + 1) + 13) + 1) + 1) + 1 ≤ 170; omega, by show (((((((((((((((0 + 6) + 96 * i) + 6) + 6) + 6) + 6) + 6) + 6) + 6) + 6) + 6) + 6) + 414) + 6) + 6) + 6 ≤ 1440; omega⟩) hA hP hD hS (isC := [0, 1, 2, 3, 4, 5, 6, 7, 8, 9]) rfl [] [0, 1, 2, 3, 4, 5, 6, 7, 8, 9] (br := []) (bs2 := fun u => OB E X hs w g g2 hg nx ct u) rfl (by decide) (fun _ => rfl) (by decide) (fun r j_43 H locs hw hP hD hS => ?_)
                                  obtain ⟨hw, hj_44⟩ := hw
                                  subst hw
                                  refine tp_i (wf_in hmc (by omega)) ?_
                                  refine lv_bipush (v := nI 50) hx hb dL_isMember_344 (by decide) ?_
                                  refine nv_icmp_gt (X := ((g 0 m0 : Nat) : Int)) (Y := ((50 : Nat) : Int)) hx hb (nI_toInt (by omega)) (nI_toInt (by omega)) (tgt := 386) dL_isMember_346 (by decide) (fun c_45 => ?_) (fun c_45 => ?_)
                                  · exact absurd c_45 (by omega)
                                  · skip
                                    refine lv_aload_n hx hb dL_isMember_349 rfl (lv_at hl 4 rfl) ?_
                                    refine lv_iload_n hx hb dL_isMember_350 rfl (lv_at hl 5 rfl) ?_
                                    refine run_i (S := JT) (run_SX (As := [.ref (X 0 0), .int (nI m0)]) (rest := []) (bs := OB E X hs w g g2 hg nx ct j_43) (cb := OB E X hs w g g2 hg nx ct j_43) hx hb hml hown hts hK hZ hDD hA (c_L_spring l hst E _ X hs w g g2 B hI hg nx ct hnx hct j_43 hj_44 (nI m0)) l_L_213 rfl ⟨⟨rfl, rfl⟩, Nat.le_of_ble_eq_true rfl, Nat.le_of_ble_eq_true rfl⟩ [0, 1, 2, 3, 4, 5, 6, 7, 8, 9] rfl (by decide) hP hD hS hl.1 rfl (Nat.le_of_ble_eq_true rfl) dL_isMember_351 ⟨by show ((((((((((((((((0 + 1) + 16 * i) + 1) + 1) + 1) + 1) + 1) + 1) + 1) + 1) + 1) + 1) + 13) + 1) + 1) + 1) + 1 ≤ 170; omega, by show ((((((((((((((((0 + 6) + 96 * i) + 6) + 6) + 6) + 6) + 6) + 6) + 6) + 6) + 6) + 6) + 414) + 6) + 6) + 6) + 6 ≤ 1440; omega⟩) hA hP hD hS (isC := [0, 1, 2, 3, 4, 5, 6, 7, 8, 9]) rfl [] [0, 1, 2, 3, 4, 5, 6, 7, 8, 9] (br := []) (bs2 := fun u => OB E X hs w g g2 hg nx ct u) rfl (by decide) (fun _ => rfl) (by decide) (fun r j_46 H locs hw hP hD hS => ?_)
                                    obtain ⟨hw, hj_47⟩ := hw
                                    subst hw
                                    refine tp_i (wf_in hmc (by omega)) ?_
                                    refine nv_if_lt (X := ((g 4 m0 : Nat) : Int)) hx hb (nI_toInt (by omega)) (tgt := 386) dL_isMember_354 (by decide) (fun c_48 => ?_) (fun c_48 => ?_)
                                    · exact absurd c_48 (by omega)
                                    · skip
                                      refine lv_aload_n hx hb dL_isMember_357 rfl (lv_at hl 4 rfl) ?_
                                      refine lv_iload_n hx hb dL_isMember_358 rfl (lv_at hl 5 rfl) ?_
                                      refine run_i (S := JT) (run_SX (As := [.ref (X 0 0), .int (nI m0)]) (rest := []) (bs := OB E X hs w g g2 hg nx ct j_46) (cb := OB E X hs w g g2 hg nx ct j_46) hx hb hml hown hts hK hZ hDD hA (c_L_spring l hst E _ X hs w g g2 B hI hg nx ct hnx hct j_46 hj_47 (nI m0)) l_L_213 rfl ⟨⟨rfl, rfl⟩, Nat.le_of_ble_eq_true rfl, Nat.le_of_ble_eq_true rfl⟩ [0, 1, 2, 3, 4, 5, 6, 7, 8, 9] rfl (by decide) hP hD hS hl.1 rfl (Nat.le_of_ble_eq_true rfl) dL_isMember_359 ⟨by show (((((((((((((((((0 + 1) + 16 * i) + 1) + 1) + 1) + 1) + 1) + 1) + 1) + 1) + 1) + 1) + 13) + 1) + 1) + 1) + 1) + 1 ≤ 170; omega, by show (((((((((((((((((0 + 6) + 96 * i) + 6) + 6) + 6) + 6) + 6) + 6) + 6) + 6) + 6) + 6) + 414) + 6) + 6) + 6) + 6) + 6 ≤ 1440; omega⟩) hA hP hD hS (isC := [0, 1, 2, 3, 4, 5, 6, 7, 8, 9]) rfl [] [0, 1, 2, 3, 4, 5, 6, 7, 8, 9] (br := []) (bs2 := fun u => OB E X hs w g g2 hg nx ct u) rfl (by decide) (fun _ => rfl) (by decide) (fun r j_49 H locs hw hP hD hS => ?_)
                                      obtain ⟨hw, hj_50⟩ := hw
                                      subst hw
                                      refine tp_i (wf_in hmc (by omega)) ?_
                                      refine lv_bipush (v := nI 60) hx hb dL_isMember_362 (by decide) ?_
                                      refine nv_icmp_gt (X := ((g 4 m0 : Nat) : Int)) (Y := ((60 : Nat) : Int)) hx hb (nI_toInt (by omega)) (nI_toInt (by omega)) (tgt := 386) dL_isMember_364 (by decide) (fun c_51 => ?_) (fun c_51 => ?_)
                                      · exact absurd c_51 (by omega)
                                      · skip
                                        refine lv_aload_n hx hb dL_isMember_367 rfl (lv_at hl 4 rfl) ?_
                                        refine lv_iload_n hx hb dL_isMember_368 rfl (lv_at hl 5 rfl) ?_
                                        refine run_i (S := JT) (run_SX (As := [.ref (X 0 0), .int (nI m0)]) (rest := []) (bs := OB E X hs w g g2 hg nx ct j_49) (cb := OB E X hs w g g2 hg nx ct j_49) hx hb hml hown hts hK hZ hDD hA (c_L_purse l hst E _ X hs w g g2 B hI hg nx ct hnx hct j_49 hj_50 (nI m0)) l_L_207 rfl ⟨⟨rfl, rfl⟩, Nat.le_of_ble_eq_true rfl, Nat.le_of_ble_eq_true rfl⟩ [0, 1, 2, 3, 4, 5, 6, 7, 8, 9] rfl (by decide) hP hD hS hl.1 rfl (Nat.le_of_ble_eq_true rfl) dL_isMember_369 ⟨by show ((((((((((((((((((0 + 1) + 16 * i) + 1) + 1) + 1) + 1) + 1) + 1) + 1) + 1) + 1) + 1) + 13) + 1) + 1) + 1) + 1) + 1) + 1 ≤ 170; omega, by show ((((((((((((((((((0 + 6) + 96 * i) + 6) + 6) + 6) + 6) + 6) + 6) + 6) + 6) + 6) + 6) + 414) + 6) + 6) + 6) + 6) + 6) + 6 ≤ 1440; omega⟩) hA hP hD hS (isC := [0, 1, 2, 3, 4, 5, 6, 7, 8, 9]) rfl [] [0, 1, 2, 3, 4, 5, 6, 7, 8, 9] (br := []) (bs2 := fun u => OB E X hs w g g2 hg nx ct u) rfl (by decide) (fun _ => rfl) (by decide) (fun r j_52 H locs hw hP hD hS => ?_)
                                        obtain ⟨hw, hj_53⟩ := hw
                                        subst hw
                                        refine tp_i (wf_in hmc (by omega)) ?_
                                        refine nv_if_lt (X := ((g 5 m0 : Nat) : Int)) hx hb (nI_toInt (by omega)) (tgt := 386) dL_isMember_372 (by decide) (fun c_54 => ?_) (fun c_54 => ?_)
                                        · exact absurd c_54 (by omega)
                                        · skip
                                          refine lv_iload hx hb dL_isMember_375 (lv_at hl 0 rfl) ?_
                                          refine lv_bipush (v := nI 11) hx hb dL_isMember_377 (by decide) ?_
                                          refine nv_icmp_lt (X := ((lnG g m0 : Nat) : Int)) (Y := ((11 : Nat) : Int)) hx hb (nI_toInt (by omega)) (nI_toInt (by omega)) (tgt := 386) dL_isMember_379 (by decide) (fun c_55 => ?_) (fun c_55 => ?_)
                                          · exact absurd c_55 (by omega)
                                          · skip
                                            refine lv_iconst (v := nI 1) hx hb dL_isMember_382 (by decide) ?_
                                            refine lv_goto (tgt := 387) hx hb dL_isMember_383 (by decide) ?_
                                            exact hret _ _ (nI 1) j_52 _ _ _ _ hP hD hS (by decide) ⟨rfl, hj_53⟩ dL_isMember_387 (by omega) (by omega)
          · skip
            refine lv_aload_n hx hb dL_isMember_199 rfl (lv_at hl 1 rfl) ?_
            refine lv_iload_n hx hb dL_isMember_200 rfl (lv_at hl 2 rfl) ?_
            refine run_i (S := JT) (run_SX (As := [.ref (X 0 0), .int (nI m0)]) (rest := []) (bs := OB E X hs w g g2 hg nx ct j_11) (cb := OB E X hs w g g2 hg nx ct j_11) hx hb hml hown hts hK hZ hDD hA (c_L_dividend l hst E _ X hs w g g2 B hI hg nx ct hnx hct j_11 hj_12 (nI m0)) l_L_205 rfl ⟨⟨rfl, rfl⟩, Nat.le_of_ble_eq_true rfl, Nat.le_of_ble_eq_true rfl⟩ [0, 1, 2, 3, 4, 5, 6, 7, 8, 9] rfl (by decide) hP hD hS hl.1 rfl (Nat.le_of_ble_eq_true rfl) dL_isMember_201 ⟨by show ((((((0 + 1) + 16 * i) + 1) + 1) + 1) + 1) + 1 ≤ 170; omega, by show ((((((0 + 6) + 96 * i) + 6) + 6) + 6) + 6) + 6 ≤ 1440; omega⟩) hA hP hD hS (isC := [0, 1, 2, 3, 4, 5, 6, 7, 8, 9]) rfl [] [0, 1, 2, 3, 4, 5, 6, 7, 8, 9] (br := []) (bs2 := fun u => OB E X hs w g g2 hg nx ct u) rfl (by decide) (fun _ => rfl) (by decide) (fun r j_56 H locs hw hP hD hS => ?_)
            obtain ⟨hw, hj_57⟩ := hw
            subst hw
            refine tp_i (wf_in hmc (by omega)) ?_
            refine lv_iload hx hb dL_isMember_204 (lv_at hl 0 rfl) ?_
            refine lv_iconst (v := nI 1) hx hb dL_isMember_206 (by decide) ?_
            refine nv_iadd hx hb dL_isMember_207 ?_
            refine nv_icmp_ne (X := ((dv g m0 : Nat) : Int)) (Y := ((dq g m0 + 1 : Nat) : Int)) hx hb (nI_toInt (by omega)) (nI_toInt (by omega)) (tgt := 215) dL_isMember_208 (by decide) (fun c_58 => ?_) (fun c_58 => ?_)
            · exact absurd c_58 (by omega)
            · skip
              refine lv_iconst (v := nI 1) hx hb dL_isMember_211 (by decide) ?_
              refine lv_goto (tgt := 216) hx hb dL_isMember_212 (by decide) ?_
              refine lv_istore (lv' := [(8, .int (nI 1)), (7, .int (nI (dq g m0))), (0, .ref (X 0 0)), (1, .int (nI m0)), (2, .int (nI (allSh g))), (3, .int (nI (g 8 0))), (4, .long (lN (dlk g m0 60))), (6, .int (nI (sm (powN g) (g 8 0))))]) hx hb dL_isMember_216 hl (by decide) rfl (fun ls hl => ?_)
              refine lv_aload_n hx hb dL_isMember_218 rfl (lv_at hl 2 rfl) ?_
              refine lv_iload_n hx hb dL_isMember_219 rfl (lv_at hl 3 rfl) ?_
              refine run_i (S := JT) (run_SX (As := [.ref (X 0 0), .int (nI m0)]) (rest := []) (bs := OB E X hs w g g2 hg nx ct j_56) (cb := OB E X hs w g g2 hg nx ct j_56) hx hb hml hown hts hK hZ hDD hA (c_L_powerByTable l hst E _ X hs w g g2 B hI hg nx ct hnx hct j_56 hj_57 (nI m0)) l_L_308 rfl ⟨⟨rfl, rfl⟩, Nat.le_of_ble_eq_true rfl, Nat.le_of_ble_eq_true rfl⟩ [0, 1, 2, 3, 4, 5, 6, 7, 8, 9] rfl (by decide) hP hD hS hl.1 rfl (Nat.le_of_ble_eq_true rfl) dL_isMember_220 ⟨by show (((((((0 + 1) + 16 * i) + 1) + 1) + 1) + 1) + 1) + 1 ≤ 170; omega, by show (((((((0 + 6) + 96 * i) + 6) + 6) + 6) + 6) + 6) + 6 ≤ 1440; omega⟩) hA hP hD hS (isC := [0, 1, 2, 3, 4, 5, 6, 7, 8, 9]) rfl [] [0, 1, 2, 3, 4, 5, 6, 7, 8, 9] (br := []) (bs2 := fun u => OB E X hs w g g2 hg nx ct u) rfl (by decide) (fun _ => rfl) (by decide) (fun r j_59 H locs hw hP hD hS => ?_)
              obtain ⟨hw, hj_60⟩ := hw
              subst hw
              refine tp_i (wf_in hmc (by omega)) ?_
              refine lv_aload_n hx hb dL_isMember_223 rfl (lv_at hl 2 rfl) ?_
              refine lv_iload_n hx hb dL_isMember_224 rfl (lv_at hl 3 rfl) ?_
              refine run_i (S := JT) (run_SX (As := [.ref (X 0 0), .int (nI m0)]) (rest := [.int (nI (powN g m0))]) (bs := OB E X hs w g g2 hg nx ct j_59) (cb := OB E X hs w g g2 hg nx ct j_59) hx hb hml hown hts hK hZ hDD hA (c_L_power l hst E _ X hs w g g2 B hI hg nx ct hnx hct j_59 hj_60 (nI m0)) l_L_296 rfl ⟨⟨rfl, rfl⟩, Nat.le_of_ble_eq_true rfl, Nat.le_of_ble_eq_true rfl⟩ [0, 1, 2, 3, 4, 5, 6, 7, 8, 9] rfl (by decide) hP hD hS hl.1 rfl (Nat.le_of_ble_eq_true rfl) dL_isMember_225 ⟨by show ((((((((0 + 1) + 16 * i) + 1) + 1) + 1) + 1) + 1) + 1) + 1 ≤ 170; omega, by show ((((((((0 + 6) + 96 * i) + 6) + 6) + 6) + 6) + 6) + 6) + 6 ≤ 1440; omega⟩) hA hP hD hS (isC := [0, 1, 2, 3, 4, 5, 6, 7, 8, 9]) rfl [] [0, 1, 2, 3, 4, 5, 6, 7, 8, 9] (br := []) (bs2 := fun u => OB E X hs w g g2 hg nx ct u) rfl (by decide) (fun _ => rfl) (by decide) (fun r j_61 H locs hw hP hD hS => ?_)
              obtain ⟨hw, hj_62⟩ := hw
              subst hw
              refine tp_i (wf_in hmc (by omega)) ?_
              refine nv_icmp_ne (X := ((powN g m0 : Nat) : Int)) (Y := ((powN g m0 : Nat) : Int)) hx hb (nI_toInt (by omega)) (nI_toInt (by omega)) (tgt := 280) dL_isMember_228 (by decide) (fun c_63 => ?_) (fun c_63 => ?_)
              · exact absurd c_63 (by omega)
              · skip
                refine lv_aload_n hx hb dL_isMember_231 rfl (lv_at hl 2 rfl) ?_
                refine lv_iload_n hx hb dL_isMember_232 rfl (lv_at hl 3 rfl) ?_
                refine run_i (S := JT) (run_SX (As := [.ref (X 0 0), .int (nI m0)]) (rest := []) (bs := OB E X hs w g g2 hg nx ct j_61) (cb := OB E X hs w g g2 hg nx ct j_61) hx hb hml hown hts hK hZ hDD hA (c_L_power l hst E _ X hs w g g2 B hI hg nx ct hnx hct j_61 hj_62 (nI m0)) l_L_296 rfl ⟨⟨rfl, rfl⟩, Nat.le_of_ble_eq_true rfl, Nat.le_of_ble_eq_true rfl⟩ [0, 1, 2, 3, 4, 5, 6, 7, 8, 9] rfl (by decide) hP hD hS hl.1 rfl (Nat.le_of_ble_eq_true rfl) dL_isMember_233 ⟨by show (((((((((0 + 1) + 16 * i) + 1) + 1) + 1) + 1) + 1) + 1) + 1) + 1 ≤ 170; omega, by show (((((((((0 + 6) + 96 * i) + 6) + 6) + 6) + 6) + 6) + 6) + 6) + 6 ≤ 1440; omega⟩) hA hP hD hS (isC := [0, 1, 2, 3, 4, 5, 6, 7, 8, 9]) rfl [] [0, 1, 2, 3, 4, 5, 6, 7, 8, 9] (br := []) (bs2 := fun u => OB E X hs w g g2 hg nx ct u) rfl (by decide) (fun _ => rfl) (by decide) (fun r j_64 H locs hw hP hD hS => ?_)
                obtain ⟨hw, hj_65⟩ := hw
                subst hw
                refine tp_i (wf_in hmc (by omega)) ?_
                refine nv_if_lt (X := ((powN g m0 : Nat) : Int)) hx hb (nI_toInt (by omega)) (tgt := 280) dL_isMember_236 (by decide) (fun c_66 => ?_) (fun c_66 => ?_)
                · exact absurd c_66 (by omega)
                · skip
                  refine lv_aload_n hx hb dL_isMember_239 rfl (lv_at hl 2 rfl) ?_
                  refine lv_iload_n hx hb dL_isMember_240 rfl (lv_at hl 3 rfl) ?_
                  refine run_i (S := JT) (run_SX (As := [.ref (X 0 0), .int (nI m0)]) (rest := []) (bs := OB E X hs w g g2 hg nx ct j_64) (cb := OB E X hs w g g2 hg nx ct j_64) hx hb hml hown hts hK hZ hDD hA (c_L_power l hst E _ X hs w g g2 B hI hg nx ct hnx hct j_64 hj_65 (nI m0)) l_L_296 rfl ⟨⟨rfl, rfl⟩, Nat.le_of_ble_eq_true rfl, Nat.le_of_ble_eq_true rfl⟩ [0, 1, 2, 3, 4, 5, 6, 7, 8, 9] rfl (by decide) hP hD hS hl.1 rfl (Nat.le_of_ble_eq_true rfl) dL_isMember_241 ⟨by show ((((((((((0 + 1) + 16 * i) + 1) + 1) + 1) + 1) + 1) + 1) + 1) + 1) + 1 ≤ 170; omega, by show ((((((((((0 + 6) + 96 * i) + 6) + 6) + 6) + 6) + 6) + 6) + 6) + 6) + 6 ≤ 1440; omega⟩) hA hP hD hS (isC := [0, 1, 2, 3, 4, 5, 6, 7, 8, 9]) rfl [] [0, 1, 2, 3, 4, 5, 6, 7, 8, 9] (br := []) (bs2 := fun u => OB E X hs w g g2 hg nx ct u) rfl (by decide) (fun _ => rfl) (by decide) (fun r j_67 H locs hw hP hD hS => ?_)
                  obtain ⟨hw, hj_68⟩ := hw
                  subst hw
                  refine tp_i (wf_in hmc (by omega)) ?_
                  refine lv_iconst (v := nI 1) hx hb dL_isMember_244 (by decide) ?_
                  refine lv_iload_n hx hb dL_isMember_245 rfl (lv_at hl 5 rfl) ?_
                  refine lv_iconst (v := nI 1) hx hb dL_isMember_246 (by decide) ?_
                  refine nv_isub hx hb (by omega) dL_isMember_247 ?_
                  refine nv_ishl hx hb (by omega) (by omega) dL_isMember_248 ?_
                  refine nv_icmp_gt (X := ((powN g m0 : Nat) : Int)) (Y := ((1 * 2 ^ ((g 8 0) - 1) : Nat) : Int)) hx hb (nI_toInt (by omega)) (nI_toInt (by omega)) (tgt := 280) dL_isMember_249 (by decide) (fun c_69 => ?_) (fun c_69 => ?_)
                  · exact absurd c_69 (by omega)
                  · skip
                    refine lv_iload hx hb dL_isMember_252 (lv_at hl 7 rfl) ?_
                    refine nv_if_le (X := ((sm (powN g) (g 8 0) : Nat) : Int)) hx hb (nI_toInt (by omega)) (tgt := 280) dL_isMember_254 (by decide) (fun c_70 => ?_) (fun c_70 => ?_)
                    · exact absurd c_70 (by omega)
                    · skip
                      refine lv_aload_n hx hb dL_isMember_257 rfl (lv_at hl 2 rfl) ?_
                      refine lv_iload_n hx hb dL_isMember_258 rfl (lv_at hl 3 rfl) ?_
                      refine run_f (S := JT) (run_SX (As := [.ref (X 0 0), .int (nI m0)]) (rest := []) (bs := OB E X hs w g g2 hg nx ct j_67) (cb := OB E X hs w g g2 hg nx ct j_67) hx hb hml hown hts hK hZ hDD hA (c_L_powerShare l hst E _ X hs w g g2 B hI hg nx ct hnx hct j_67 hj_68 (nI m0)) l_L_310 rfl ⟨⟨rfl, rfl⟩, Nat.le_of_ble_eq_true rfl, Nat.le_of_ble_eq_true rfl⟩ [0, 1, 2, 3, 4, 5, 6, 7, 8, 9] rfl (by decide) hP hD hS hl.1 rfl (Nat.le_of_ble_eq_true rfl) dL_isMember_259 ⟨by show (((((((((((0 + 1) + 16 * i) + 1) + 1) + 1) + 1) + 1) + 1) + 1) + 1) + 1) + 1 ≤ 170; omega, by show (((((((((((0 + 6) + 96 * i) + 6) + 6) + 6) + 6) + 6) + 6) + 6) + 6) + 6) + 6 ≤ 1440; omega⟩) hA hP hD hS (isC := [0, 1, 2, 3, 4, 5, 6, 7, 8, 9]) rfl [] [0, 1, 2, 3, 4, 5, 6, 7, 8, 9] (br := []) (bs2 := fun u => OB E X hs w g g2 hg nx ct u) rfl (by decide) (fun _ => rfl) (by decide) (fun r j_71 H locs hw hP hD hS => ?_)
                      obtain ⟨hw, hj_72⟩ := hw
                      subst hw
                      refine lv_aload_n hx hb dL_isMember_262 rfl (lv_at hl 2 rfl) ?_
                      refine lv_iload_n hx hb dL_isMember_263 rfl (lv_at hl 3 rfl) ?_
                      refine run_i (S := JT) (run_SX (As := [.ref (X 0 0), .int (nI m0)]) (rest := [.float (wps g (nI m0))]) (bs := OB E X hs w g g2 hg nx ct j_71) (cb := OB E X hs w g g2 hg nx ct j_71) hx hb hml hown hts hK hZ hDD hA (c_L_power l hst E _ X hs w g g2 B hI hg nx ct hnx hct j_71 hj_72 (nI m0)) l_L_296 rfl ⟨⟨rfl, rfl⟩, Nat.le_of_ble_eq_true rfl, Nat.le_of_ble_eq_true rfl⟩ [0, 1, 2, 3, 4, 5, 6, 7, 8, 9] rfl (by decide) hP hD hS hl.1 rfl (Nat.le_of_ble_eq_true rfl) dL_isMember_264 ⟨by show ((((((((((((0 + 1) + 16 * i) + 1) + 1) + 1) + 1) + 1) + 1) + 1) + 1) + 1) + 1) + 1 ≤ 170; omega, by show ((((((((((((0 + 6) + 96 * i) + 6) + 6) + 6) + 6) + 6) + 6) + 6) + 6) + 6) + 6) + 6 ≤ 1440; omega⟩) hA hP hD hS (isC := [0, 1, 2, 3, 4, 5, 6, 7, 8, 9]) rfl [] [0, 1, 2, 3, 4, 5, 6, 7, 8, 9] (br := []) (bs2 := fun u => OB E X hs w g g2 hg nx ct u) rfl (by decide) (fun _ => rfl) (by decide) (fun r j_73 H locs hw hP hD hS => ?_)
                      obtain ⟨hw, hj_74⟩ := hw
                      subst hw
                      refine tp_i (wf_in hmc (by omega)) ?_
                      refine lv_i2f hx hb dL_isMember_267 ?_
                      refine lv_iload hx hb dL_isMember_268 (lv_at hl 7 rfl) ?_
                      refine lv_i2f hx hb dL_isMember_270 ?_
                      refine lv_fdiv hx hb dL_isMember_271 (ps_n hI hz m0) ?_
                      rw [wps_in hmc hm0]
                      refine lv_fcmp hx hb dL_isMember_272 ?_
                      refine tp_i (cmpf_0 (ps_n hI hz m0) _) ?_
                      refine nv_if_ne (X := ((0 : Nat) : Int)) hx hb (nI_toInt (by omega)) (tgt := 280) dL_isMember_273 (by decide) (fun c_75 => ?_) (fun c_75 => ?_)
                      · exact absurd c_75 (by omega)
                      · skip
                        refine lv_iconst (v := nI 1) hx hb dL_isMember_276 (by decide) ?_
                        refine lv_goto (tgt := 281) hx hb dL_isMember_277 (by decide) ?_
                        refine lv_istore (lv' := [(9, .int (nI 1)), (8, .int (nI 1)), (7, .int (nI (dq g m0))), (0, .ref (X 0 0)), (1, .int (nI m0)), (2, .int (nI (allSh g))), (3, .int (nI (g 8 0))), (4, .long (lN (dlk g m0 60))), (6, .int (nI (sm (powN g) (g 8 0))))]) hx hb dL_isMember_281 hl (by decide) rfl (fun ls hl => ?_)
                        refine lv_aload_n hx hb dL_isMember_283 rfl (lv_at hl 3 rfl) ?_
                        refine lv_iload_n hx hb dL_isMember_284 rfl (lv_at hl 4 rfl) ?_
                        refine run_i (S := JT) (run_SX (As := [.ref (X 0 0), .int (nI m0)]) (rest := []) (bs := OB E X hs w g g2 hg nx ct j_73) (cb := OB E X hs w g g2 hg nx ct j_73) hx hb hml hown hts hK hZ hDD hA (c_L_writeMember l hst E _ X hs w g g2 B hI hg nx ct hnx hct j_73 hj_74 (nI m0)) l_L_313 rfl ⟨⟨rfl, rfl⟩, Nat.le_of_ble_eq_true rfl, Nat.le_of_ble_eq_true rfl⟩ [0, 1, 2, 3, 4, 5, 6, 7, 8, 9] rfl (by decide) hP hD hS hl.1 rfl (Nat.le_of_ble_eq_true rfl) dL_isMember_285 ⟨by show (((((((((((((0 + 1) + 16 * i) + 1) + 1) + 1) + 1) + 1) + 1) + 1) + 1) + 1) + 1) + 1) + 13 ≤ 170; omega, by show (((((((((((((0 + 6) + 96 * i) + 6) + 6) + 6) + 6) + 6) + 6) + 6) + 6) + 6) + 6) + 6) + 414 ≤ 1440; omega⟩) hA hP hD hS (isC := [0, 1, 2, 3, 4, 5, 6, 7, 8, 9]) rfl [] [0, 1, 2, 3, 4, 5, 6, 7, 8, 9] (br := []) (bs2 := fun u => OB E X hs w g g2 hg nx ct u) rfl (by decide) (fun _ => rfl) (by decide) (fun r j_76 H locs hw hP hD hS => ?_)
                        obtain ⟨hw, hj_77⟩ := hw
                        subst hw
                        refine tp_i (wf_in hmc (by omega)) ?_
                        refine lv_istore (lv' := [(10, .int (nI (lnG g m0))), (9, .int (nI 1)), (8, .int (nI 1)), (7, .int (nI (dq g m0))), (0, .ref (X 0 0)), (1, .int (nI m0)), (2, .int (nI (allSh g))), (3, .int (nI (g 8 0))), (4, .long (lN (dlk g m0 60))), (6, .int (nI (sm (powN g) (g 8 0))))]) hx hb dL_isMember_288 hl (by decide) rfl (fun ls hl => ?_)
                        refine lv_iload hx hb dL_isMember_290 (lv_at hl 2 rfl) ?_
                        refine nv_if_eq (X := ((1 : Nat) : Int)) hx hb (nI_toInt (by omega)) (tgt := 386) dL_isMember_292 (by decide) (fun c_78 => ?_) (fun c_78 => ?_)
                        · exact absurd c_78 (by omega)
                        · skip
                          refine lv_iload hx hb dL_isMember_295 (lv_at hl 1 rfl) ?_
                          refine nv_if_eq (X := ((1 : Nat) : Int)) hx hb (nI_toInt (by omega)) (tgt := 386) dL_isMember_297 (by decide) (fun c_79 => ?_) (fun c_79 => ?_)
                          · exact absurd c_79 (by omega)
                          · skip
                            refine lv_aload_n hx hb dL_isMember_300 rfl (lv_at hl 4 rfl) ?_
                            refine lv_iload_n hx hb dL_isMember_301 rfl (lv_at hl 5 rfl) ?_
                            refine run_l (S := JT) (run_SX (As := [.ref (X 0 0), .int (nI m0)]) (rest := []) (bs := OB E X hs w g g2 hg nx ct j_76) (cb := OB E X hs w g g2 hg nx ct j_76) hx hb hml hown hts hK hZ hDD hA (c_L_dueBeatsByDoubling l hst E _ X hs w g g2 B hI hg nx ct hnx hct j_76 hj_77 (nI m0)) l_L_315 rfl ⟨⟨rfl, rfl⟩, Nat.le_of_ble_eq_true rfl, Nat.le_of_ble_eq_true rfl⟩ [0, 1, 2, 3, 4, 5, 6, 7, 8, 9] rfl (by decide) hP hD hS hl.1 rfl (Nat.le_of_ble_eq_true rfl) dL_isMember_302 ⟨by show ((((((((((((((0 + 1) + 16 * i) + 1) + 1) + 1) + 1) + 1) + 1) + 1) + 1) + 1) + 1) + 1) + 13) + 1 ≤ 170; omega, by show ((((((((((((((0 + 6) + 96 * i) + 6) + 6) + 6) + 6) + 6) + 6) + 6) + 6) + 6) + 6) + 6) + 414) + 6 ≤ 1440; omega⟩) hA hP hD hS (isC := [0, 1, 2, 3, 4, 5, 6, 7, 8, 9]) rfl [] [0, 1, 2, 3, 4, 5, 6, 7, 8, 9] (br := []) (bs2 := fun u => OB E X hs w g g2 hg nx ct u) rfl (by decide) (fun _ => rfl) (by decide) (fun r j_80 H locs hw hP hD hS => ?_)
                            obtain ⟨hw, hj_81⟩ := hw
                            subst hw
                            refine tp_l (wl_in hmc (by omega)) ?_
                            refine lv_lload hx hb dL_isMember_305 (lv_at hl 8 rfl) ?_
                            refine W.lcmp hx hb dL_isMember_307 ?_
                            refine tp_i (lg_eq _) ?_
                            refine nv_if_ne (X := ((0 : Nat) : Int)) hx hb (nI_toInt (by omega)) (tgt := 386) dL_isMember_308 (by decide) (fun c_82 => ?_) (fun c_82 => ?_)
                            · exact absurd c_82 (by omega)
                            · skip
                              refine lv_lload hx hb dL_isMember_311 (lv_at hl 8 rfl) ?_
                              refine run_i (S := Unit) (run_S (As := [.long (lN (dlk g m0 60))]) (rest := []) (bs := OB E X hs w g g2 hg nx ct j_80) (cb := []) hx hb hml hown hts hK hZ hA (c_L_bits l E _ (dlk g m0 60) (dlk_64 (Nat.le_refl _))) l_L_302 rfl ⟨⟨rfl, rfl⟩, Nat.le_of_ble_eq_true rfl, Nat.le_of_ble_eq_true rfl⟩ [] rfl (by decide) hP hD hS hl.1 rfl (Nat.le_of_ble_eq_true rfl) dL_isMember_313 ⟨by show (((((((((((((((0 + 1) + 16 * i) + 1) + 1) + 1) + 1) + 1) + 1) + 1) + 1) + 1) + 1) + 1) + 13) + 1) + 0 ≤ 170; omega, by show (((((((((((((((0 + 6) + 96 * i) + 6) + 6) + 6) + 6) + 6) + 6) + 6) + 6) + 6) + 6) + 6) + 414) + 6) + 0 ≤ 1440; omega⟩) hA hP hD hS (isC := []) rfl [0, 1, 2, 3, 4, 5, 6, 7, 8, 9] [0, 1, 2, 3, 4, 5, 6, 7, 8, 9] (br := OB E X hs w g g2 hg nx ct j_80) (bs2 := fun _ => OB E X hs w g g2 hg nx ct j_80) rfl (by decide) (fun _ => rfl) (by decide) (fun r u H locs hw hP hD hS => ?_)
                              subst hw
                              refine lv_iconst (v := nI 5) hx hb dL_isMember_316 (by decide) ?_
                              refine nv_icmp_lt (X := ((bt60 (dlk g m0 60) : Nat) : Int)) (Y := ((5 : Nat) : Int)) hx hb (nI_toInt (Nat.lt_of_le_of_lt (bt_le 60) (by decide))) (nI_toInt (by omega)) (tgt := 386) dL_isMember_317 (by decide) (fun c_83 => ?_) (fun c_83 => ?_)
                              · exact absurd c_83 (by omega)
                              · skip
                                refine lv_lload hx hb dL_isMember_320 (lv_at hl 8 rfl) ?_
                                refine run_i (S := Unit) (run_S (As := [.long (lN (dlk g m0 60))]) (rest := []) (bs := OB E X hs w g g2 hg nx ct j_80) (cb := []) hx hb hml hown hts hK hZ hA (c_L_bits l E _ (dlk g m0 60) (dlk_64 (Nat.le_refl _))) l_L_302 rfl ⟨⟨rfl, rfl⟩, Nat.le_of_ble_eq_true rfl, Nat.le_of_ble_eq_true rfl⟩ [] rfl (by decide) hP hD hS hl.1 rfl (Nat.le_of_ble_eq_true rfl) dL_isMember_322 ⟨by show (((((((((((((((0 + 1) + 16 * i) + 1) + 1) + 1) + 1) + 1) + 1) + 1) + 1) + 1) + 1) + 1) + 13) + 1) + 0 ≤ 170; omega, by show (((((((((((((((0 + 6) + 96 * i) + 6) + 6) + 6) + 6) + 6) + 6) + 6) + 6) + 6) + 6) + 6) + 414) + 6) + 0 ≤ 1440; omega⟩) hA hP hD hS (isC := []) rfl [0, 1, 2, 3, 4, 5, 6, 7, 8, 9] [0, 1, 2, 3, 4, 5, 6, 7, 8, 9] (br := OB E X hs w g g2 hg nx ct j_80) (bs2 := fun _ => OB E X hs w g g2 hg nx ct j_80) rfl (by decide) (fun _ => rfl) (by decide) (fun r u H locs hw hP hD hS => ?_)
                                subst hw
                                refine lv_bipush (v := nI 30) hx hb dL_isMember_325 (by decide) ?_
                                refine nv_icmp_gt (X := ((bt60 (dlk g m0 60) : Nat) : Int)) (Y := ((30 : Nat) : Int)) hx hb (nI_toInt (Nat.lt_of_le_of_lt (bt_le 60) (by decide))) (nI_toInt (by omega)) (tgt := 386) dL_isMember_327 (by decide) (fun c_84 => ?_) (fun c_84 => ?_)
                                · exact absurd c_84 (by omega)
                                · skip
                                  refine lv_aload_n hx hb dL_isMember_330 rfl (lv_at hl 4 rfl) ?_
                                  refine lv_iload_n hx hb dL_isMember_331 rfl (lv_at hl 5 rfl) ?_
                                  refine run_i (S := JT) (run_SX (As := [.ref (X 0 0), .int (nI m0)]) (rest := []) (bs := OB E X hs w g g2 hg nx ct j_80) (cb := OB E X hs w g g2 hg nx ct j_80) hx hb hml hown hts hK hZ hDD hA (c_L_shares l hst E _ X hs w g g2 B hI hg nx ct hnx hct j_80 hj_81 (nI m0)) l_L_209 rfl ⟨⟨rfl, rfl⟩, Nat.le_of_ble_eq_true rfl, Nat.le_of_ble_eq_true rfl⟩ [0, 1, 2, 3, 4, 5, 6, 7, 8, 9] rfl (by decide) hP hD hS hl.1 rfl (Nat.le_of_ble_eq_true rfl) dL_isMember_332 ⟨by show (((((((((((((((0 + 1) + 16 * i) + 1) + 1) + 1) + 1) + 1) + 1) + 1) + 1) + 1) + 1) + 1) + 13) + 1) + 1 ≤ 170; omega, by show (((((((((((((((0 + 6) + 96 * i) + 6) + 6) + 6) + 6) + 6) + 6) + 6) + 6) + 6) + 6) + 6) + 414) + 6) + 6 ≤ 1440; omega⟩) hA hP hD hS (isC := [0, 1, 2, 3, 4, 5, 6, 7, 8, 9]) rfl [] [0, 1, 2, 3, 4, 5, 6, 7, 8, 9] (br := []) (bs2 := fun u => OB E X hs w g g2 hg nx ct u) rfl (by decide) (fun _ => rfl) (by decide) (fun r j_85 H locs hw hP hD hS => ?_)
                                  obtain ⟨hw, hj_86⟩ := hw
                                  subst hw
                                  refine tp_i (wf_in hmc (by omega)) ?_
                                  refine lv_iconst (v := nI 1) hx hb dL_isMember_335 (by decide) ?_
                                  refine nv_icmp_lt (X := ((g 0 m0 : Nat) : Int)) (Y := ((1 : Nat) : Int)) hx hb (nI_toInt (by omega)) (nI_toInt (by omega)) (tgt := 386) dL_isMember_336 (by decide) (fun c_87 => ?_) (fun c_87 => ?_)
                                  · exact absurd c_87 (by omega)
                                  · skip
                                    refine lv_aload_n hx hb dL_isMember_339 rfl (lv_at hl 4 rfl) ?_
                                    refine lv_iload_n hx hb dL_isMember_340 rfl (lv_at hl 5 rfl) ?_
                                    refine run_i (S := JT) (run_SX (As := [.ref (X 0 0), .int (nI m0)]) (rest := []) (bs := OB E X hs w g g2 hg nx ct j_85) (cb := OB E X hs w g g2 hg nx ct j_85) hx hb hml hown hts hK hZ hDD hA (c_L_shares l hst E _ X hs w g g2 B hI hg nx ct hnx hct j_85 hj_86 (nI m0)) l_L_209 rfl ⟨⟨rfl, rfl⟩, Nat.le_of_ble_eq_true rfl, Nat.le_of_ble_eq_true rfl⟩ [0, 1, 2, 3, 4, 5, 6, 7, 8, 9] rfl (by decide) hP hD hS hl.1 rfl (Nat.le_of_ble_eq_true rfl) dL_isMember_341 ⟨by show ((((((((((((((((0 + 1) + 16 * i) + 1) + 1) + 1) + 1) + 1) + 1) + 1) + 1) + 1) + 1) + 1) + 13) + 1) + 1) + 1 ≤ 170; omega, by show ((((((((((((((((0 + 6) + 96 * i) + 6) + 6) + 6) + 6) + 6) + 6) + 6) + 6) + 6) + 6) + 6) + 414) + 6) + 6) + 6 ≤ 1440; omega⟩) hA hP hD hS (isC := [0, 1, 2, 3, 4, 5, 6, 7, 8, 9]) rfl [] [0, 1, 2, 3, 4, 5, 6, 7, 8, 9] (br := []) (bs2 := fun u => OB E X hs w g g2 hg nx ct u) rfl (by decide) (fun _ => rfl) (by decide) (fun r j_88 H locs hw hP hD hS => ?_)
                                    obtain ⟨hw, hj_89⟩ := hw
                                    subst hw
                                    refine tp_i (wf_in hmc (by omega)) ?_
                                    refine lv_bipush (v := nI 50) hx hb dL_isMember_344 (by decide) ?_
                                    refine nv_icmp_gt (X := ((g 0 m0 : Nat) : Int)) (Y := ((50 : Nat) : Int)) hx hb (nI_toInt (by omega)) (nI_toInt (by omega)) (tgt := 386) dL_isMember_346 (by decide) (fun c_90 => ?_) (fun c_90 => ?_)
                                    · exact absurd c_90 (by omega)
                                    · skip
                                      refine lv_aload_n hx hb dL_isMember_349 rfl (lv_at hl 4 rfl) ?_
                                      refine lv_iload_n hx hb dL_isMember_350 rfl (lv_at hl 5 rfl) ?_
                                      refine run_i (S := JT) (run_SX (As := [.ref (X 0 0), .int (nI m0)]) (rest := []) (bs := OB E X hs w g g2 hg nx ct j_88) (cb := OB E X hs w g g2 hg nx ct j_88) hx hb hml hown hts hK hZ hDD hA (c_L_spring l hst E _ X hs w g g2 B hI hg nx ct hnx hct j_88 hj_89 (nI m0)) l_L_213 rfl ⟨⟨rfl, rfl⟩, Nat.le_of_ble_eq_true rfl, Nat.le_of_ble_eq_true rfl⟩ [0, 1, 2, 3, 4, 5, 6, 7, 8, 9] rfl (by decide) hP hD hS hl.1 rfl (Nat.le_of_ble_eq_true rfl) dL_isMember_351 ⟨by show (((((((((((((((((0 + 1) + 16 * i) + 1) + 1) + 1) + 1) + 1) + 1) + 1) + 1) + 1) + 1) + 1) + 13) + 1) + 1) + 1) + 1 ≤ 170; omega, by show (((((((((((((((((0 + 6) + 96 * i) + 6) + 6) + 6) + 6) + 6) + 6) + 6) + 6) + 6) + 6) + 6) + 414) + 6) + 6) + 6) + 6 ≤ 1440; omega⟩) hA hP hD hS (isC := [0, 1, 2, 3, 4, 5, 6, 7, 8, 9]) rfl [] [0, 1, 2, 3, 4, 5, 6, 7, 8, 9] (br := []) (bs2 := fun u => OB E X hs w g g2 hg nx ct u) rfl (by decide) (fun _ => rfl) (by decide) (fun r j_91 H locs hw hP hD hS => ?_)
                                      obtain ⟨hw, hj_92⟩ := hw
                                      subst hw
                                      refine tp_i (wf_in hmc (by omega)) ?_
                                      refine nv_if_lt (X := ((g 4 m0 : Nat) : Int)) hx hb (nI_toInt (by omega)) (tgt := 386) dL_isMember_354 (by decide) (fun c_93 => ?_) (fun c_93 => ?_)
                                      · exact absurd c_93 (by omega)
                                      · skip
                                        refine lv_aload_n hx hb dL_isMember_357 rfl (lv_at hl 4 rfl) ?_
                                        refine lv_iload_n hx hb dL_isMember_358 rfl (lv_at hl 5 rfl) ?_
                                        refine run_i (S := JT) (run_SX (As := [.ref (X 0 0), .int (nI m0)]) (rest := []) (bs := OB E X hs w g g2 hg nx ct j_91) (cb := OB E X hs w g g2 hg nx ct j_91) hx hb hml hown hts hK hZ hDD hA (c_L_spring l hst E _ X hs w g g2 B hI hg nx ct hnx hct j_91 hj_92 (nI m0)) l_L_213 rfl ⟨⟨rfl, rfl⟩, Nat.le_of_ble_eq_true rfl, Nat.le_of_ble_eq_true rfl⟩ [0, 1, 2, 3, 4, 5, 6, 7, 8, 9] rfl (by decide) hP hD hS hl.1 rfl (Nat.le_of_ble_eq_true rfl) dL_isMember_359 ⟨by show ((((((((((((((((((0 + 1) + 16 * i) + 1) + 1) + 1) + 1) + 1) + 1) + 1) + 1) + 1) + 1) + 1) + 13) + 1) + 1) + 1) + 1) + 1 ≤ 170; omega, by show ((((((((((((((((((0 + 6) + 96 * i) + 6) + 6) + 6) + 6) + 6) + 6) + 6) + 6) + 6) + 6) + 6) + 414) + 6) + 6) + 6) + 6) + 6 ≤ 1440; omega⟩) hA hP hD hS (isC := [0, 1, 2, 3, 4, 5, 6, 7, 8, 9]) rfl [] [0, 1, 2, 3, 4, 5, 6, 7, 8, 9] (br := []) (bs2 := fun u => OB E X hs w g g2 hg nx ct u) rfl (by decide) (fun _ => rfl) (by decide) (fun r j_94 H locs hw hP hD hS => ?_)
                                        obtain ⟨hw, hj_95⟩ := hw
                                        subst hw
                                        refine tp_i (wf_in hmc (by omega)) ?_
                                        refine lv_bipush (v := nI 60) hx hb dL_isMember_362 (by decide) ?_
                                        refine nv_icmp_gt (X := ((g 4 m0 : Nat) : Int)) (Y := ((60 : Nat) : Int)) hx hb (nI_toInt (by omega)) (nI_toInt (by omega)) (tgt := 386) dL_isMember_364 (by decide) (fun c_96 => ?_) (fun c_96 => ?_)
                                        · exact absurd c_96 (by omega)
                                        · skip
                                          refine lv_aload_n hx hb dL_isMember_367 rfl (lv_at hl 4 rfl) ?_
                                          refine lv_iload_n hx hb dL_isMember_368 rfl (lv_at hl 5 rfl) ?_
                                          refine run_i (S := JT) (run_SX (As := [.ref (X 0 0), .int (nI m0)]) (rest := []) (bs := OB E X hs w g g2 hg nx ct j_94) (cb := OB E X hs w g g2 hg nx ct j_94) hx hb hml hown hts hK hZ hDD hA (c_L_purse l hst E _ X hs w g g2 B hI hg nx ct hnx hct j_94 hj_95 (nI m0)) l_L_207 rfl ⟨⟨rfl, rfl⟩, Nat.le_of_ble_eq_true rfl, Nat.le_of_ble_eq_true rfl⟩ [0, 1, 2, 3, 4, 5, 6, 7, 8, 9] rfl (by decide) hP hD hS hl.1 rfl (Nat.le_of_ble_eq_true rfl) dL_isMember_369 ⟨by show (((((((((((((((((((0 + 1) + 16 * i) + 1) + 1) + 1) + 1) + 1) + 1) + 1) + 1) + 1) + 1) + 1) + 13) + 1) + 1) + 1) + 1) + 1) + 1 ≤ 170; omega, by show (((((((((((((((((((0 + 6) + 96 * i) + 6) + 6) + 6) + 6) + 6) + 6) + 6) + 6) + 6) + 6) + 6) + 414) + 6) + 6) + 6) + 6) + 6) + 6 ≤ 1440; omega⟩) hA hP hD hS (isC := [0, 1, 2, 3, 4, 5, 6, 7, 8, 9]) rfl [] [0, 1, 2, 3, 4, 5, 6, 7, 8, 9] (br := []) (bs2 := fun u => OB E X hs w g g2 hg nx ct u) rfl (by decide) (fun _ => rfl) (by decide) (fun r j_97 H locs hw hP hD hS => ?_)
                                          obtain ⟨hw, hj_98⟩ := hw
                                          subst hw
                                          refine tp_i (wf_in hmc (by omega)) ?_
                                          refine nv_if_lt (X := ((g 5 m0 : Nat) : Int)) hx hb (nI_toInt (by omega)) (tgt := 386) dL_isMember_372 (by decide) (fun c_99 => ?_) (fun c_99 => ?_)
                                          · exact absurd c_99 (by omega)
                                          · skip
                                            refine lv_iload hx hb dL_isMember_375 (lv_at hl 0 rfl) ?_
                                            refine lv_bipush (v := nI 11) hx hb dL_isMember_377 (by decide) ?_
                                            refine nv_icmp_lt (X := ((lnG g m0 : Nat) : Int)) (Y := ((11 : Nat) : Int)) hx hb (nI_toInt (by omega)) (nI_toInt (by omega)) (tgt := 386) dL_isMember_379 (by decide) (fun c_100 => ?_) (fun c_100 => ?_)
                                            · exact absurd c_100 (by omega)
                                            · skip
                                              refine lv_iconst (v := nI 1) hx hb dL_isMember_382 (by decide) ?_
                                              refine lv_goto (tgt := 387) hx hb dL_isMember_383 (by decide) ?_
                                              exact hret _ _ (nI 1) j_97 _ _ _ _ hP hD hS (by decide) ⟨rfl, hj_98⟩ dL_isMember_387 (by omega) (by omega)
      · skip
        have hbi := hI.mem (m := i) (by omega)
        have hpwi := powN_le hI i
        have hps := powN_sum hI i
        have hsy := apG_sym (g := g) (x := m0) (y := i)
        have hap := apG_0 hI hm0 (show i < g 8 0 by omega)
        have hcm := bt_com (g := g) (x := m0) (y := i)
        have hc60 : cmC g m0 i ≤ 60 := cmN_le
        have hmo := powN_mono hm0 (show i < g 8 0 by omega)
        refine lv_iload hx hb dL_isMember_24 (lv_at hl 5 rfl) ?_
        refine lv_aload_n hx hb dL_isMember_26 rfl (lv_at hl 0 rfl) ?_
        refine lv_iload hx hb dL_isMember_27 (lv_at hl 6 rfl) ?_
        refine run_i (S := JT) (run_SX (As := [.ref (X 0 0), .int (nI i)]) (rest := [.int (nI (sm (powN g) i))]) (bs := OB E X hs w g g2 hg nx ct j1) (cb := OB E X hs w g g2 hg nx ct j1) hx hb hml hown hts hK hZ hDD hA (c_L_power l hst E _ X hs w g g2 B hI hg nx ct hnx hct j1 hj1 (nI i)) l_L_296 rfl ⟨⟨rfl, rfl⟩, Nat.le_of_ble_eq_true rfl, Nat.le_of_ble_eq_true rfl⟩ [0, 1, 2, 3, 4, 5, 6, 7, 8, 9] rfl (by decide) hP hD hS hl.1 rfl (Nat.le_of_ble_eq_true rfl) dL_isMember_29 ⟨by show ((0 + 1) + 16 * i) + 1 ≤ 170; omega, by show ((0 + 6) + 96 * i) + 6 ≤ 1440; omega⟩) hA hP hD hS (isC := [0, 1, 2, 3, 4, 5, 6, 7, 8, 9]) rfl [] [0, 1, 2, 3, 4, 5, 6, 7, 8, 9] (br := []) (bs2 := fun u => OB E X hs w g g2 hg nx ct u) rfl (by decide) (fun _ => rfl) (by decide) (fun r j_101 H locs hw hP hD hS => ?_)
        obtain ⟨hw, hj_102⟩ := hw
        subst hw
        refine tp_i (wf_in hmc (by omega)) ?_
        refine nv_iadd hx hb dL_isMember_32 ?_
        refine lv_istore (lv' := [(6, .int (nI (sm (powN g) i + (powN g i)))), (0, .ref (X 0 0)), (1, .int (nI m0)), (2, .int (nI (allSh g))), (3, .int (nI (g 8 0))), (4, .long (lN (dlk g m0 60))), (7, .int (nI i))]) hx hb dL_isMember_33 hl (by decide) rfl (fun ls hl => ?_)
        refine lv_aload_n hx hb dL_isMember_35 rfl (lv_at hl 1 rfl) ?_
        refine lv_iload_n hx hb dL_isMember_36 rfl (lv_at hl 2 rfl) ?_
        refine lv_iload hx hb dL_isMember_37 (lv_at hl 6 rfl) ?_
        refine run_i (S := JT) (run_SX (As := [.ref (X 0 0), .int (nI m0), .int (nI i)]) (rest := []) (bs := OB E X hs w g g2 hg nx ct j_101) (cb := OB E X hs w g g2 hg nx ct j_101) hx hb hml hown hts hK hZ hDD hA (c_L_interval l hst E _ X hs w g g2 B hI hg nx ct hnx hct j_101 hj_102 (nI m0) (nI i)) l_L_298 rfl ⟨⟨rfl, rfl⟩, Nat.le_of_ble_eq_true rfl, Nat.le_of_ble_eq_true rfl⟩ [0, 1, 2, 3, 4, 5, 6, 7, 8, 9] rfl (by decide) hP hD hS hl.1 rfl (Nat.le_of_ble_eq_true rfl) dL_isMember_39 ⟨by show (((0 + 1) + 16 * i) + 1) + 2 ≤ 170; omega, by show (((0 + 6) + 96 * i) + 6) + 12 ≤ 1440; omega⟩) hA hP hD hS (isC := [0, 1, 2, 3, 4, 5, 6, 7, 8, 9]) rfl [] [0, 1, 2, 3, 4, 5, 6, 7, 8, 9] (br := []) (bs2 := fun u => OB E X hs w g g2 hg nx ct u) rfl (by decide) (fun _ => rfl) (by decide) (fun r j_103 H locs hw hP hD hS => ?_)
        obtain ⟨hw, hj_104⟩ := hw
        subst hw
        refine tp_i (wf2_in hmc (by omega) (by omega)) ?_
        refine lv_istore (lv' := [(8, .int (nI (apG g m0 i))), (6, .int (nI (sm (powN g) i + (powN g i)))), (0, .ref (X 0 0)), (1, .int (nI m0)), (2, .int (nI (allSh g))), (3, .int (nI (g 8 0))), (4, .long (lN (dlk g m0 60))), (7, .int (nI i))]) hx hb dL_isMember_42 hl (by decide) rfl (fun ls hl => ?_)
        refine lv_iload hx hb dL_isMember_44 (lv_at hl 0 rfl) ?_
        refine lv_aload_n hx hb dL_isMember_46 rfl (lv_at hl 2 rfl) ?_
        refine lv_iload hx hb dL_isMember_47 (lv_at hl 7 rfl) ?_
        refine lv_iload_n hx hb dL_isMember_49 rfl (lv_at hl 3 rfl) ?_
        refine run_i (S := JT) (run_SX (As := [.ref (X 0 0), .int (nI i), .int (nI m0)]) (rest := [.int (nI (apG g m0 i))]) (bs := OB E X hs w g g2 hg nx ct j_103) (cb := OB E X hs w g g2 hg nx ct j_103) hx hb hml hown hts hK hZ hDD hA (c_L_interval l hst E _ X hs w g g2 B hI hg nx ct hnx hct j_103 hj_104 (nI i) (nI m0)) l_L_298 rfl ⟨⟨rfl, rfl⟩, Nat.le_of_ble_eq_true rfl, Nat.le_of_ble_eq_true rfl⟩ [0, 1, 2, 3, 4, 5, 6, 7, 8, 9] rfl (by decide) hP hD hS hl.1 rfl (Nat.le_of_ble_eq_true rfl) dL_isMember_50 ⟨by show ((((0 + 1) + 16 * i) + 1) + 2) + 2 ≤ 170; omega, by show ((((0 + 6) + 96 * i) + 6) + 12) + 12 ≤ 1440; omega⟩) hA hP hD hS (isC := [0, 1, 2, 3, 4, 5, 6, 7, 8, 9]) rfl [] [0, 1, 2, 3, 4, 5, 6, 7, 8, 9] (br := []) (bs2 := fun u => OB E X hs w g g2 hg nx ct u) rfl (by decide) (fun _ => rfl) (by decide) (fun r j_105 H locs hw hP hD hS => ?_)
        obtain ⟨hw, hj_106⟩ := hw
        subst hw
        refine tp_i (wf2_in hmc (by omega) (by omega)) ?_
        refine nv_icmp_ne (X := ((apG g m0 i : Nat) : Int)) (Y := ((apG g i m0 : Nat) : Int)) hx hb (nI_toInt (by omega)) (nI_toInt (by omega)) (tgt := 150) dL_isMember_53 (by decide) (fun c_107 => ?_) (fun c_107 => ?_)
        · exact absurd c_107 (by omega)
        · skip
          refine lv_iload hx hb dL_isMember_56 (lv_at hl 0 rfl) ?_
          refine nv_if_lt (X := ((apG g m0 i : Nat) : Int)) hx hb (nI_toInt (by omega)) (tgt := 150) dL_isMember_58 (by decide) (fun c_108 => ?_) (fun c_108 => ?_)
          · exact absurd c_108 (by omega)
          · skip
            refine lv_iload hx hb dL_isMember_61 (lv_at hl 0 rfl) ?_
            refine lv_bipush (v := nI 6) hx hb dL_isMember_63 (by decide) ?_
            refine nv_icmp_gt (X := ((apG g m0 i : Nat) : Int)) (Y := ((6 : Nat) : Int)) hx hb (nI_toInt (by omega)) (nI_toInt (by omega)) (tgt := 150) dL_isMember_65 (by decide) (fun c_109 => ?_) (fun c_109 => ?_)
            · exact absurd c_109 (by omega)
            · skip
              refine lv_iload hx hb dL_isMember_68 (lv_at hl 0 rfl) ?_
              refine nv_if_ne (X := ((apG g m0 i : Nat) : Int)) hx hb (nI_toInt (by omega)) (tgt := 77) dL_isMember_70 (by decide) (fun c_110 => ?_) (fun c_110 => ?_)
              · skip
                refine lv_iconst (v := nI 0) hx hb dL_isMember_77 (by decide) ?_
                refine lv_aload_n hx hb dL_isMember_78 rfl (lv_at hl 2 rfl) ?_
                refine lv_iload_n hx hb dL_isMember_79 rfl (lv_at hl 3 rfl) ?_
                refine run_i (S := JT) (run_SX (As := [.ref (X 0 0), .int (nI m0)]) (rest := [.int (nI 0)]) (bs := OB E X hs w g g2 hg nx ct j_105) (cb := OB E X hs w g g2 hg nx ct j_105) hx hb hml hown hts hK hZ hDD hA (c_L_tone l hst E _ X hs w g g2 B hI hg nx ct hnx hct j_105 hj_106 (nI m0)) l_L_289 rfl ⟨⟨rfl, rfl⟩, Nat.le_of_ble_eq_true rfl, Nat.le_of_ble_eq_true rfl⟩ [0, 1, 2, 3, 4, 5, 6, 7, 8, 9] rfl (by decide) hP hD hS hl.1 rfl (Nat.le_of_ble_eq_true rfl) dL_isMember_80 ⟨by show (((((0 + 1) + 16 * i) + 1) + 2) + 2) + 1 ≤ 170; omega, by show (((((0 + 6) + 96 * i) + 6) + 12) + 12) + 6 ≤ 1440; omega⟩) hA hP hD hS (isC := [0, 1, 2, 3, 4, 5, 6, 7, 8, 9]) rfl [] [0, 1, 2, 3, 4, 5, 6, 7, 8, 9] (br := []) (bs2 := fun u => OB E X hs w g g2 hg nx ct u) rfl (by decide) (fun _ => rfl) (by decide) (fun r j_111 H locs hw hP hD hS => ?_)
                obtain ⟨hw, hj_112⟩ := hw
                subst hw
                refine tp_i (wf_in hmc (by omega)) ?_
                refine lv_aload_n hx hb dL_isMember_83 rfl (lv_at hl 2 rfl) ?_
                refine lv_iload hx hb dL_isMember_84 (lv_at hl 7 rfl) ?_
                refine run_i (S := JT) (run_SX (As := [.ref (X 0 0), .int (nI i)]) (rest := [.int (nI (g 3 m0)), .int (nI 0)]) (bs := OB E X hs w g g2 hg nx ct j_111) (cb := OB E X hs w g g2 hg nx ct j_111) hx hb hml hown hts hK hZ hDD hA (c_L_tone l hst E _ X hs w g g2 B hI hg nx ct hnx hct j_111 hj_112 (nI i)) l_L_289 rfl ⟨⟨rfl, rfl⟩, Nat.le_of_ble_eq_true rfl, Nat.le_of_ble_eq_true rfl⟩ [0, 1, 2, 3, 4, 5, 6, 7, 8, 9] rfl (by decide) hP hD hS hl.1 rfl (Nat.le_of_ble_eq_true rfl) dL_isMember_86 ⟨by show ((((((0 + 1) + 16 * i) + 1) + 2) + 2) + 1) + 1 ≤ 170; omega, by show ((((((0 + 6) + 96 * i) + 6) + 12) + 12) + 6) + 6 ≤ 1440; omega⟩) hA hP hD hS (isC := [0, 1, 2, 3, 4, 5, 6, 7, 8, 9]) rfl [] [0, 1, 2, 3, 4, 5, 6, 7, 8, 9] (br := []) (bs2 := fun u => OB E X hs w g g2 hg nx ct u) rfl (by decide) (fun _ => rfl) (by decide) (fun r j_113 H locs hw hP hD hS => ?_)
                obtain ⟨hw, hj_114⟩ := hw
                subst hw
                refine tp_i (wf_in hmc (by omega)) ?_
                refine nv_icmp_ne (X := ((g 3 m0 : Nat) : Int)) (Y := ((g 3 i : Nat) : Int)) hx hb (nI_toInt (by omega)) (nI_toInt (by omega)) (tgt := 96) dL_isMember_89 (by decide) (fun c_115 => ?_) (fun c_115 => ?_)
                · skip
                  refine lv_iconst (v := nI 0) hx hb dL_isMember_96 (by decide) ?_
                  refine nv_icmp_ne (X := ((0 : Nat) : Int)) (Y := ((0 : Nat) : Int)) hx hb (nI_toInt (by omega)) (nI_toInt (by omega)) (tgt := 150) dL_isMember_97 (by decide) (fun c_116 => ?_) (fun c_116 => ?_)
                  · exact absurd c_116 (by omega)
                  · skip
                    refine lv_aload_n hx hb dL_isMember_100 rfl (lv_at hl 2 rfl) ?_
                    refine lv_iload_n hx hb dL_isMember_101 rfl (lv_at hl 3 rfl) ?_
                    refine lv_iload hx hb dL_isMember_102 (lv_at hl 7 rfl) ?_
                    refine run_i (S := JT) (run_SX (As := [.ref (X 0 0), .int (nI m0), .int (nI i)]) (rest := []) (bs := OB E X hs w g g2 hg nx ct j_113) (cb := OB E X hs w g g2 hg nx ct j_113) hx hb hml hown hts hK hZ hDD hA (c_L_commonBeats l hst E _ X hs w g g2 B hI hg nx ct hnx hct j_113 hj_114 (nI m0) (nI i)) l_L_300 rfl ⟨⟨rfl, rfl⟩, Nat.le_of_ble_eq_true rfl, Nat.le_of_ble_eq_true rfl⟩ [0, 1, 2, 3, 4, 5, 6, 7, 8, 9] rfl (by decide) hP hD hS hl.1 rfl (Nat.le_of_ble_eq_true rfl) dL_isMember_104 ⟨by show (((((((0 + 1) + 16 * i) + 1) + 2) + 2) + 1) + 1) + 2 ≤ 170; omega, by show (((((((0 + 6) + 96 * i) + 6) + 12) + 12) + 6) + 6) + 12 ≤ 1440; omega⟩) hA hP hD hS (isC := [0, 1, 2, 3, 4, 5, 6, 7, 8, 9]) rfl [] [0, 1, 2, 3, 4, 5, 6, 7, 8, 9] (br := []) (bs2 := fun u => OB E X hs w g g2 hg nx ct u) rfl (by decide) (fun _ => rfl) (by decide) (fun r j_117 H locs hw hP hD hS => ?_)
                    obtain ⟨hw, hj_118⟩ := hw
                    subst hw
                    refine tp_i (wf2_in hmc (by omega) (by omega)) ?_
                    refine lv_lload hx hb dL_isMember_107 (lv_at hl 6 rfl) ?_
                    refine lv_aload_n hx hb dL_isMember_109 rfl (lv_at hl 2 rfl) ?_
                    refine lv_iload hx hb dL_isMember_110 (lv_at hl 7 rfl) ?_
                    refine run_l (S := JT) (run_SX (As := [.ref (X 0 0), .int (nI i)]) (rest := [.long (lN (dlk g m0 60)), .int (nI (cmC g m0 i))]) (bs := OB E X hs w g g2 hg nx ct j_117) (cb := OB E X hs w g g2 hg nx ct j_117) hx hb hml hown hts hK hZ hDD hA (c_L_dueBeats l hst E _ X hs w g g2 B hI hg nx ct hnx hct j_117 hj_118 (nI i)) l_L_291 rfl ⟨⟨rfl, rfl⟩, Nat.le_of_ble_eq_true rfl, Nat.le_of_ble_eq_true rfl⟩ [0, 1, 2, 3, 4, 5, 6, 7, 8, 9] rfl (by decide) hP hD hS hl.1 rfl (Nat.le_of_ble_eq_true rfl) dL_isMember_112 ⟨by show ((((((((0 + 1) + 16 * i) + 1) + 2) + 2) + 1) + 1) + 2) + 1 ≤ 170; omega, by show ((((((((0 + 6) + 96 * i) + 6) + 12) + 12) + 6) + 6) + 12) + 6 ≤ 1440; omega⟩) hA hP hD hS (isC := [0, 1, 2, 3, 4, 5, 6, 7, 8, 9]) rfl [] [0, 1, 2, 3, 4, 5, 6, 7, 8, 9] (br := []) (bs2 := fun u => OB E X hs w g g2 hg nx ct u) rfl (by decide) (fun _ => rfl) (by decide) (fun r j_119 H locs hw hP hD hS => ?_)
                    obtain ⟨hw, hj_120⟩ := hw
                    subst hw
                    refine tp_l (wl_in hmc (by omega)) ?_
                    refine nv_land hx hb (dlk_64 (Nat.le_refl _)) (dlk_64 (Nat.le_refl _)) dL_isMember_115 ?_
                    refine run_i (S := Unit) (run_S (As := [.long (lN (dlk g m0 60 &&& dlk g i 60))]) (rest := [.int (nI (cmC g m0 i))]) (bs := OB E X hs w g g2 hg nx ct j_119) (cb := []) hx hb hml hown hts hK hZ hA (c_L_bits l E _ (dlk g m0 60 &&& dlk g i 60) (Nat.and_lt_two_pow _ (dlk_64 (Nat.le_refl _)))) l_L_302 rfl ⟨⟨rfl, rfl⟩, Nat.le_of_ble_eq_true rfl, Nat.le_of_ble_eq_true rfl⟩ [] rfl (by decide) hP hD hS hl.1 rfl (Nat.le_of_ble_eq_true rfl) dL_isMember_116 ⟨by show (((((((((0 + 1) + 16 * i) + 1) + 2) + 2) + 1) + 1) + 2) + 1) + 0 ≤ 170; omega, by show (((((((((0 + 6) + 96 * i) + 6) + 12) + 12) + 6) + 6) + 12) + 6) + 0 ≤ 1440; omega⟩) hA hP hD hS (isC := []) rfl [0, 1, 2, 3, 4, 5, 6, 7, 8, 9] [0, 1, 2, 3, 4, 5, 6, 7, 8, 9] (br := OB E X hs w g g2 hg nx ct j_119) (bs2 := fun _ => OB E X hs w g g2 hg nx ct j_119) rfl (by decide) (fun _ => rfl) (by decide) (fun r u H locs hw hP hD hS => ?_)
                    subst hw
                    refine nv_icmp_ne (X := ((cmC g m0 i : Nat) : Int)) (Y := ((bt60 (dlk g m0 60 &&& dlk g i 60) : Nat) : Int)) hx hb (nI_toInt (by omega)) (nI_toInt (Nat.lt_of_le_of_lt (bt_le 60) (by decide))) (tgt := 150) dL_isMember_119 (by decide) (fun c_121 => ?_) (fun c_121 => ?_)
                    · exact absurd c_121 (by omega)
                    · skip
                      refine lv_aload_n hx hb dL_isMember_122 rfl (lv_at hl 2 rfl) ?_
                      refine lv_iload hx hb dL_isMember_123 (lv_at hl 7 rfl) ?_
                      refine run_i (S := JT) (run_SX (As := [.ref (X 0 0), .int (nI i)]) (rest := []) (bs := OB E X hs w g g2 hg nx ct j_119) (cb := OB E X hs w g g2 hg nx ct j_119) hx hb hml hown hts hK hZ hDD hA (c_L_shares l hst E _ X hs w g g2 B hI hg nx ct hnx hct j_119 hj_120 (nI i)) l_L_209 rfl ⟨⟨rfl, rfl⟩, Nat.le_of_ble_eq_true rfl, Nat.le_of_ble_eq_true rfl⟩ [0, 1, 2, 3, 4, 5, 6, 7, 8, 9] rfl (by decide) hP hD hS hl.1 rfl (Nat.le_of_ble_eq_true rfl) dL_isMember_125 ⟨by show (((((((((0 + 1) + 16 * i) + 1) + 2) + 2) + 1) + 1) + 2) + 1) + 1 ≤ 170; omega, by show (((((((((0 + 6) + 96 * i) + 6) + 12) + 12) + 6) + 6) + 12) + 6) + 6 ≤ 1440; omega⟩) hA hP hD hS (isC := [0, 1, 2, 3, 4, 5, 6, 7, 8, 9]) rfl [] [0, 1, 2, 3, 4, 5, 6, 7, 8, 9] (br := []) (bs2 := fun u => OB E X hs w g g2 hg nx ct u) rfl (by decide) (fun _ => rfl) (by decide) (fun r j_122 H locs hw hP hD hS => ?_)
                      obtain ⟨hw, hj_123⟩ := hw
                      subst hw
                      refine tp_i (wf_in hmc (by omega)) ?_
                      refine lv_aload_n hx hb dL_isMember_128 rfl (lv_at hl 2 rfl) ?_
                      refine lv_iload_n hx hb dL_isMember_129 rfl (lv_at hl 3 rfl) ?_
                      refine run_i (S := JT) (run_SX (As := [.ref (X 0 0), .int (nI m0)]) (rest := [.int (nI (g 0 i))]) (bs := OB E X hs w g g2 hg nx ct j_122) (cb := OB E X hs w g g2 hg nx ct j_122) hx hb hml hown hts hK hZ hDD hA (c_L_shares l hst E _ X hs w g g2 B hI hg nx ct hnx hct j_122 hj_123 (nI m0)) l_L_209 rfl ⟨⟨rfl, rfl⟩, Nat.le_of_ble_eq_true rfl, Nat.le_of_ble_eq_true rfl⟩ [0, 1, 2, 3, 4, 5, 6, 7, 8, 9] rfl (by decide) hP hD hS hl.1 rfl (Nat.le_of_ble_eq_true rfl) dL_isMember_130 ⟨by show ((((((((((0 + 1) + 16 * i) + 1) + 2) + 2) + 1) + 1) + 2) + 1) + 1) + 1 ≤ 170; omega, by show ((((((((((0 + 6) + 96 * i) + 6) + 12) + 12) + 6) + 6) + 12) + 6) + 6) + 6 ≤ 1440; omega⟩) hA hP hD hS (isC := [0, 1, 2, 3, 4, 5, 6, 7, 8, 9]) rfl [] [0, 1, 2, 3, 4, 5, 6, 7, 8, 9] (br := []) (bs2 := fun u => OB E X hs w g g2 hg nx ct u) rfl (by decide) (fun _ => rfl) (by decide) (fun r j_124 H locs hw hP hD hS => ?_)
                      obtain ⟨hw, hj_125⟩ := hw
                      subst hw
                      refine tp_i (wf_in hmc (by omega)) ?_
                      refine nv_icmp_le (X := ((g 0 i : Nat) : Int)) (Y := ((g 0 m0 : Nat) : Int)) hx hb (nI_toInt (by omega)) (nI_toInt (by omega)) (tgt := 152) dL_isMember_133 (by decide) (fun c_126 => ?_) (fun c_126 => ?_)
                      · skip
                        refine lv_iinc (v := nI (i + 1)) (lv' := [(7, .int (nI (i + 1))), (8, .int (nI (apG g m0 i))), (6, .int (nI (sm (powN g) i + (powN g i)))), (0, .ref (X 0 0)), (1, .int (nI m0)), (2, .int (nI (allSh g))), (3, .int (nI (g 8 0))), (4, .long (lN (dlk g m0 60)))]) hx hb dL_isMember_152 hl (k := 7) rfl (nI_add i 1) (by decide) rfl (fun ls hl => ?_)
                        refine lv_goto (tgt := 18) hx hb dL_isMember_155 (by decide) ?_
                        exact W_widen (by omega) (by omega) (ih18 (i + 1) j_124 (by omega) hj_125 (by omega) _ _ _ hP hD hS (lv_sub hl [3, 4, 5, 6, 7, 2, 0] rfl))
                      · skip
                        refine lv_aload_n hx hb dL_isMember_136 rfl (lv_at hl 2 rfl) ?_
                        refine lv_iload hx hb dL_isMember_137 (lv_at hl 7 rfl) ?_
                        refine run_i (S := JT) (run_SX (As := [.ref (X 0 0), .int (nI i)]) (rest := []) (bs := OB E X hs w g g2 hg nx ct j_124) (cb := OB E X hs w g g2 hg nx ct j_124) hx hb hml hown hts hK hZ hDD hA (c_L_power l hst E _ X hs w g g2 B hI hg nx ct hnx hct j_124 hj_125 (nI i)) l_L_296 rfl ⟨⟨rfl, rfl⟩, Nat.le_of_ble_eq_true rfl, Nat.le_of_ble_eq_true rfl⟩ [0, 1, 2, 3, 4, 5, 6, 7, 8, 9] rfl (by decide) hP hD hS hl.1 rfl (Nat.le_of_ble_eq_true rfl) dL_isMember_139 ⟨by show (((((((((((0 + 1) + 16 * i) + 1) + 2) + 2) + 1) + 1) + 2) + 1) + 1) + 1) + 1 ≤ 170; omega, by show (((((((((((0 + 6) + 96 * i) + 6) + 12) + 12) + 6) + 6) + 12) + 6) + 6) + 6) + 6 ≤ 1440; omega⟩) hA hP hD hS (isC := [0, 1, 2, 3, 4, 5, 6, 7, 8, 9]) rfl [] [0, 1, 2, 3, 4, 5, 6, 7, 8, 9] (br := []) (bs2 := fun u => OB E X hs w g g2 hg nx ct u) rfl (by decide) (fun _ => rfl) (by decide) (fun r j_127 H locs hw hP hD hS => ?_)
                        obtain ⟨hw, hj_128⟩ := hw
                        subst hw
                        refine tp_i (wf_in hmc (by omega)) ?_
                        refine lv_aload_n hx hb dL_isMember_142 rfl (lv_at hl 2 rfl) ?_
                        refine lv_iload_n hx hb dL_isMember_143 rfl (lv_at hl 3 rfl) ?_
                        refine run_i (S := JT) (run_SX (As := [.ref (X 0 0), .int (nI m0)]) (rest := [.int (nI (powN g i))]) (bs := OB E X hs w g g2 hg nx ct j_127) (cb := OB E X hs w g g2 hg nx ct j_127) hx hb hml hown hts hK hZ hDD hA (c_L_power l hst E _ X hs w g g2 B hI hg nx ct hnx hct j_127 hj_128 (nI m0)) l_L_296 rfl ⟨⟨rfl, rfl⟩, Nat.le_of_ble_eq_true rfl, Nat.le_of_ble_eq_true rfl⟩ [0, 1, 2, 3, 4, 5, 6, 7, 8, 9] rfl (by decide) hP hD hS hl.1 rfl (Nat.le_of_ble_eq_true rfl) dL_isMember_144 ⟨by show ((((((((((((0 + 1) + 16 * i) + 1) + 2) + 2) + 1) + 1) + 2) + 1) + 1) + 1) + 1) + 1 ≤ 170; omega, by show ((((((((((((0 + 6) + 96 * i) + 6) + 12) + 12) + 6) + 6) + 12) + 6) + 6) + 6) + 6) + 6 ≤ 1440; omega⟩) hA hP hD hS (isC := [0, 1, 2, 3, 4, 5, 6, 7, 8, 9]) rfl [] [0, 1, 2, 3, 4, 5, 6, 7, 8, 9] (br := []) (bs2 := fun u => OB E X hs w g g2 hg nx ct u) rfl (by decide) (fun _ => rfl) (by decide) (fun r j_129 H locs hw hP hD hS => ?_)
                        obtain ⟨hw, hj_130⟩ := hw
                        subst hw
                        refine tp_i (wf_in hmc (by omega)) ?_
                        refine nv_icmp_ge (X := ((powN g i : Nat) : Int)) (Y := ((powN g m0 : Nat) : Int)) hx hb (nI_toInt (by omega)) (nI_toInt (by omega)) (tgt := 152) dL_isMember_147 (by decide) (fun c_131 => ?_) (fun c_131 => ?_)
                        · skip
                          refine lv_iinc (v := nI (i + 1)) (lv' := [(7, .int (nI (i + 1))), (8, .int (nI (apG g m0 i))), (6, .int (nI (sm (powN g) i + (powN g i)))), (0, .ref (X 0 0)), (1, .int (nI m0)), (2, .int (nI (allSh g))), (3, .int (nI (g 8 0))), (4, .long (lN (dlk g m0 60)))]) hx hb dL_isMember_152 hl (k := 7) rfl (nI_add i 1) (by decide) rfl (fun ls hl => ?_)
                          refine lv_goto (tgt := 18) hx hb dL_isMember_155 (by decide) ?_
                          exact W_widen (by omega) (by omega) (ih18 (i + 1) j_129 (by omega) hj_130 (by omega) _ _ _ hP hD hS (lv_sub hl [3, 4, 5, 6, 7, 2, 0] rfl))
                        · exact absurd c_131 (by omega)
                · exact absurd c_115 (by omega)
              · skip
                refine lv_iconst (v := nI 1) hx hb dL_isMember_73 (by decide) ?_
                refine lv_goto (tgt := 78) hx hb dL_isMember_74 (by decide) ?_
                refine lv_aload_n hx hb dL_isMember_78 rfl (lv_at hl 2 rfl) ?_
                refine lv_iload_n hx hb dL_isMember_79 rfl (lv_at hl 3 rfl) ?_
                refine run_i (S := JT) (run_SX (As := [.ref (X 0 0), .int (nI m0)]) (rest := [.int (nI 1)]) (bs := OB E X hs w g g2 hg nx ct j_105) (cb := OB E X hs w g g2 hg nx ct j_105) hx hb hml hown hts hK hZ hDD hA (c_L_tone l hst E _ X hs w g g2 B hI hg nx ct hnx hct j_105 hj_106 (nI m0)) l_L_289 rfl ⟨⟨rfl, rfl⟩, Nat.le_of_ble_eq_true rfl, Nat.le_of_ble_eq_true rfl⟩ [0, 1, 2, 3, 4, 5, 6, 7, 8, 9] rfl (by decide) hP hD hS hl.1 rfl (Nat.le_of_ble_eq_true rfl) dL_isMember_80 ⟨by show (((((0 + 1) + 16 * i) + 1) + 2) + 2) + 1 ≤ 170; omega, by show (((((0 + 6) + 96 * i) + 6) + 12) + 12) + 6 ≤ 1440; omega⟩) hA hP hD hS (isC := [0, 1, 2, 3, 4, 5, 6, 7, 8, 9]) rfl [] [0, 1, 2, 3, 4, 5, 6, 7, 8, 9] (br := []) (bs2 := fun u => OB E X hs w g g2 hg nx ct u) rfl (by decide) (fun _ => rfl) (by decide) (fun r j_132 H locs hw hP hD hS => ?_)
                obtain ⟨hw, hj_133⟩ := hw
                subst hw
                refine tp_i (wf_in hmc (by omega)) ?_
                refine lv_aload_n hx hb dL_isMember_83 rfl (lv_at hl 2 rfl) ?_
                refine lv_iload hx hb dL_isMember_84 (lv_at hl 7 rfl) ?_
                refine run_i (S := JT) (run_SX (As := [.ref (X 0 0), .int (nI i)]) (rest := [.int (nI (g 3 m0)), .int (nI 1)]) (bs := OB E X hs w g g2 hg nx ct j_132) (cb := OB E X hs w g g2 hg nx ct j_132) hx hb hml hown hts hK hZ hDD hA (c_L_tone l hst E _ X hs w g g2 B hI hg nx ct hnx hct j_132 hj_133 (nI i)) l_L_289 rfl ⟨⟨rfl, rfl⟩, Nat.le_of_ble_eq_true rfl, Nat.le_of_ble_eq_true rfl⟩ [0, 1, 2, 3, 4, 5, 6, 7, 8, 9] rfl (by decide) hP hD hS hl.1 rfl (Nat.le_of_ble_eq_true rfl) dL_isMember_86 ⟨by show ((((((0 + 1) + 16 * i) + 1) + 2) + 2) + 1) + 1 ≤ 170; omega, by show ((((((0 + 6) + 96 * i) + 6) + 12) + 12) + 6) + 6 ≤ 1440; omega⟩) hA hP hD hS (isC := [0, 1, 2, 3, 4, 5, 6, 7, 8, 9]) rfl [] [0, 1, 2, 3, 4, 5, 6, 7, 8, 9] (br := []) (bs2 := fun u => OB E X hs w g g2 hg nx ct u) rfl (by decide) (fun _ => rfl) (by decide) (fun r j_134 H locs hw hP hD hS => ?_)
                obtain ⟨hw, hj_135⟩ := hw
                subst hw
                refine tp_i (wf_in hmc (by omega)) ?_
                refine nv_icmp_ne (X := ((g 3 m0 : Nat) : Int)) (Y := ((g 3 i : Nat) : Int)) hx hb (nI_toInt (by omega)) (nI_toInt (by omega)) (tgt := 96) dL_isMember_89 (by decide) (fun c_136 => ?_) (fun c_136 => ?_)
                · exact absurd c_136 (by omega)
                · skip
                  refine lv_iconst (v := nI 1) hx hb dL_isMember_92 (by decide) ?_
                  refine lv_goto (tgt := 97) hx hb dL_isMember_93 (by decide) ?_
                  refine nv_icmp_ne (X := ((1 : Nat) : Int)) (Y := ((1 : Nat) : Int)) hx hb (nI_toInt (by omega)) (nI_toInt (by omega)) (tgt := 150) dL_isMember_97 (by decide) (fun c_137 => ?_) (fun c_137 => ?_)
                  · exact absurd c_137 (by omega)
                  · skip
                    refine lv_aload_n hx hb dL_isMember_100 rfl (lv_at hl 2 rfl) ?_
                    refine lv_iload_n hx hb dL_isMember_101 rfl (lv_at hl 3 rfl) ?_
                    refine lv_iload hx hb dL_isMember_102 (lv_at hl 7 rfl) ?_
                    refine run_i (S := JT) (run_SX (As := [.ref (X 0 0), .int (nI m0), .int (nI i)]) (rest := []) (bs := OB E X hs w g g2 hg nx ct j_134) (cb := OB E X hs w g g2 hg nx ct j_134) hx hb hml hown hts hK hZ hDD hA (c_L_commonBeats l hst E _ X hs w g g2 B hI hg nx ct hnx hct j_134 hj_135 (nI m0) (nI i)) l_L_300 rfl ⟨⟨rfl, rfl⟩, Nat.le_of_ble_eq_true rfl, Nat.le_of_ble_eq_true rfl⟩ [0, 1, 2, 3, 4, 5, 6, 7, 8, 9] rfl (by decide) hP hD hS hl.1 rfl (Nat.le_of_ble_eq_true rfl) dL_isMember_104 ⟨by show (((((((0 + 1) + 16 * i) + 1) + 2) + 2) + 1) + 1) + 2 ≤ 170; omega, by show (((((((0 + 6) + 96 * i) + 6) + 12) + 12) + 6) + 6) + 12 ≤ 1440; omega⟩) hA hP hD hS (isC := [0, 1, 2, 3, 4, 5, 6, 7, 8, 9]) rfl [] [0, 1, 2, 3, 4, 5, 6, 7, 8, 9] (br := []) (bs2 := fun u => OB E X hs w g g2 hg nx ct u) rfl (by decide) (fun _ => rfl) (by decide) (fun r j_138 H locs hw hP hD hS => ?_)
                    obtain ⟨hw, hj_139⟩ := hw
                    subst hw
                    refine tp_i (wf2_in hmc (by omega) (by omega)) ?_
                    refine lv_lload hx hb dL_isMember_107 (lv_at hl 6 rfl) ?_
                    refine lv_aload_n hx hb dL_isMember_109 rfl (lv_at hl 2 rfl) ?_
                    refine lv_iload hx hb dL_isMember_110 (lv_at hl 7 rfl) ?_
                    refine run_l (S := JT) (run_SX (As := [.ref (X 0 0), .int (nI i)]) (rest := [.long (lN (dlk g m0 60)), .int (nI (cmC g m0 i))]) (bs := OB E X hs w g g2 hg nx ct j_138) (cb := OB E X hs w g g2 hg nx ct j_138) hx hb hml hown hts hK hZ hDD hA (c_L_dueBeats l hst E _ X hs w g g2 B hI hg nx ct hnx hct j_138 hj_139 (nI i)) l_L_291 rfl ⟨⟨rfl, rfl⟩, Nat.le_of_ble_eq_true rfl, Nat.le_of_ble_eq_true rfl⟩ [0, 1, 2, 3, 4, 5, 6, 7, 8, 9] rfl (by decide) hP hD hS hl.1 rfl (Nat.le_of_ble_eq_true rfl) dL_isMember_112 ⟨by show ((((((((0 + 1) + 16 * i) + 1) + 2) + 2) + 1) + 1) + 2) + 1 ≤ 170; omega, by show ((((((((0 + 6) + 96 * i) + 6) + 12) + 12) + 6) + 6) + 12) + 6 ≤ 1440; omega⟩) hA hP hD hS (isC := [0, 1, 2, 3, 4, 5, 6, 7, 8, 9]) rfl [] [0, 1, 2, 3, 4, 5, 6, 7, 8, 9] (br := []) (bs2 := fun u => OB E X hs w g g2 hg nx ct u) rfl (by decide) (fun _ => rfl) (by decide) (fun r j_140 H locs hw hP hD hS => ?_)
                    obtain ⟨hw, hj_141⟩ := hw
                    subst hw
                    refine tp_l (wl_in hmc (by omega)) ?_
                    refine nv_land hx hb (dlk_64 (Nat.le_refl _)) (dlk_64 (Nat.le_refl _)) dL_isMember_115 ?_
                    refine run_i (S := Unit) (run_S (As := [.long (lN (dlk g m0 60 &&& dlk g i 60))]) (rest := [.int (nI (cmC g m0 i))]) (bs := OB E X hs w g g2 hg nx ct j_140) (cb := []) hx hb hml hown hts hK hZ hA (c_L_bits l E _ (dlk g m0 60 &&& dlk g i 60) (Nat.and_lt_two_pow _ (dlk_64 (Nat.le_refl _)))) l_L_302 rfl ⟨⟨rfl, rfl⟩, Nat.le_of_ble_eq_true rfl, Nat.le_of_ble_eq_true rfl⟩ [] rfl (by decide) hP hD hS hl.1 rfl (Nat.le_of_ble_eq_true rfl) dL_isMember_116 ⟨by show (((((((((0 + 1) + 16 * i) + 1) + 2) + 2) + 1) + 1) + 2) + 1) + 0 ≤ 170; omega, by show (((((((((0 + 6) + 96 * i) + 6) + 12) + 12) + 6) + 6) + 12) + 6) + 0 ≤ 1440; omega⟩) hA hP hD hS (isC := []) rfl [0, 1, 2, 3, 4, 5, 6, 7, 8, 9] [0, 1, 2, 3, 4, 5, 6, 7, 8, 9] (br := OB E X hs w g g2 hg nx ct j_140) (bs2 := fun _ => OB E X hs w g g2 hg nx ct j_140) rfl (by decide) (fun _ => rfl) (by decide) (fun r u H locs hw hP hD hS => ?_)
                    subst hw
                    refine nv_icmp_ne (X := ((cmC g m0 i : Nat) : Int)) (Y := ((bt60 (dlk g m0 60 &&& dlk g i 60) : Nat) : Int)) hx hb (nI_toInt (by omega)) (nI_toInt (Nat.lt_of_le_of_lt (bt_le 60) (by decide))) (tgt := 150) dL_isMember_119 (by decide) (fun c_142 => ?_) (fun c_142 => ?_)
                    · exact absurd c_142 (by omega)
                    · skip
                      refine lv_aload_n hx hb dL_isMember_122 rfl (lv_at hl 2 rfl) ?_
                      refine lv_iload hx hb dL_isMember_123 (lv_at hl 7 rfl) ?_
                      refine run_i (S := JT) (run_SX (As := [.ref (X 0 0), .int (nI i)]) (rest := []) (bs := OB E X hs w g g2 hg nx ct j_140) (cb := OB E X hs w g g2 hg nx ct j_140) hx hb hml hown hts hK hZ hDD hA (c_L_shares l hst E _ X hs w g g2 B hI hg nx ct hnx hct j_140 hj_141 (nI i)) l_L_209 rfl ⟨⟨rfl, rfl⟩, Nat.le_of_ble_eq_true rfl, Nat.le_of_ble_eq_true rfl⟩ [0, 1, 2, 3, 4, 5, 6, 7, 8, 9] rfl (by decide) hP hD hS hl.1 rfl (Nat.le_of_ble_eq_true rfl) dL_isMember_125 ⟨by show (((((((((0 + 1) + 16 * i) + 1) + 2) + 2) + 1) + 1) + 2) + 1) + 1 ≤ 170; omega, by show (((((((((0 + 6) + 96 * i) + 6) + 12) + 12) + 6) + 6) + 12) + 6) + 6 ≤ 1440; omega⟩) hA hP hD hS (isC := [0, 1, 2, 3, 4, 5, 6, 7, 8, 9]) rfl [] [0, 1, 2, 3, 4, 5, 6, 7, 8, 9] (br := []) (bs2 := fun u => OB E X hs w g g2 hg nx ct u) rfl (by decide) (fun _ => rfl) (by decide) (fun r j_143 H locs hw hP hD hS => ?_)
                      obtain ⟨hw, hj_144⟩ := hw
                      subst hw
                      refine tp_i (wf_in hmc (by omega)) ?_
                      refine lv_aload_n hx hb dL_isMember_128 rfl (lv_at hl 2 rfl) ?_
                      refine lv_iload_n hx hb dL_isMember_129 rfl (lv_at hl 3 rfl) ?_
                      refine run_i (S := JT) (run_SX (As := [.ref (X 0 0), .int (nI m0)]) (rest := [.int (nI (g 0 i))]) (bs := OB E X hs w g g2 hg nx ct j_143) (cb := OB E X hs w g g2 hg nx ct j_143) hx hb hml hown hts hK hZ hDD hA (c_L_shares l hst E _ X hs w g g2 B hI hg nx ct hnx hct j_143 hj_144 (nI m0)) l_L_209 rfl ⟨⟨rfl, rfl⟩, Nat.le_of_ble_eq_true rfl, Nat.le_of_ble_eq_true rfl⟩ [0, 1, 2, 3, 4, 5, 6, 7, 8, 9] rfl (by decide) hP hD hS hl.1 rfl (Nat.le_of_ble_eq_true rfl) dL_isMember_130 ⟨by show ((((((((((0 + 1) + 16 * i) + 1) + 2) + 2) + 1) + 1) + 2) + 1) + 1) + 1 ≤ 170; omega, by show ((((((((((0 + 6) + 96 * i) + 6) + 12) + 12) + 6) + 6) + 12) + 6) + 6) + 6 ≤ 1440; omega⟩) hA hP hD hS (isC := [0, 1, 2, 3, 4, 5, 6, 7, 8, 9]) rfl [] [0, 1, 2, 3, 4, 5, 6, 7, 8, 9] (br := []) (bs2 := fun u => OB E X hs w g g2 hg nx ct u) rfl (by decide) (fun _ => rfl) (by decide) (fun r j_145 H locs hw hP hD hS => ?_)
                      obtain ⟨hw, hj_146⟩ := hw
                      subst hw
                      refine tp_i (wf_in hmc (by omega)) ?_
                      refine nv_icmp_le (X := ((g 0 i : Nat) : Int)) (Y := ((g 0 m0 : Nat) : Int)) hx hb (nI_toInt (by omega)) (nI_toInt (by omega)) (tgt := 152) dL_isMember_133 (by decide) (fun c_147 => ?_) (fun c_147 => ?_)
                      · skip
                        refine lv_iinc (v := nI (i + 1)) (lv' := [(7, .int (nI (i + 1))), (8, .int (nI (apG g m0 i))), (6, .int (nI (sm (powN g) i + (powN g i)))), (0, .ref (X 0 0)), (1, .int (nI m0)), (2, .int (nI (allSh g))), (3, .int (nI (g 8 0))), (4, .long (lN (dlk g m0 60)))]) hx hb dL_isMember_152 hl (k := 7) rfl (nI_add i 1) (by decide) rfl (fun ls hl => ?_)
                        refine lv_goto (tgt := 18) hx hb dL_isMember_155 (by decide) ?_
                        exact W_widen (by omega) (by omega) (ih18 (i + 1) j_145 (by omega) hj_146 (by omega) _ _ _ hP hD hS (lv_sub hl [3, 4, 5, 6, 7, 2, 0] rfl))
                      · skip
                        refine lv_aload_n hx hb dL_isMember_136 rfl (lv_at hl 2 rfl) ?_
                        refine lv_iload hx hb dL_isMember_137 (lv_at hl 7 rfl) ?_
                        refine run_i (S := JT) (run_SX (As := [.ref (X 0 0), .int (nI i)]) (rest := []) (bs := OB E X hs w g g2 hg nx ct j_145) (cb := OB E X hs w g g2 hg nx ct j_145) hx hb hml hown hts hK hZ hDD hA (c_L_power l hst E _ X hs w g g2 B hI hg nx ct hnx hct j_145 hj_146 (nI i)) l_L_296 rfl ⟨⟨rfl, rfl⟩, Nat.le_of_ble_eq_true rfl, Nat.le_of_ble_eq_true rfl⟩ [0, 1, 2, 3, 4, 5, 6, 7, 8, 9] rfl (by decide) hP hD hS hl.1 rfl (Nat.le_of_ble_eq_true rfl) dL_isMember_139 ⟨by show (((((((((((0 + 1) + 16 * i) + 1) + 2) + 2) + 1) + 1) + 2) + 1) + 1) + 1) + 1 ≤ 170; omega, by show (((((((((((0 + 6) + 96 * i) + 6) + 12) + 12) + 6) + 6) + 12) + 6) + 6) + 6) + 6 ≤ 1440; omega⟩) hA hP hD hS (isC := [0, 1, 2, 3, 4, 5, 6, 7, 8, 9]) rfl [] [0, 1, 2, 3, 4, 5, 6, 7, 8, 9] (br := []) (bs2 := fun u => OB E X hs w g g2 hg nx ct u) rfl (by decide) (fun _ => rfl) (by decide) (fun r j_148 H locs hw hP hD hS => ?_)
                        obtain ⟨hw, hj_149⟩ := hw
                        subst hw
                        refine tp_i (wf_in hmc (by omega)) ?_
                        refine lv_aload_n hx hb dL_isMember_142 rfl (lv_at hl 2 rfl) ?_
                        refine lv_iload_n hx hb dL_isMember_143 rfl (lv_at hl 3 rfl) ?_
                        refine run_i (S := JT) (run_SX (As := [.ref (X 0 0), .int (nI m0)]) (rest := [.int (nI (powN g i))]) (bs := OB E X hs w g g2 hg nx ct j_148) (cb := OB E X hs w g g2 hg nx ct j_148) hx hb hml hown hts hK hZ hDD hA (c_L_power l hst E _ X hs w g g2 B hI hg nx ct hnx hct j_148 hj_149 (nI m0)) l_L_296 rfl ⟨⟨rfl, rfl⟩, Nat.le_of_ble_eq_true rfl, Nat.le_of_ble_eq_true rfl⟩ [0, 1, 2, 3, 4, 5, 6, 7, 8, 9] rfl (by decide) hP hD hS hl.1 rfl (Nat.le_of_ble_eq_true rfl) dL_isMember_144 ⟨by show ((((((((((((0 + 1) + 16 * i) + 1) + 2) + 2) + 1) + 1) + 2) + 1) + 1) + 1) + 1) + 1 ≤ 170; omega, by show ((((((((((((0 + 6) + 96 * i) + 6) + 12) + 12) + 6) + 6) + 12) + 6) + 6) + 6) + 6) + 6 ≤ 1440; omega⟩) hA hP hD hS (isC := [0, 1, 2, 3, 4, 5, 6, 7, 8, 9]) rfl [] [0, 1, 2, 3, 4, 5, 6, 7, 8, 9] (br := []) (bs2 := fun u => OB E X hs w g g2 hg nx ct u) rfl (by decide) (fun _ => rfl) (by decide) (fun r j_150 H locs hw hP hD hS => ?_)
                        obtain ⟨hw, hj_151⟩ := hw
                        subst hw
                        refine tp_i (wf_in hmc (by omega)) ?_
                        refine nv_icmp_ge (X := ((powN g i : Nat) : Int)) (Y := ((powN g m0 : Nat) : Int)) hx hb (nI_toInt (by omega)) (nI_toInt (by omega)) (tgt := 152) dL_isMember_147 (by decide) (fun c_152 => ?_) (fun c_152 => ?_)
                        · skip
                          refine lv_iinc (v := nI (i + 1)) (lv' := [(7, .int (nI (i + 1))), (8, .int (nI (apG g m0 i))), (6, .int (nI (sm (powN g) i + (powN g i)))), (0, .ref (X 0 0)), (1, .int (nI m0)), (2, .int (nI (allSh g))), (3, .int (nI (g 8 0))), (4, .long (lN (dlk g m0 60)))]) hx hb dL_isMember_152 hl (k := 7) rfl (nI_add i 1) (by decide) rfl (fun ls hl => ?_)
                          refine lv_goto (tgt := 18) hx hb dL_isMember_155 (by decide) ?_
                          exact W_widen (by omega) (by omega) (ih18 (i + 1) j_150 (by omega) hj_151 (by omega) _ _ _ hP hD hS (lv_sub hl [3, 4, 5, 6, 7, 2, 0] rfl))
                        · exact absurd c_152 (by omega)
  exact W_widen (by omega) (by omega) (loop18 _ 0 j_1 (by omega) hj_2 (Nat.lt_succ_self _) _ _ _ hP hD hS (lv_sub hl [4, 5, 6, 3, 2, 1, 0] rfl))
