/-- the law's sums -/
def smC (E : EE) (o : Nat) (f : Nat → Int64) : va_W := [(o, .inl (E.2.1 4, 70, .inr (.inl f)))]
theorem m1_n {a : Nat} (h : 1 ≤ a) : nI (a - 1) = nI a - 1 := (pk_sub (a := a) (b := 1) h).symm
theorem m1_i {a : Nat} : nI a + Int32.ofInt (-1) = nI a - 1 := by
  rw [show Int32.ofInt (-1) = -nI 1 from by decide, ← Int32.sub_eq_add_neg]
  rfl
abbrev rm_L_isKept : Room := { frames := 10, cells := 560, slots := 3400, locals := 203 }
set_option maxHeartbeats 8000000 in
set_option maxRecDepth 100000 in
theorem c_L_isKept (l : Launch) (hst : l.stackTraces = false) (E : EE) (sz : Nat) (X hs : Nat → Nat → Nat) (w : Nat → Nat) (g g2 : GG) (B : Nat) (hI : IB B g) (hg : Nat → GG) (nx ct : Nat) (hnx : nx < 8) (hct : ct ≤ 8) (j : JT) (hj : JV j) (made os : Nat) (f : Nat → Int64) (hm : made ≤ 60) (hcm : ct = if made < 8 then made else 8) (hfm : sumF g = f made) (hh0 : ∀ i, i < ct → IB B (hg ((nx + 8 - 1 - i) % 8)) ∧ sumF (hg ((nx + 8 - 1 - i) % 8)) = f (made - 1 - i)) : MIx l yL_isKept cL_isKept 5 .boolean rm_L_isKept [.ref (X 0 0), .ref os, .int (nI made)] E sz (OB E X hs w g g2 hg nx ct j ++ [smC E os f]) (fun (r : Int32) (u : Nat × JT) => r = nI 1) (fun u => OB E X hs (upn w 0 1) g g hg u.1 0 u.2 ++ [smC E os f]) 560 3400 := by
  refine mi_gox (by decide) (Nat.le_of_ble_eq_true rfl) ?_
  intro p e s m below meth c A Q ls hx hb hml hown hts hK hZ hDD hA hsz hP hD hl hret
  have hS : va_S A s.heap s.heap [] := va_S.rf
  have hl : lv_has ls 5 [(0, .ref (X 0 0)), (1, .ref os), (2, .int (nI made))] := hl
  have hctm : ct ≤ made := by rw [hcm]; split <;> omega
  refine lv_aload_n hx hb dL_isKept_0 rfl (lv_at hl 0 rfl) ?_
  refine run_v (S := Unit) (run_V (As := []) (rest := []) (bs := OB E X hs w g g2 hg nx ct j ++ [smC E os f]) (cb := [coC E (X 0) (X 1) (X 2) (X 3) (X 4) (X 5) (X 6) (X 7) (X 8) w, stC E (X 1) g, stC E (X 2) g2]) hx hb hml hown hts hK hZ hA (c_X5_save l E _ (X 0) (X 1) (X 2) (X 3) (X 4) (X 5) (X 6) (X 7) (X 8) w g g2) l_L_347 rfl ⟨⟨rfl, rfl⟩, Nat.le_of_ble_eq_true rfl, Nat.le_of_ble_eq_true rfl⟩ 9 rfl [0, 1, 2] rfl (by decide) rfl hP hD hS hl.1 rfl (Nat.le_of_ble_eq_true rfl) dL_isKept_1 ⟨by show 0 + 0 ≤ 560; omega, by show 0 + 0 ≤ 3400; omega⟩) hA hP hD hS (isC := [0, 1, 2]) rfl [3, 4, 5, 6, 7, 8, 9, 10] [8, 9, 10, 0, 1, 2, 3, 4, 5, 6, 7] (br := [stC E (X 3) j.1, hhC E (X 4) hs hg nx ct, diC E (X 5) j.2.1 j.2.2.1, grC E (X 6) j.2.2.2.1 j.2.2.2.2.1, prC E (X 7) j.2.2.2.2.2.1 j.2.2.2.2.2.2.1, sbO E (X 8) j.2.2.2.2.2.2.2.1 j.2.2.2.2.2.2.2.2.1 j.2.2.2.2.2.2.2.2.2.1, baC E j.2.2.2.2.2.2.2.1 j.2.2.2.2.2.2.2.2.2.2.1 j.2.2.2.2.2.2.2.2.2.2.2, smC E os f]) (bs2 := fun _ => [coC E (X 0) (X 1) (X 2) (X 3) (X 4) (X 5) (X 6) (X 7) (X 8) (upn w 0 1), stC E (X 1) g, stC E (X 2) g, stC E (X 3) j.1, hhC E (X 4) hs hg nx ct, diC E (X 5) j.2.1 j.2.2.1, grC E (X 6) j.2.2.2.1 j.2.2.2.2.1, prC E (X 7) j.2.2.2.2.2.1 j.2.2.2.2.2.2.1, sbO E (X 8) j.2.2.2.2.2.2.2.1 j.2.2.2.2.2.2.2.2.1 j.2.2.2.2.2.2.2.2.2.1, baC E j.2.2.2.2.2.2.2.1 j.2.2.2.2.2.2.2.2.2.2.1 j.2.2.2.2.2.2.2.2.2.2.2, smC E os f]) rfl (by decide) (fun _ => rfl) (by decide) (fun _ H locs hw hP hD hS => ?_)
  have hP : va_P E.1 vwCl (OB E X hs (upn w 0 1) g g hg nx ct j ++ [smC E os f] : List va_W).flatten H := hP
  have hD : va_D A (OB E X hs (upn w 0 1) g g hg nx ct j ++ [smC E os f] : List va_W).flatten := hD
  refine lv_bipush (v := nI 8) hx hb dL_isKept_4 (by decide) ?_
  refine lv_iload_n hx hb dL_isKept_6 rfl (lv_at hl 2 rfl) ?_
  refine va_mmin hx hb (hml.trans hl.1.symm) hown (hts _ q1386) (hts _ q502) (hts _ q39) (hts _ q503) (Nat.le_of_ble_eq_true rfl) (Nat.le_of_ble_eq_true rfl) (Nat.le_of_ble_eq_true rfl) (Nat.le_of_ble_eq_true rfl) dL_isKept_7 ?_
  refine tp_i ((nI_mn (a := 8) (b := made) (by decide) (by omega)).trans (congrArg nI hcm.symm)) ?_
  refine lv_istore_n (lv' := [(3, .int (nI ct)), (0, .ref (X 0 0)), (1, .ref os), (2, .int (nI made))]) hx hb dL_isKept_10 rfl hl (by decide) rfl (fun ls hl => ?_)
  refine lv_iload_n hx hb dL_isKept_11 rfl (lv_at hl 3 rfl) ?_
  refine lv_iconst (v := nI 1) hx hb dL_isKept_12 (by decide) ?_
  refine lv_isub hx hb dL_isKept_13 ?_
  refine lv_istore (lv' := [(4, .int (nI made - 1)), (3, .int (nI ct)), (0, .ref (X 0 0)), (1, .ref os), (2, .int (nI made))]) hx hb dL_isKept_14 hl (by decide) rfl (fun ls hl => ?_)
  have loop16 : ∀ (n : Nat) (L : Nat) (nv : Nat) (n1 : Nat) (gv : GG) (jv : JT), (L ≤ 8) → (L ≤ ct) → (nv < 8) → (n1 + ct = made + L) → (IB B gv) → (∀ i, i < L → IB B (hg ((nv + 8 - 1 - i) % 8)) ∧ sumF (hg ((nv + 8 - 1 - i) % 8)) = f (n1 - 1 - i)) → (JV jv) → L < n → ∀ (H : Heap) (locs : List Loc) (ls : Array Slot), va_P E.1 vwCl (OB E X hs (upn w 0 1) gv g hg nv L jv ++ [smC E os f] : List va_W).flatten H → va_D A (OB E X hs (upn w 0 1) gv g hg nv L jv ++ [smC E os f] : List va_W).flatten → va_S A s.heap H locs → lv_has ls 5 [(0, .ref (X 0 0)), (1, .ref os), (2, .int (nI made)), (3, .int (nI L)), (4, .int (nI n1 - 1))] → W p l e rm_L_isKept s m ([.ref (X 0 0), .ref os, .int (nI made)] : List Value).toArray below meth c H locs (0 + 59 * (ct - L)) (0 + 354 * (ct - L)) Q (F0 m 16 ls []) := by
    intro n16
    induction n16 with
    | zero => intro L nv n1 gv jv hL8 hLc hnv hn1 hIv hh hjv hn16; exact absurd hn16 (Nat.not_lt_zero _)
    | succ n16 ih16 =>
      intro L nv n1 gv jv hL8 hLc hnv hn1 hIv hh hjv hn16 H locs ls hP hD hS hl
      refine lv_iload_n hx hb dL_isKept_16 rfl (lv_at hl 3 rfl) ?_
      refine nv_if_le (X := ((L : Nat) : Int)) hx hb (nI_toInt (by omega)) (tgt := 51) dL_isKept_17 (by decide) (fun c_1 => ?_) (fun c_1 => ?_)
      · skip
        refine lv_aload_n hx hb dL_isKept_51 rfl (lv_at hl 0 rfl) ?_
        refine run_i (S := Bool × JT) (run_SX (As := [.ref (X 0 0)]) (rest := []) (bs := OB E X hs (upn w 0 1) gv g hg nv L jv ++ [smC E os f]) (cb := OB E X hs (upn w 0 1) gv g hg nv L jv) hx hb hml hown hts hK hZ hDD hA (c_L_undo l hst E _ X hs (upn w 0 1) gv g B hIv hg nv L hnv hL8 jv hjv ) l_L_355 rfl ⟨⟨rfl, rfl⟩, Nat.le_of_ble_eq_true rfl, Nat.le_of_ble_eq_true rfl⟩ [0, 1, 2, 3, 4, 5, 6, 7, 8, 9] rfl (by decide) hP hD hS hl.1 rfl (Nat.le_of_ble_eq_true rfl) dL_isKept_52 ⟨by show (0 + 59 * (ct - L)) + 1 ≤ 560; omega, by show (0 + 354 * (ct - L)) + 6 ≤ 3400; omega⟩) hA hP hD hS (isC := [0, 1, 2, 3, 4, 5, 6, 7, 8, 9]) rfl [10] [1, 2, 3, 4, 5, 6, 7, 8, 9, 10, 0] (br := [smC E os f]) (bs2 := fun u => OB E X hs (upn w 0 1) (gN u.1 (hg ((nv + 8 - 1) % 8)) gv) g hg (if u.1 = true then (nv + 8 - 1) % 8 else nv) (if u.1 = true then L - 1 else L) u.2 ++ [smC E os f]) rfl (by decide) (fun _ => rfl) (by decide) (fun r u_2 H locs hw hP hD hS => ?_)
        obtain ⟨hu, hw, hj_4⟩ := hw
        obtain ⟨b9, j_3⟩ := u_2
        obtain rfl : b9 = false := hu.trans (decide_eq_false (by omega))
        refine tp_i (hw.trans (if_pos (by omega))) ?_
        have hP : va_P E.1 vwCl (OB E X hs (upn w 0 1) gv g hg nv L j_3 ++ [smC E os f] : List va_W).flatten H := hP
        have hD : va_D A (OB E X hs (upn w 0 1) gv g hg nv L j_3 ++ [smC E os f] : List va_W).flatten := hD
        refine lv_bipush (v := -79) hx hb dL_isKept_55 (by decide) ?_
        refine nv_icmp_ne (X := (-79)) (Y := (-79)) hx hb (by decide) (by decide) (tgt := 91) dL_isKept_57 (by decide) (fun c_5 => ?_) (fun c_5 => ?_)
        · exact absurd c_5 (by omega)
        · skip
          refine lv_aload_n hx hb dL_isKept_60 rfl (lv_at hl 0 rfl) ?_
          refine run_i (S := Bool × JT) (run_SX (As := [.ref (X 0 0)]) (rest := []) (bs := OB E X hs (upn w 0 1) gv g hg nv L j_3 ++ [smC E os f]) (cb := OB E X hs (upn w 0 1) gv g hg nv L j_3) hx hb hml hown hts hK hZ hDD hA (c_L_restore l hst E _ X hs (upn w 0 1) gv g B hIv hg nv L hnv hL8 j_3 hj_4 (by rw [upn_s]; decide)) l_L_357 rfl ⟨⟨rfl, rfl⟩, Nat.le_of_ble_eq_true rfl, Nat.le_of_ble_eq_true rfl⟩ [0, 1, 2, 3, 4, 5, 6, 7, 8, 9] rfl (by decide) hP hD hS hl.1 rfl (Nat.le_of_ble_eq_true rfl) dL_isKept_61 ⟨by show ((0 + 59 * (ct - L)) + 1) + 1 ≤ 560; omega, by show ((0 + 354 * (ct - L)) + 6) + 6 ≤ 3400; omega⟩) hA hP hD hS (isC := [0, 1, 2, 3, 4, 5, 6, 7, 8, 9]) rfl [10] [1, 2, 3, 4, 5, 6, 7, 8, 9, 10, 0] (br := [smC E os f]) (bs2 := fun u => OB E X hs (upn w 0 1) (gN u.1 g gv) g hg nv (if u.1 = true then 0 else L) u.2 ++ [smC E os f]) rfl (by decide) (fun _ => rfl) (by decide) (fun r u_6 H locs hw hP hD hS => ?_)
          obtain ⟨hu, hw, hj_8⟩ := hw
          obtain ⟨b9, j_7⟩ := u_6
          have hw0 : (upn w 0 1) 0 ≠ 0 := by rw [upn_s]; decide
          obtain rfl : b9 = true := hu.trans (decide_eq_true hw0)
          refine tp_i (hw.trans (if_neg hw0)) ?_
          have hP : va_P E.1 vwCl (OB E X hs (upn w 0 1) g g hg nv 0 j_7 ++ [smC E os f] : List va_W).flatten H := hP
          have hD : va_D A (OB E X hs (upn w 0 1) g g hg nv 0 j_7 ++ [smC E os f] : List va_W).flatten := hD
          refine nv_if_ne (X := ((0 : Nat) : Int)) hx hb (nI_toInt (by omega)) (tgt := 91) dL_isKept_64 (by decide) (fun c_9 => ?_) (fun c_9 => ?_)
          · exact absurd c_9 (by omega)
          · skip
            refine lv_aload_n hx hb dL_isKept_67 rfl (lv_at hl 0 rfl) ?_
            refine run_l (S := JT) (run_Sx (As := [.ref (X 0 0)]) (rest := []) (bs := OB E X hs (upn w 0 1) g g hg nv 0 j_7 ++ [smC E os f]) (cb := OB E X hs (upn w 0 1) g g hg nv 0 j_7) hx hb hml hown hts hK hZ hDD hA (c_L_sum l hst E _ X hs (upn w 0 1) g g B hI hg nv 0 hnv (Nat.zero_le _) j_7 hj_8) l_L_172 rfl ⟨⟨rfl, rfl⟩, Nat.le_of_ble_eq_true rfl, Nat.le_of_ble_eq_true rfl⟩ [0, 1, 2, 3, 4, 5, 6, 7, 8, 9] rfl (by decide) hP hD hS hl.1 rfl (Nat.le_of_ble_eq_true rfl) dL_isKept_68 ⟨by show (((0 + 59 * (ct - L)) + 1) + 1) + 58 ≤ 560; omega, by show (((0 + 354 * (ct - L)) + 6) + 6) + 348 ≤ 3400; omega⟩) hA hP hD hS (isC := [0, 1, 2, 3, 4, 5, 6, 7, 8, 9]) rfl [10] [1, 2, 3, 4, 5, 6, 7, 8, 9, 10, 0] (br := [smC E os f]) (bs2 := fun u => OB E X hs (upn w 0 1) g g hg nv 0 u ++ [smC E os f]) rfl (by decide) (fun _ => rfl) (by decide) (fun r j_10 H locs hw hP hD hS => ?_)
            obtain ⟨hw, hj_11⟩ := hw
            subst hw
            refine lv_aload_n hx hb dL_isKept_71 rfl (lv_at hl 1 rfl) ?_
            refine lv_iload_n hx hb dL_isKept_72 rfl (lv_at hl 2 rfl) ?_
            refine va_lald hx hb hK hP 114 4 rfl rfl (vp_in_nI (show made < 70 by omega) (by decide)) dL_isKept_73 ?_
            refine tp_l (congrArg f (nI_clamp (show made < 2 ^ 31 by omega))) ?_
            refine W.lcmp hx hb dL_isKept_74 ?_
            refine tp_i (show lg_cmp (sumF g) (f made) = nI 0 from by rw [hfm]; exact lg_eq _) ?_
            refine nv_if_ne (X := ((0 : Nat) : Int)) hx hb (nI_toInt (by omega)) (tgt := 91) dL_isKept_75 (by decide) (fun c_12 => ?_) (fun c_12 => ?_)
            · exact absurd c_12 (by omega)
            · skip
              refine lv_aload_n hx hb dL_isKept_78 rfl (lv_at hl 0 rfl) ?_
              refine run_i (S := Bool × JT) (run_SX (As := [.ref (X 0 0)]) (rest := []) (bs := OB E X hs (upn w 0 1) g g hg nv 0 j_10 ++ [smC E os f]) (cb := OB E X hs (upn w 0 1) g g hg nv 0 j_10) hx hb hml hown hts hK hZ hDD hA (c_L_undo l hst E _ X hs (upn w 0 1) g g B hI hg nv 0 hnv (Nat.zero_le _) j_10 hj_11 ) l_L_355 rfl ⟨⟨rfl, rfl⟩, Nat.le_of_ble_eq_true rfl, Nat.le_of_ble_eq_true rfl⟩ [0, 1, 2, 3, 4, 5, 6, 7, 8, 9] rfl (by decide) hP hD hS hl.1 rfl (Nat.le_of_ble_eq_true rfl) dL_isKept_79 ⟨by show ((((0 + 59 * (ct - L)) + 1) + 1) + 58) + 1 ≤ 560; omega, by show ((((0 + 354 * (ct - L)) + 6) + 6) + 348) + 6 ≤ 3400; omega⟩) hA hP hD hS (isC := [0, 1, 2, 3, 4, 5, 6, 7, 8, 9]) rfl [10] [1, 2, 3, 4, 5, 6, 7, 8, 9, 10, 0] (br := [smC E os f]) (bs2 := fun u => OB E X hs (upn w 0 1) (gN u.1 (hg ((nv + 8 - 1) % 8)) g) g hg (if u.1 = true then (nv + 8 - 1) % 8 else nv) (if u.1 = true then 0 - 1 else 0) u.2 ++ [smC E os f]) rfl (by decide) (fun _ => rfl) (by decide) (fun r u_13 H locs hw hP hD hS => ?_)
              obtain ⟨hu, hw, hj_15⟩ := hw
              obtain ⟨b9, j_14⟩ := u_13
              obtain rfl : b9 = false := hu.trans (decide_eq_false (by omega))
              refine tp_i (hw.trans (if_pos (by omega))) ?_
              have hP : va_P E.1 vwCl (OB E X hs (upn w 0 1) g g hg nv 0 j_14 ++ [smC E os f] : List va_W).flatten H := hP
              have hD : va_D A (OB E X hs (upn w 0 1) g g hg nv 0 j_14 ++ [smC E os f] : List va_W).flatten := hD
              refine lv_bipush (v := -79) hx hb dL_isKept_82 (by decide) ?_
              refine nv_icmp_ne (X := (-79)) (Y := (-79)) hx hb (by decide) (by decide) (tgt := 91) dL_isKept_84 (by decide) (fun c_16 => ?_) (fun c_16 => ?_)
              · exact absurd c_16 (by omega)
              · skip
                refine lv_iconst (v := nI 1) hx hb dL_isKept_87 (by decide) ?_
                refine lv_goto (tgt := 92) hx hb dL_isKept_88 (by decide) ?_
                exact hret _ _ (nI 1) (nv, j_14) _ _ _ _ hP hD hS (by decide) rfl dL_isKept_92 (by omega) (by omega)
      · skip
        have hl : lv_has ls 5 [(0, .ref (X 0 0)), (1, .ref os), (2, .int (nI made)), (3, .int (nI L)), (4, .int (nI (n1 - 1)))] := by rw [show nI (n1 - 1) = nI n1 - 1 from m1_n (by omega)]; exact hl
        have hIn : IB B (hg ((nv + 8 - 1) % 8)) := (hh 0 (by omega)).1
        have hsf : sumF (hg ((nv + 8 - 1) % 8)) = f (n1 - 1) := (hh 0 (by omega)).2
        have hhn : ∀ i, i < L - 1 → IB B (hg (((nv + 8 - 1) % 8 + 8 - 1 - i) % 8)) ∧ sumF (hg (((nv + 8 - 1) % 8 + 8 - 1 - i) % 8)) = f (n1 - 1 - 1 - i) := fun i hi => by
          have h9 := hh (i + 1) (by omega)
          rw [show (nv + 8 - 1 - (i + 1)) % 8 = ((nv + 8 - 1) % 8 + 8 - 1 - i) % 8 by omega, show n1 - 1 - (i + 1) = n1 - 1 - 1 - i by omega] at h9
          exact h9
        refine lv_iinc (v := nI (L - 1)) (lv' := [(3, .int (nI (L - 1))), (0, .ref (X 0 0)), (1, .ref os), (2, .int (nI made)), (4, .int (nI (n1 - 1)))]) hx hb dL_isKept_20 hl (k := 3) rfl (by rw [show Int32.ofInt (-1) = -nI 1 from by decide, ← Int32.sub_eq_add_neg]; exact pk_sub (by omega)) (by decide) rfl (fun ls hl => ?_)
        refine lv_aload_n hx hb dL_isKept_23 rfl (lv_at hl 1 rfl) ?_
        refine run_i (S := Bool × JT) (run_SX (As := [.ref (X 0 0)]) (rest := []) (bs := OB E X hs (upn w 0 1) gv g hg nv L jv ++ [smC E os f]) (cb := OB E X hs (upn w 0 1) gv g hg nv L jv) hx hb hml hown hts hK hZ hDD hA (c_L_undo l hst E _ X hs (upn w 0 1) gv g B hIv hg nv L hnv hL8 jv hjv ) l_L_355 rfl ⟨⟨rfl, rfl⟩, Nat.le_of_ble_eq_true rfl, Nat.le_of_ble_eq_true rfl⟩ [0, 1, 2, 3, 4, 5, 6, 7, 8, 9] rfl (by decide) hP hD hS hl.1 rfl (Nat.le_of_ble_eq_true rfl) dL_isKept_24 ⟨by show (0 + 59 * (ct - L)) + 1 ≤ 560; omega, by show (0 + 354 * (ct - L)) + 6 ≤ 3400; omega⟩) hA hP hD hS (isC := [0, 1, 2, 3, 4, 5, 6, 7, 8, 9]) rfl [10] [1, 2, 3, 4, 5, 6, 7, 8, 9, 10, 0] (br := [smC E os f]) (bs2 := fun u => OB E X hs (upn w 0 1) (gN u.1 (hg ((nv + 8 - 1) % 8)) gv) g hg (if u.1 = true then (nv + 8 - 1) % 8 else nv) (if u.1 = true then L - 1 else L) u.2 ++ [smC E os f]) rfl (by decide) (fun _ => rfl) (by decide) (fun r u_17 H locs hw hP hD hS => ?_)
        obtain ⟨hu, hw, hj_19⟩ := hw
        obtain ⟨b9, j_18⟩ := u_17
        obtain rfl : b9 = true := hu.trans (decide_eq_true (by omega))
        refine tp_i (hw.trans (if_neg (by omega))) ?_
        have hP : va_P E.1 vwCl (OB E X hs (upn w 0 1) (hg ((nv + 8 - 1) % 8)) g hg ((nv + 8 - 1) % 8) (L - 1) j_18 ++ [smC E os f] : List va_W).flatten H := hP
        have hD : va_D A (OB E X hs (upn w 0 1) (hg ((nv + 8 - 1) % 8)) g hg ((nv + 8 - 1) % 8) (L - 1) j_18 ++ [smC E os f] : List va_W).flatten := hD
        refine lv_iload_n hx hb dL_isKept_27 rfl (lv_at hl 0 rfl) ?_
        refine nv_icmp_ne (X := ((L - 1 : Nat) : Int)) (Y := ((L - 1 : Nat) : Int)) hx hb (nI_toInt (by omega)) (nI_toInt (by omega)) (tgt := 43) dL_isKept_28 (by decide) (fun c_20 => ?_) (fun c_20 => ?_)
        · exact absurd c_20 (by omega)
        · skip
          refine lv_aload_n hx hb dL_isKept_31 rfl (lv_at hl 1 rfl) ?_
          refine run_l (S := JT) (run_Sx (As := [.ref (X 0 0)]) (rest := []) (bs := OB E X hs (upn w 0 1) (hg ((nv + 8 - 1) % 8)) g hg ((nv + 8 - 1) % 8) (L - 1) j_18 ++ [smC E os f]) (cb := OB E X hs (upn w 0 1) (hg ((nv + 8 - 1) % 8)) g hg ((nv + 8 - 1) % 8) (L - 1) j_18) hx hb hml hown hts hK hZ hDD hA (c_L_sum l hst E _ X hs (upn w 0 1) (hg ((nv + 8 - 1) % 8)) g B hIn hg ((nv + 8 - 1) % 8) (L - 1) (Nat.mod_lt _ (by decide)) (by omega) j_18 hj_19) l_L_172 rfl ⟨⟨rfl, rfl⟩, Nat.le_of_ble_eq_true rfl, Nat.le_of_ble_eq_true rfl⟩ [0, 1, 2, 3, 4, 5, 6, 7, 8, 9] rfl (by decide) hP hD hS hl.1 rfl (Nat.le_of_ble_eq_true rfl) dL_isKept_32 ⟨by show ((0 + 59 * (ct - L)) + 1) + 58 ≤ 560; omega, by show ((0 + 354 * (ct - L)) + 6) + 348 ≤ 3400; omega⟩) hA hP hD hS (isC := [0, 1, 2, 3, 4, 5, 6, 7, 8, 9]) rfl [10] [1, 2, 3, 4, 5, 6, 7, 8, 9, 10, 0] (br := [smC E os f]) (bs2 := fun u => OB E X hs (upn w 0 1) (hg ((nv + 8 - 1) % 8)) g hg ((nv + 8 - 1) % 8) (L - 1) u ++ [smC E os f]) rfl (by decide) (fun _ => rfl) (by decide) (fun r j_21 H locs hw hP hD hS => ?_)
          obtain ⟨hw, hj_22⟩ := hw
          subst hw
          refine lv_aload_n hx hb dL_isKept_35 rfl (lv_at hl 2 rfl) ?_
          refine lv_iload hx hb dL_isKept_36 (lv_at hl 4 rfl) ?_
          refine va_lald hx hb hK hP 114 4 rfl rfl (vp_in_nI (show n1 - 1 < 70 by omega) (by decide)) dL_isKept_38 ?_
          refine tp_l (congrArg f (nI_clamp (show n1 - 1 < 2 ^ 31 by omega))) ?_
          refine W.lcmp hx hb dL_isKept_39 ?_
          refine tp_i (show lg_cmp (sumF (hg ((nv + 8 - 1) % 8))) (f (n1 - 1)) = nI 0 from by rw [hsf]; exact lg_eq _) ?_
          refine nv_if_eq (X := ((0 : Nat) : Int)) hx hb (nI_toInt (by omega)) (tgt := 45) dL_isKept_40 (by decide) (fun c_23 => ?_) (fun c_23 => ?_)
          · skip
            refine lv_iinc (v := nI (n1 - 1) - 1) (lv' := [(4, .int (nI (n1 - 1) - 1)), (3, .int (nI (L - 1))), (0, .ref (X 0 0)), (1, .ref os), (2, .int (nI made))]) hx hb dL_isKept_45 hl (k := 4) rfl m1_i (by decide) rfl (fun ls hl => ?_)
            refine lv_goto (tgt := 16) hx hb dL_isKept_48 (by decide) ?_
            exact W_widen (by omega) (by omega) (ih16 (L - 1) ((nv + 8 - 1) % 8) (n1 - 1) (hg ((nv + 8 - 1) % 8)) j_21 (by omega) (by omega) (Nat.mod_lt _ (by decide)) (by omega) hIn hhn hj_22 (by omega) _ _ _ hP hD hS (lv_sub hl [2, 3, 4, 1, 0] rfl))
          · exact absurd c_23 (by omega)
  exact W_widen (by omega) (by omega) (loop16 _ ct nx made g j hct (by omega) hnx (by omega) hI hh0 hj (Nat.lt_succ_self _) _ _ _ hP hD hS (lv_sub hl [2, 3, 4, 1, 0] rfl))
