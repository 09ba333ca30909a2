abbrev rm_L_isWhole : Room := { frames := 10, cells := 1700, slots := 14500, locals := 281 }
set_option maxHeartbeats 8000000 in
set_option maxRecDepth 100000 in
theorem c_L_isWhole (l : Launch) (hst : l.stackTraces = false) (E : EE) (sz : Nat) (X hs : Nat → Nat → Nat) (w : Nat → Nat) (g g2 : GG) (B : Nat) (hI : IB B g) (hg : Nat → GG) (nx ct : Nat) (hnx : nx < 8) (hct : ct ≤ 8) (j : JT) (hj : JV j) (hJ : JG g) (hL : E.2.2 203 ≤ 260) (k0 : Nat) (hk0 : k0 ≤ 1000) (ba : Bool) : MIx l yL_isWhole cL_isWhole 19 .boolean rm_L_isWhole [.ref (X 0 0), .ref (E.2.2 202), .int (nI k0), .int (bI ba)] E sz (OB E X hs w g g2 hg nx ct j) (fun (r : Int32) (u : JT) => r = nI 1 ∧ JV u) (fun u => OB E X hs w g g2 hg nx ct u) 1700 14500 := by
  refine mi_gox (by decide) (Nat.le_of_ble_eq_true rfl) ?_
  intro p e s m below meth c A Q ls hx hb hml hown hts hK hZ hDD hA hsz hP hD hl hret
  have hS : va_S A s.heap s.heap [] := va_S.rf
  have hl : lv_has ls 19 [(0, .ref (X 0 0)), (1, .ref (E.2.2 202)), (2, .int (nI k0)), (3, .int (bI ba))] := hl
  have hmc := hI.mc
  have hA4 := all_le hI
  have hbud := hI.bud
  have hpn : pursN g ≤ sm (g 5) 8 := sm_mono hmc
  have hpa := purs_acc hI
  have h87 : g 8 7 ≤ 10 := hI.1.2.2
  have hqd : quo g = allSh g / 2 + 1 := rfl
  have hwb := wsp_beat hI hJ
  have hwin := win_le hI
  have hJ1 := hJ.1
  have hfl9 : ∀ t k, favN g t k ≤ 400 := fun t k => fav_le8 hI
  refine lv_aload_n hx hb dL_isWhole_0 rfl (lv_at hl 0 rfl) ?_
  refine run_i (S := Unit) (run_V (As := []) (rest := []) (bs := OB E X hs w g g2 hg nx ct j) (cb := [coC E (X 0) (X 1) (X 2) (X 3) (X 4) (X 5) (X 6) (X 7) (X 8) w, stC E (X 1) g]) hx hb hml hown hts hK hZ hA (c_X5_memberCount l E _ (X 0) (X 1) (X 2) (X 3) (X 4) (X 5) (X 6) (X 7) (X 8) w g B hI) l_L_180 rfl ⟨⟨rfl, rfl⟩, Nat.le_of_ble_eq_true rfl, Nat.le_of_ble_eq_true rfl⟩ 9 rfl [0, 1] rfl (by decide) rfl hP hD hS hl.1 rfl (Nat.le_of_ble_eq_true rfl) dL_isWhole_1 ⟨by show 0 + 0 ≤ 1700; omega, by show 0 + 0 ≤ 14500; omega⟩) hA hP hD hS (isC := [0, 1]) rfl [2, 3, 4, 5, 6, 7, 8, 9] [8, 9, 0, 1, 2, 3, 4, 5, 6, 7] (br := [stC E (X 2) g2, stC E (X 3) j.1, hhC E (X 4) hs hg nx ct, diC E (X 5) j.2.1 j.2.2.1, grC E (X 6) j.2.2.2.1 j.2.2.2.2.1, prC E (X 7) j.2.2.2.2.2.1 j.2.2.2.2.2.2.1, sbO E (X 8) j.2.2.2.2.2.2.2.1 j.2.2.2.2.2.2.2.2.1 j.2.2.2.2.2.2.2.2.2.1, baC E j.2.2.2.2.2.2.2.1 j.2.2.2.2.2.2.2.2.2.2.1 j.2.2.2.2.2.2.2.2.2.2.2]) (bs2 := fun _ => OB E X hs w g g2 hg nx ct j) rfl (by decide) (fun _ => rfl) (by decide) (fun r u H locs hw hP hD hS => ?_)
  subst hw
  refine lv_istore (lv' := [(4, .int (nI (g 8 0))), (0, .ref (X 0 0)), (1, .ref (E.2.2 202)), (2, .int (nI k0)), (3, .int (bI ba))]) hx hb dL_isWhole_4 hl (by decide) rfl (fun ls hl => ?_)
  refine lv_iconst (v := nI 0) hx hb dL_isWhole_6 (by decide) ?_
  refine lv_istore (lv' := [(5, .int (nI 0)), (4, .int (nI (g 8 0))), (0, .ref (X 0 0)), (1, .ref (E.2.2 202)), (2, .int (nI k0)), (3, .int (bI ba))]) hx hb dL_isWhole_7 hl (by decide) rfl (fun ls hl => ?_)
  refine lv_iconst (v := nI 0) hx hb dL_isWhole_9 (by decide) ?_
  refine lv_istore (lv' := [(6, .int (nI 0)), (5, .int (nI 0)), (4, .int (nI (g 8 0))), (0, .ref (X 0 0)), (1, .ref (E.2.2 202)), (2, .int (nI k0)), (3, .int (bI ba))]) hx hb dL_isWhole_10 hl (by decide) rfl (fun ls hl => ?_)
  refine lv_iconst (v := nI 0) hx hb dL_isWhole_12 (by decide) ?_
  refine lv_istore (lv' := [(7, .int (nI 0)), (6, .int (nI 0)), (5, .int (nI 0)), (4, .int (nI (g 8 0))), (0, .ref (X 0 0)), (1, .ref (E.2.2 202)), (2, .int (nI k0)), (3, .int (bI ba))]) hx hb dL_isWhole_13 hl (by decide) rfl (fun ls hl => ?_)
  refine lv_ldc2 (v := (-1 : Int64)) hx hb (own := RL) (index := 317) hown (hts _ qc1074) dL_isWhole_15 ?_
  refine lv_lstore (lv' := [(8, .long (-1 : Int64)), (7, .int (nI 0)), (6, .int (nI 0)), (5, .int (nI 0)), (4, .int (nI (g 8 0))), (0, .ref (X 0 0)), (1, .ref (E.2.2 202)), (2, .int (nI k0)), (3, .int (bI ba))]) hx hb dL_isWhole_18 hl (by decide) rfl (fun ls hl => ?_)
  have hl : lv_has ls 19 [(8, .long (lN (chA g 0))), (7, .int (nI 0)), (6, .int (nI 0)), (5, .int (nI 0)), (4, .int (nI (g 8 0))), (0, .ref (X 0 0)), (1, .ref (E.2.2 202)), (2, .int (nI k0)), (3, .int (bI ba))] := by rw [show lN (chA g 0) = (-1 : Int64) from (show lN (2 ^ 64 - 1) = -1 by decide)]; exact hl
  refine lv_iconst (v := nI 0) hx hb dL_isWhole_20 (by decide) ?_
  refine lv_istore (lv' := [(10, .int (nI 0)), (8, .long (lN (chA g 0))), (7, .int (nI 0)), (6, .int (nI 0)), (5, .int (nI 0)), (4, .int (nI (g 8 0))), (0, .ref (X 0 0)), (1, .ref (E.2.2 202)), (2, .int (nI k0)), (3, .int (bI ba))]) hx hb dL_isWhole_21 hl (by decide) rfl (fun ls hl => ?_)
  have loop23 : ∀ (n : Nat) (i1 : Nat) (ja : JT), (i1 ≤ g 8 0) → (JV ja) → g 8 0 - i1 < n → ∀ (H : Heap) (locs : List Loc) (ls : Array Slot), va_P E.1 vwCl (OB E X hs w g g2 hg nx ct ja : List va_W).flatten H → va_D A (OB E X hs w g g2 hg nx ct ja : List va_W).flatten → va_S A s.heap H locs → lv_has ls 19 [(0, .ref (X 0 0)), (1, .ref (E.2.2 202)), (2, .int (nI k0)), (3, .int (bI ba)), (4, .int (nI (g 8 0))), (5, .int (nI (sm (g 0) i1))), (6, .int (nI (sm (g 5) i1))), (7, .int (nI (sm (dv g) i1))), (8, .long (lN (chA g i1))), (10, .int (nI i1))] → W p l e rm_L_isWhole s m ([.ref (X 0 0), .ref (E.2.2 202), .int (nI k0), .int (bI ba)] : List Value).toArray below meth c H locs (0 + 4 * i1) (0 + 24 * i1) Q (F0 m 23 ls []) := by
    intro n23
    induction n23 with
    | zero => intro i1 ja hi1 hja hn23; exact absurd hn23 (Nat.not_lt_zero _)
    | succ n23 ih23 =>
      intro i1 ja hi1 hja hn23 H locs ls hP hD hS hl
      refine lv_iload hx hb dL_isWhole_23 (lv_at hl 9 rfl) ?_
      refine lv_iload hx hb dL_isWhole_25 (lv_at hl 4 rfl) ?_
      refine nv_icmp_ge (X := ((i1 : Nat) : Int)) (Y := ((g 8 0 : Nat) : Int)) hx hb (nI_toInt (by omega)) (nI_toInt (by omega)) (tgt := 80) dL_isWhole_27 (by decide) (fun c_1 => ?_) (fun c_1 => ?_)
      · skip
        have hl : lv_has ls 19 [(0, .ref (X 0 0)), (1, .ref (E.2.2 202)), (2, .int (nI k0)), (3, .int (bI ba)), (4, .int (nI (g 8 0))), (5, .int (nI (allSh g))), (6, .int (nI (sm (g 5) i1))), (7, .int (nI (sm (dv g) i1))), (8, .long (lN (chA g i1))), (10, .int (nI i1))] := by rw [show nI (allSh g) = nI (sm (g 0) i1) from (by rw [show i1 = g 8 0 by omega]; rfl)]; exact hl
        have hl : lv_has ls 19 [(0, .ref (X 0 0)), (1, .ref (E.2.2 202)), (2, .int (nI k0)), (3, .int (bI ba)), (4, .int (nI (g 8 0))), (5, .int (nI (allSh g))), (6, .int (nI (pursN g))), (7, .int (nI (sm (dv g) i1))), (8, .long (lN (chA g i1))), (10, .int (nI i1))] := by rw [show nI (pursN g) = nI (sm (g 5) i1) from (by rw [show i1 = g 8 0 by omega]; rfl)]; exact hl
        have hl : lv_has ls 19 [(0, .ref (X 0 0)), (1, .ref (E.2.2 202)), (2, .int (nI k0)), (3, .int (bI ba)), (4, .int (nI (g 8 0))), (5, .int (nI (allSh g))), (6, .int (nI (pursN g))), (7, .int (nI (sm (dv g) (g 8 0)))), (8, .long (lN (chA g i1))), (10, .int (nI i1))] := by rw [show nI (sm (dv g) (g 8 0)) = nI (sm (dv g) i1) from by rw [show i1 = g 8 0 by omega]]; exact hl
        have hl : lv_has ls 19 [(0, .ref (X 0 0)), (1, .ref (E.2.2 202)), (2, .int (nI k0)), (3, .int (bI ba)), (4, .int (nI (g 8 0))), (5, .int (nI (allSh g))), (6, .int (nI (pursN g))), (7, .int (nI (sm (dv g) (g 8 0)))), (8, .long (lN (chA g (g 8 0)))), (10, .int (nI i1))] := by rw [show lN (chA g (g 8 0)) = lN (chA g i1) from by rw [show i1 = g 8 0 by omega]]; exact hl
        refine W_widen (k := 40) (n := 400) (by omega) (by omega) ?_
        refine lv_iconst (v := nI 0) hx hb dL_isWhole_80 (by decide) ?_
        refine lv_istore (lv' := [(10, .int (nI 0)), (0, .ref (X 0 0)), (1, .ref (E.2.2 202)), (2, .int (nI k0)), (3, .int (bI ba)), (4, .int (nI (g 8 0))), (5, .int (nI (allSh g))), (6, .int (nI (pursN g))), (7, .int (nI (sm (dv g) (g 8 0)))), (8, .long (lN (chA g (g 8 0))))]) hx hb dL_isWhole_81 hl (by decide) rfl (fun ls hl => ?_)
        have loop83 : ∀ (n : Nat) (i2 : Nat) (jb : JT), (i2 ≤ g 8 0) → (JV jb) → g 8 0 - i2 < n → ∀ (H : Heap) (locs : List Loc) (ls : Array Slot), va_P E.1 vwCl (OB E X hs w g g2 hg nx ct jb : List va_W).flatten H → va_D A (OB E X hs w g g2 hg nx ct jb : List va_W).flatten → va_S A s.heap H locs → lv_has ls 19 [(0, .ref (X 0 0)), (1, .ref (E.2.2 202)), (2, .int (nI k0)), (3, .int (bI ba)), (4, .int (nI (g 8 0))), (5, .int (nI (allSh g))), (6, .int (nI (pursN g))), (7, .int (nI (sm (dv g) (g 8 0)))), (8, .long (lN (chA g (g 8 0)))), (10, .int (nI i2))] → W p l e rm_L_isWhole s m ([.ref (X 0 0), .ref (E.2.2 202), .int (nI k0), .int (bI ba)] : List Value).toArray below meth c H locs (40 + 170 * i2) (400 + 1440 * i2) Q (F0 m 83 ls []) := by
          intro n83
          induction n83 with
          | zero => intro i2 jb hi2 hjb hn83; exact absurd hn83 (Nat.not_lt_zero _)
          | succ n83 ih83 =>
            intro i2 jb hi2 hjb hn83 H locs ls hP hD hS hl
            refine lv_iload hx hb dL_isWhole_83 (lv_at hl 9 rfl) ?_
            refine lv_iload hx hb dL_isWhole_85 (lv_at hl 4 rfl) ?_
            refine nv_icmp_ge (X := ((i2 : Nat) : Int)) (Y := ((g 8 0 : Nat) : Int)) hx hb (nI_toInt (by omega)) (nI_toInt (by omega)) (tgt := 127) dL_isWhole_87 (by decide) (fun c_2 => ?_) (fun c_2 => ?_)
            · skip
              refine W_widen (k := 1500) (n := 13000) (by omega) (by omega) ?_
              refine lv_iconst (v := nI 1) hx hb dL_isWhole_127 (by decide) ?_
              refine lv_istore (lv' := [(10, .int (nI 1)), (0, .ref (X 0 0)), (1, .ref (E.2.2 202)), (2, .int (nI k0)), (3, .int (bI ba)), (4, .int (nI (g 8 0))), (5, .int (nI (allSh g))), (6, .int (nI (pursN g))), (7, .int (nI (sm (dv g) (g 8 0)))), (8, .long (lN (chA g (g 8 0))))]) hx hb dL_isWhole_128 hl (by decide) rfl (fun ls hl => ?_)
              have loop130 : ∀ (n : Nat) (i3 : Nat) (jc : JT), (1 ≤ i3) → (i3 ≤ 1 ∨ i3 ≤ g 8 0) → (JV jc) → g 8 0 - i3 < n → ∀ (H : Heap) (locs : List Loc) (ls : Array Slot), va_P E.1 vwCl (OB E X hs w g g2 hg nx ct jc : List va_W).flatten H → va_D A (OB E X hs w g g2 hg nx ct jc : List va_W).flatten → va_S A s.heap H locs → lv_has ls 19 [(0, .ref (X 0 0)), (1, .ref (E.2.2 202)), (2, .int (nI k0)), (3, .int (bI ba)), (4, .int (nI (g 8 0))), (5, .int (nI (allSh g))), (6, .int (nI (pursN g))), (7, .int (nI (sm (dv g) (g 8 0)))), (8, .long (lN (chA g (g 8 0)))), (10, .int (nI i3))] → W p l e rm_L_isWhole s m ([.ref (X 0 0), .ref (E.2.2 202), .int (nI k0), .int (bI ba)] : List Value).toArray below meth c H locs (1500 + 10 * i3) (13000 + 60 * i3) Q (F0 m 130 ls []) := by
                intro n130
                induction n130 with
                | zero => intro i3 jc hi3 hi3b hjc hn130; exact absurd hn130 (Nat.not_lt_zero _)
                | succ n130 ih130 =>
                  intro i3 jc hi3 hi3b hjc hn130 H locs ls hP hD hS hl
                  refine lv_iload hx hb dL_isWhole_130 (lv_at hl 9 rfl) ?_
                  refine lv_iload hx hb dL_isWhole_132 (lv_at hl 4 rfl) ?_
                  refine nv_icmp_ge (X := ((i3 : Nat) : Int)) (Y := ((g 8 0 : Nat) : Int)) hx hb (nI_toInt (by omega)) (nI_toInt (by omega)) (tgt := 230) dL_isWhole_134 (by decide) (fun c_3 => ?_) (fun c_3 => ?_)
                  · skip
                    refine W_widen (k := 1600) (n := 13600) (by omega) (by omega) ?_
                    refine lv_aload_n hx hb dL_isWhole_230 rfl (lv_at hl 0 rfl) ?_
                    refine run_i (S := JT) (run_SX (As := [.ref (X 0 0)]) (rest := []) (bs := OB E X hs w g g2 hg nx ct jc) (cb := OB E X hs w g g2 hg nx ct jc) hx hb hml hown hts hK hZ hDD hA (c_L_beatsUntilChorus l hst E _ X hs w g g2 B hI hg nx ct hnx hct jc hjc) l_L_325 rfl ⟨⟨rfl, rfl⟩, Nat.le_of_ble_eq_true rfl, Nat.le_of_ble_eq_true rfl⟩ [0, 1, 2, 3, 4, 5, 6, 7, 8, 9] rfl (by decide) hP hD hS hl.1 rfl (Nat.le_of_ble_eq_true rfl) dL_isWhole_231 ⟨by show 1600 + 1 ≤ 1700; omega, by show 13600 + 6 ≤ 14500; omega⟩) hA hP hD hS (isC := [0, 1, 2, 3, 4, 5, 6, 7, 8, 9]) rfl [] [0, 1, 2, 3, 4, 5, 6, 7, 8, 9] (br := []) (bs2 := fun u => OB E X hs w g g2 hg nx ct u) rfl (by decide) (fun _ => rfl) (by decide) (fun r j_4 H locs hw hP hD hS => ?_)
                    obtain ⟨hw, hj_5⟩ := hw
                    refine tp_i hw ?_
                    obtain ⟨fc, hfc⟩ : ∃ fc, fc = wch g := ⟨_, rfl⟩
                    refine tp_i hfc.symm ?_
                    refine lv_istore (lv' := [(10, .int fc), (0, .ref (X 0 0)), (1, .ref (E.2.2 202)), (2, .int (nI k0)), (3, .int (bI ba)), (4, .int (nI (g 8 0))), (5, .int (nI (allSh g))), (6, .int (nI (pursN g))), (7, .int (nI (sm (dv g) (g 8 0)))), (8, .long (lN (chA g (g 8 0))))]) hx hb dL_isWhole_234 hl (by decide) rfl (fun ls hl => ?_)
                    have k306 : ∀ (jk306 : JT), JV jk306 → ∀ (H : Heap) (locs : List Loc) (ls : Array Slot), va_P E.1 vwCl (OB E X hs w g g2 hg nx ct jk306 : List va_W).flatten H → va_D A (OB E X hs w g g2 hg nx ct jk306 : List va_W).flatten → va_S A s.heap H locs → lv_has ls 19 [(0, .ref (X 0 0)), (1, .ref (E.2.2 202)), (2, .int (nI k0)), (3, .int (bI ba)), (4, .int (nI (g 8 0))), (5, .int (nI (allSh g))), (6, .int (nI (pursN g))), (7, .int (nI (sm (dv g) (g 8 0)))), (8, .long (lN (chA g (g 8 0))))] → W p l e rm_L_isWhole s m ([.ref (X 0 0), .ref (E.2.2 202), .int (nI k0), .int (bI ba)] : List Value).toArray below meth c H locs ((1600 + 1) + 0) ((13600 + 6) + 0) Q (F0 m 306 ls [.int (nI 1)]) := by
                      intro jk306 hjk306 H locs ls hP hD hS hl
                      refine lv_istore (lv' := [(11, .int (nI 1)), (0, .ref (X 0 0)), (1, .ref (E.2.2 202)), (2, .int (nI k0)), (3, .int (bI ba)), (4, .int (nI (g 8 0))), (5, .int (nI (allSh g))), (6, .int (nI (pursN g))), (7, .int (nI (sm (dv g) (g 8 0)))), (8, .long (lN (chA g (g 8 0))))]) hx hb dL_isWhole_306 hl (by decide) rfl (fun ls hl => ?_)
                      refine lv_aload_n hx hb dL_isWhole_308 rfl (lv_at hl 2 rfl) ?_
                      refine lv_iload_n hx hb dL_isWhole_309 rfl (lv_at hl 3 rfl) ?_
                      refine lv_iconst (v := nI 2) hx hb dL_isWhole_310 (by decide) ?_
                      refine nv_iadd hx hb dL_isWhole_311 ?_
                      refine lv_bipush (v := nI 7) hx hb dL_isWhole_312 (by decide) ?_
                      refine run_i (S := Nat) (run_S (As := [.ref (E.2.2 202), .int (nI (k0 + 2)), .int (nI 7)]) (rest := []) (bs := OB E X hs w g g2 hg nx ct jk306) (cb := []) hx hb hml hown hts hK hZ hA (c_L_pick l E _ hL (k0 + 2) 7 (by omega) (by omega) (by omega)) l_L_176 rfl ⟨⟨rfl, rfl⟩, Nat.le_of_ble_eq_true rfl, Nat.le_of_ble_eq_true rfl⟩ [] rfl (by decide) hP hD hS hl.1 rfl (Nat.le_of_ble_eq_true rfl) dL_isWhole_314 ⟨by show ((1600 + 1) + 0) + 0 ≤ 1700; omega, by show ((13600 + 6) + 0) + 0 ≤ 14500; omega⟩) hA hP hD hS (isC := []) rfl [0, 1, 2, 3, 4, 5, 6, 7, 8, 9] [0, 1, 2, 3, 4, 5, 6, 7, 8, 9] (br := OB E X hs w g g2 hg nx ct jk306) (bs2 := fun _ => OB E X hs w g g2 hg nx ct jk306) rfl (by decide) (fun _ => rfl) (by decide) (fun r v_6 H locs hw hP hD hS => ?_)
                      obtain ⟨hw, hv_6⟩ := hw
                      subst hw
                      refine lv_istore (lv' := [(12, .int (nI v_6)), (11, .int (nI 1)), (0, .ref (X 0 0)), (1, .ref (E.2.2 202)), (2, .int (nI k0)), (3, .int (bI ba)), (4, .int (nI (g 8 0))), (5, .int (nI (allSh g))), (6, .int (nI (pursN g))), (7, .int (nI (sm (dv g) (g 8 0)))), (8, .long (lN (chA g (g 8 0))))]) hx hb dL_isWhole_317 hl (by decide) rfl (fun ls hl => ?_)
                      have k407 : ∀ (jk407 : JT), JV jk407 → ∀ (H : Heap) (locs : List Loc) (ls : Array Slot), va_P E.1 vwCl (OB E X hs w g g2 hg nx ct jk407 : List va_W).flatten H → va_D A (OB E X hs w g g2 hg nx ct jk407 : List va_W).flatten → va_S A s.heap H locs → lv_has ls 19 [(0, .ref (X 0 0)), (1, .ref (E.2.2 202)), (2, .int (nI k0)), (3, .int (bI ba)), (4, .int (nI (g 8 0))), (5, .int (nI (allSh g))), (6, .int (nI (pursN g))), (7, .int (nI (sm (dv g) (g 8 0)))), (8, .long (lN (chA g (g 8 0)))), (11, .int (nI 1)), (14, .int (nI 1))] → W p l e rm_L_isWhole s m ([.ref (X 0 0), .ref (E.2.2 202), .int (nI k0), .int (bI ba)] : List Value).toArray below meth c H locs (((1600 + 1) + 0) + 20) (((13600 + 6) + 0) + 120) Q (F0 m 407 ls []) := by
                        intro jk407 hjk407 H locs ls hP hD hS hl
                        refine lv_aload_n hx hb dL_isWhole_407 rfl (lv_at hl 0 rfl) ?_
                        refine run_i (S := (Nat → Nat) × (Nat → Nat)) (run_V (As := []) (rest := []) (bs := OB E X hs w g g2 hg nx ct jk407) (cb := [coC E (X 0) (X 1) (X 2) (X 3) (X 4) (X 5) (X 6) (X 7) (X 8) w, stC E (X 1) g, grC E (X 6) jk407.2.2.2.1 jk407.2.2.2.2.1]) hx hb hml hown hts hK hZ hA (c_X5_winningGroups l E _ (X 0) (X 1) (X 2) (X 3) (X 4) (X 5) (X 6) (X 7) (X 8) w g B hI jk407.2.2.2.1 jk407.2.2.2.2.1) l_L_329 rfl ⟨⟨rfl, rfl⟩, Nat.le_of_ble_eq_true rfl, Nat.le_of_ble_eq_true rfl⟩ 9 rfl [0, 1, 6] rfl (by decide) rfl hP hD hS hl.1 rfl (Nat.le_of_ble_eq_true rfl) dL_isWhole_408 ⟨by show (((1600 + 1) + 0) + 20) + 0 ≤ 1700; omega, by show (((13600 + 6) + 0) + 120) + 0 ≤ 14500; omega⟩) hA hP hD hS (isC := [0, 1, 6]) rfl [2, 3, 4, 5, 7, 8, 9] [7, 8, 0, 1, 2, 3, 9, 4, 5, 6] (br := [stC E (X 2) g2, stC E (X 3) jk407.1, hhC E (X 4) hs hg nx ct, diC E (X 5) jk407.2.1 jk407.2.2.1, prC E (X 7) jk407.2.2.2.2.2.1 jk407.2.2.2.2.2.2.1, sbO E (X 8) jk407.2.2.2.2.2.2.2.1 jk407.2.2.2.2.2.2.2.2.1 jk407.2.2.2.2.2.2.2.2.2.1, baC E jk407.2.2.2.2.2.2.2.1 jk407.2.2.2.2.2.2.2.2.2.2.1 jk407.2.2.2.2.2.2.2.2.2.2.2]) (bs2 := fun u => [coC E (X 0) (X 1) (X 2) (X 3) (X 4) (X 5) (X 6) (X 7) (X 8) w, stC E (X 1) g, stC E (X 2) g2, stC E (X 3) jk407.1, hhC E (X 4) hs hg nx ct, diC E (X 5) jk407.2.1 jk407.2.2.1, grC E (X 6) u.1 u.2, prC E (X 7) jk407.2.2.2.2.2.1 jk407.2.2.2.2.2.2.1, sbO E (X 8) jk407.2.2.2.2.2.2.2.1 jk407.2.2.2.2.2.2.2.2.1 jk407.2.2.2.2.2.2.2.2.2.1, baC E jk407.2.2.2.2.2.2.2.1 jk407.2.2.2.2.2.2.2.2.2.2.1 jk407.2.2.2.2.2.2.2.2.2.2.2]) rfl (by decide) (fun _ => rfl) (by decide) (fun r u_7 H locs hw hP hD hS => ?_)
                        subst hw
                        have hP : va_P E.1 vwCl (OB E X hs w g g2 hg nx ct (jk407.1, jk407.2.1, jk407.2.2.1, u_7.1, u_7.2, jk407.2.2.2.2.2) : List va_W).flatten H := hP
                        have hD : va_D A (OB E X hs w g g2 hg nx ct (jk407.1, jk407.2.1, jk407.2.2.1, u_7.1, u_7.2, jk407.2.2.2.2.2) : List va_W).flatten := hD
                        have hj_9 : JV (jk407.1, jk407.2.1, jk407.2.2.1, u_7.1, u_7.2, jk407.2.2.2.2.2) := hjk407
                        generalize ((jk407.1, jk407.2.1, jk407.2.2.1, u_7.1, u_7.2, jk407.2.2.2.2.2) : JT) = j_8 at hP hD hj_9
                        refine lv_istore (lv' := [(15, .int (nI (winN g))), (0, .ref (X 0 0)), (1, .ref (E.2.2 202)), (2, .int (nI k0)), (3, .int (bI ba)), (4, .int (nI (g 8 0))), (5, .int (nI (allSh g))), (6, .int (nI (pursN g))), (7, .int (nI (sm (dv g) (g 8 0)))), (8, .long (lN (chA g (g 8 0)))), (11, .int (nI 1)), (14, .int (nI 1))]) hx hb dL_isWhole_411 hl (by decide) rfl (fun ls hl => ?_)
                        refine lv_aload_n hx hb dL_isWhole_413 rfl (lv_at hl 1 rfl) ?_
                        refine run_i (S := Unit) (run_V (As := []) (rest := []) (bs := OB E X hs w g g2 hg nx ct j_8) (cb := [coC E (X 0) (X 1) (X 2) (X 3) (X 4) (X 5) (X 6) (X 7) (X 8) w, stC E (X 1) g]) hx hb hml hown hts hK hZ hA (c_X5_quota l E _ (X 0) (X 1) (X 2) (X 3) (X 4) (X 5) (X 6) (X 7) (X 8) w g B hI) l_L_188 rfl ⟨⟨rfl, rfl⟩, Nat.le_of_ble_eq_true rfl, Nat.le_of_ble_eq_true rfl⟩ 9 rfl [0, 1] rfl (by decide) rfl hP hD hS hl.1 rfl (Nat.le_of_ble_eq_true rfl) dL_isWhole_414 ⟨by show (((1600 + 1) + 0) + 20) + 0 ≤ 1700; omega, by show (((13600 + 6) + 0) + 120) + 0 ≤ 14500; omega⟩) hA hP hD hS (isC := [0, 1]) rfl [2, 3, 4, 5, 6, 7, 8, 9] [8, 9, 0, 1, 2, 3, 4, 5, 6, 7] (br := [stC E (X 2) g2, stC E (X 3) j_8.1, hhC E (X 4) hs hg nx ct, diC E (X 5) j_8.2.1 j_8.2.2.1, grC E (X 6) j_8.2.2.2.1 j_8.2.2.2.2.1, prC E (X 7) j_8.2.2.2.2.2.1 j_8.2.2.2.2.2.2.1, sbO E (X 8) j_8.2.2.2.2.2.2.2.1 j_8.2.2.2.2.2.2.2.2.1 j_8.2.2.2.2.2.2.2.2.2.1, baC E j_8.2.2.2.2.2.2.2.1 j_8.2.2.2.2.2.2.2.2.2.2.1 j_8.2.2.2.2.2.2.2.2.2.2.2]) (bs2 := fun _ => OB E X hs w g g2 hg nx ct j_8) rfl (by decide) (fun _ => rfl) (by decide) (fun r u H locs hw hP hD hS => ?_)
                        subst hw
                        refine lv_iload hx hb dL_isWhole_417 (lv_at hl 6 rfl) ?_
                        refine lv_iconst (v := nI 2) hx hb dL_isWhole_419 (by decide) ?_
                        refine nv_idiv hx hb (by omega) (by omega) (by omega) dL_isWhole_420 ?_
                        refine lv_iconst (v := nI 1) hx hb dL_isWhole_421 (by decide) ?_
                        refine nv_iadd hx hb dL_isWhole_422 ?_
                        refine nv_icmp_ne (X := ((quo g : Nat) : Int)) (Y := ((((allSh g) / 2) + 1 : Nat) : Int)) hx hb (nI_toInt (by omega)) (nI_toInt (by omega)) (tgt := 498) dL_isWhole_423 (by decide) (fun c_10 => ?_) (fun c_10 => ?_)
                        · exact absurd c_10 (by omega)
                        · skip
                          refine lv_aload_n hx hb dL_isWhole_426 rfl (lv_at hl 1 rfl) ?_
                          refine run_i (S := (Nat → Nat) × (Nat → Nat)) (run_V (As := []) (rest := []) (bs := OB E X hs w g g2 hg nx ct j_8) (cb := [coC E (X 0) (X 1) (X 2) (X 3) (X 4) (X 5) (X 6) (X 7) (X 8) w, stC E (X 1) g, grC E (X 6) j_8.2.2.2.1 j_8.2.2.2.2.1]) hx hb hml hown hts hK hZ hA (c_X5_winningGroupsByTable l E _ (X 0) (X 1) (X 2) (X 3) (X 4) (X 5) (X 6) (X 7) (X 8) w g B hI j_8.2.2.2.1 j_8.2.2.2.2.1) l_L_332 rfl ⟨⟨rfl, rfl⟩, Nat.le_of_ble_eq_true rfl, Nat.le_of_ble_eq_true rfl⟩ 9 rfl [0, 1, 6] rfl (by decide) rfl hP hD hS hl.1 rfl (Nat.le_of_ble_eq_true rfl) dL_isWhole_427 ⟨by show (((1600 + 1) + 0) + 20) + 0 ≤ 1700; omega, by show (((13600 + 6) + 0) + 120) + 0 ≤ 14500; omega⟩) hA hP hD hS (isC := [0, 1, 6]) rfl [2, 3, 4, 5, 7, 8, 9] [7, 8, 0, 1, 2, 3, 9, 4, 5, 6] (br := [stC E (X 2) g2, stC E (X 3) j_8.1, hhC E (X 4) hs hg nx ct, diC E (X 5) j_8.2.1 j_8.2.2.1, prC E (X 7) j_8.2.2.2.2.2.1 j_8.2.2.2.2.2.2.1, sbO E (X 8) j_8.2.2.2.2.2.2.2.1 j_8.2.2.2.2.2.2.2.2.1 j_8.2.2.2.2.2.2.2.2.2.1, baC E j_8.2.2.2.2.2.2.2.1 j_8.2.2.2.2.2.2.2.2.2.2.1 j_8.2.2.2.2.2.2.2.2.2.2.2]) (bs2 := fun u => [coC E (X 0) (X 1) (X 2) (X 3) (X 4) (X 5) (X 6) (X 7) (X 8) w, stC E (X 1) g, stC E (X 2) g2, stC E (X 3) j_8.1, hhC E (X 4) hs hg nx ct, diC E (X 5) j_8.2.1 j_8.2.2.1, grC E (X 6) u.1 u.2, prC E (X 7) j_8.2.2.2.2.2.1 j_8.2.2.2.2.2.2.1, sbO E (X 8) j_8.2.2.2.2.2.2.2.1 j_8.2.2.2.2.2.2.2.2.1 j_8.2.2.2.2.2.2.2.2.2.1, baC E j_8.2.2.2.2.2.2.2.1 j_8.2.2.2.2.2.2.2.2.2.2.1 j_8.2.2.2.2.2.2.2.2.2.2.2]) rfl (by decide) (fun _ => rfl) (by decide) (fun r u_11 H locs hw hP hD hS => ?_)
                          subst hw
                          have hP : va_P E.1 vwCl (OB E X hs w g g2 hg nx ct (j_8.1, j_8.2.1, j_8.2.2.1, u_11.1, u_11.2, j_8.2.2.2.2.2) : List va_W).flatten H := hP
                          have hD : va_D A (OB E X hs w g g2 hg nx ct (j_8.1, j_8.2.1, j_8.2.2.1, u_11.1, u_11.2, j_8.2.2.2.2.2) : List va_W).flatten := hD
                          have hj_13 : JV (j_8.1, j_8.2.1, j_8.2.2.1, u_11.1, u_11.2, j_8.2.2.2.2.2) := hj_9
                          generalize ((j_8.1, j_8.2.1, j_8.2.2.1, u_11.1, u_11.2, j_8.2.2.2.2.2) : JT) = j_12 at hP hD hj_13
                          refine lv_iload hx hb dL_isWhole_430 (lv_at hl 0 rfl) ?_
                          refine nv_icmp_ne (X := ((winN g : Nat) : Int)) (Y := ((winN g : Nat) : Int)) hx hb (nI_toInt (by omega)) (nI_toInt (by omega)) (tgt := 498) dL_isWhole_432 (by decide) (fun c_14 => ?_) (fun c_14 => ?_)
                          · exact absurd c_14 (by omega)
                          · skip
                            have k482 : ∀ (jk482 : JT), JV jk482 → ∀ (H : Heap) (locs : List Loc) (ls : Array Slot), va_P E.1 vwCl (OB E X hs w g g2 hg nx ct jk482 : List va_W).flatten H → va_D A (OB E X hs w g g2 hg nx ct jk482 : List va_W).flatten → va_S A s.heap H locs → lv_has ls 19 [(0, .ref (X 0 0)), (1, .ref (E.2.2 202)), (2, .int (nI k0)), (3, .int (bI ba)), (4, .int (nI (g 8 0))), (5, .int (nI (allSh g))), (6, .int (nI (pursN g))), (7, .int (nI (sm (dv g) (g 8 0)))), (8, .long (lN (chA g (g 8 0)))), (11, .int (nI 1)), (14, .int (nI 1))] → W p l e rm_L_isWhole s m ([.ref (X 0 0), .ref (E.2.2 202), .int (nI k0), .int (bI ba)] : List Value).toArray below meth c H locs ((((1600 + 1) + 0) + 20) + 2) ((((13600 + 6) + 0) + 120) + 12) Q (F0 m 482 ls []) := by
                              intro jk482 hjk482 H locs ls hP hD hS hl
                              refine lv_aload_n hx hb dL_isWhole_482 rfl (lv_at hl 0 rfl) ?_
                              refine lv_iconst (v := nI 0) hx hb dL_isWhole_483 (by decide) ?_
                              refine lv_bipush (v := nI 6) hx hb dL_isWhole_484 (by decide) ?_
                              refine run_i (S := JT) (run_SX (As := [.ref (X 0 0), .int (nI 0), .int (nI 6)]) (rest := []) (bs := OB E X hs w g g2 hg nx ct jk482) (cb := OB E X hs w g g2 hg nx ct jk482) hx hb hml hown hts hK hZ hDD hA (c_L_sharesInFavour l hst E _ X hs w g g2 B hI hg nx ct hnx hct jk482 hjk482 (nI 0) (nI 6)) l_L_185 rfl ⟨⟨rfl, rfl⟩, Nat.le_of_ble_eq_true rfl, Nat.le_of_ble_eq_true rfl⟩ [0, 1, 2, 3, 4, 5, 6, 7, 8, 9] rfl (by decide) hP hD hS hl.1 rfl (Nat.le_of_ble_eq_true rfl) dL_isWhole_486 ⟨by show ((((1600 + 1) + 0) + 20) + 2) + 1 ≤ 1700; omega, by show ((((13600 + 6) + 0) + 120) + 12) + 6 ≤ 14500; omega⟩) hA hP hD hS (isC := [0, 1, 2, 3, 4, 5, 6, 7, 8, 9]) rfl [] [0, 1, 2, 3, 4, 5, 6, 7, 8, 9] (br := []) (bs2 := fun u => OB E X hs w g g2 hg nx ct u) rfl (by decide) (fun _ => rfl) (by decide) (fun r j_15 H locs hw hP hD hS => ?_)
                              obtain ⟨hw, hj_16⟩ := hw
                              refine tp_i hw ?_
                              refine tp_i (show wfv g (nI 0) (nI 6) = nI (allSh g) from fav0 hI) ?_
                              refine lv_iload hx hb dL_isWhole_489 (lv_at hl 5 rfl) ?_
                              refine nv_icmp_ne (X := ((allSh g : Nat) : Int)) (Y := ((allSh g : Nat) : Int)) hx hb (nI_toInt (by omega)) (nI_toInt (by omega)) (tgt := 498) dL_isWhole_491 (by decide) (fun c_17 => ?_) (fun c_17 => ?_)
                              · exact absurd c_17 (by omega)
                              · skip
                                refine lv_iconst (v := nI 1) hx hb dL_isWhole_494 (by decide) ?_
                                refine lv_goto (tgt := 499) hx hb dL_isWhole_495 (by decide) ?_
                                refine lv_istore (lv' := [(16, .int (nI 1)), (0, .ref (X 0 0)), (1, .ref (E.2.2 202)), (2, .int (nI k0)), (3, .int (bI ba)), (4, .int (nI (g 8 0))), (5, .int (nI (allSh g))), (6, .int (nI (pursN g))), (7, .int (nI (sm (dv g) (g 8 0)))), (8, .long (lN (chA g (g 8 0)))), (11, .int (nI 1)), (14, .int (nI 1))]) hx hb dL_isWhole_499 hl (by decide) rfl (fun ls hl => ?_)
                                refine lv_aload_n hx hb dL_isWhole_501 rfl (lv_at hl 1 rfl) ?_
                                refine lv_iconst (v := nI 0) hx hb dL_isWhole_502 (by decide) ?_
                                refine run_i (S := JT) (run_SX (As := [.ref (X 0 0), .int (nI 0)]) (rest := []) (bs := OB E X hs w g g2 hg nx ct j_15) (cb := OB E X hs w g g2 hg nx ct j_15) hx hb hml hown hts hK hZ hDD hA (c_L_spoiltBeat l hst E _ X hs w g g2 B hI hg nx ct hnx hct j_15 hj_16 (nI 0)) l_L_203 rfl ⟨⟨rfl, rfl⟩, Nat.le_of_ble_eq_true rfl, Nat.le_of_ble_eq_true rfl⟩ [0, 1, 2, 3, 4, 5, 6, 7, 8, 9] rfl (by decide) hP hD hS hl.1 rfl (Nat.le_of_ble_eq_true rfl) dL_isWhole_503 ⟨by show (((((1600 + 1) + 0) + 20) + 2) + 1) + 1 ≤ 1700; omega, by show (((((13600 + 6) + 0) + 120) + 12) + 6) + 6 ≤ 14500; omega⟩) hA hP hD hS (isC := [0, 1, 2, 3, 4, 5, 6, 7, 8, 9]) rfl [] [0, 1, 2, 3, 4, 5, 6, 7, 8, 9] (br := []) (bs2 := fun u => OB E X hs w g g2 hg nx ct u) rfl (by decide) (fun _ => rfl) (by decide) (fun r j_18 H locs hw hP hD hS => ?_)
                                obtain ⟨hw, hj_19⟩ := hw
                                refine tp_i hw ?_
                                obtain ⟨ws0, hws0⟩ : ∃ ws0, ws0 = wsp g (nI 0) := ⟨_, rfl⟩
                                rw [← hws0] at hwb
                                refine tp_i hws0.symm ?_
                                refine lv_istore (lv' := [(17, .int ws0), (16, .int (nI 1)), (0, .ref (X 0 0)), (1, .ref (E.2.2 202)), (2, .int (nI k0)), (3, .int (bI ba)), (4, .int (nI (g 8 0))), (5, .int (nI (allSh g))), (6, .int (nI (pursN g))), (7, .int (nI (sm (dv g) (g 8 0)))), (8, .long (lN (chA g (g 8 0)))), (11, .int (nI 1)), (14, .int (nI 1))]) hx hb dL_isWhole_506 hl (by decide) rfl (fun ls hl => ?_)
                                refine lv_iconst (v := nI 1) hx hb dL_isWhole_508 (by decide) ?_
                                refine lv_istore (lv' := [(18, .int (nI 1)), (17, .int ws0), (16, .int (nI 1)), (0, .ref (X 0 0)), (1, .ref (E.2.2 202)), (2, .int (nI k0)), (3, .int (bI ba)), (4, .int (nI (g 8 0))), (5, .int (nI (allSh g))), (6, .int (nI (pursN g))), (7, .int (nI (sm (dv g) (g 8 0)))), (8, .long (lN (chA g (g 8 0)))), (11, .int (nI 1)), (14, .int (nI 1))]) hx hb dL_isWhole_509 hl (by decide) rfl (fun ls hl => ?_)
                                have loop511 : ∀ (n : Nat) (i5 : Nat) (je : JT), (1 ≤ i5) → (i5 ≤ 10) → (JV je) → 11 - i5 < n → ∀ (H : Heap) (locs : List Loc) (ls : Array Slot), va_P E.1 vwCl (OB E X hs w g g2 hg nx ct je : List va_W).flatten H → va_D A (OB E X hs w g g2 hg nx ct je : List va_W).flatten → va_S A s.heap H locs → lv_has ls 19 [(0, .ref (X 0 0)), (1, .ref (E.2.2 202)), (2, .int (nI k0)), (3, .int (bI ba)), (4, .int (nI (g 8 0))), (5, .int (nI (allSh g))), (6, .int (nI (pursN g))), (7, .int (nI (sm (dv g) (g 8 0)))), (8, .long (lN (chA g (g 8 0)))), (11, .int (nI 1)), (14, .int (nI 1)), (16, .int (nI 1)), (17, .int ws0), (18, .int (nI i5))] → W p l e rm_L_isWhole s m ([.ref (X 0 0), .ref (E.2.2 202), .int (nI k0), .int (bI ba)] : List Value).toArray below meth c H locs (((((((1600 + 1) + 0) + 20) + 2) + 1) + 1) + 3 * i5) (((((((13600 + 6) + 0) + 120) + 12) + 6) + 6) + 18 * i5) Q (F0 m 511 ls []) := by
                                  intro n511
                                  induction n511 with
                                  | zero => intro i5 je hi5 hi5b hje hn511; exact absurd hn511 (Nat.not_lt_zero _)
                                  | succ n511 ih511 =>
                                    intro i5 je hi5 hi5b hje hn511 H locs ls hP hD hS hl
                                    refine lv_aload_n hx hb dL_isWhole_511 rfl (lv_at hl 0 rfl) ?_
                                    refine lv_iload hx hb dL_isWhole_512 (lv_at hl 13 rfl) ?_
                                    refine run_i (S := JT) (run_SX (As := [.ref (X 0 0), .int (nI i5)]) (rest := []) (bs := OB E X hs w g g2 hg nx ct je) (cb := OB E X hs w g g2 hg nx ct je) hx hb hml hown hts hK hZ hDD hA (c_L_spoiltBeat l hst E _ X hs w g g2 B hI hg nx ct hnx hct je hje (nI i5)) l_L_203 rfl ⟨⟨rfl, rfl⟩, Nat.le_of_ble_eq_true rfl, Nat.le_of_ble_eq_true rfl⟩ [0, 1, 2, 3, 4, 5, 6, 7, 8, 9] rfl (by decide) hP hD hS hl.1 rfl (Nat.le_of_ble_eq_true rfl) dL_isWhole_514 ⟨by show (((((((1600 + 1) + 0) + 20) + 2) + 1) + 1) + 3 * i5) + 1 ≤ 1700; omega, by show (((((((13600 + 6) + 0) + 120) + 12) + 6) + 6) + 18 * i5) + 6 ≤ 14500; omega⟩) hA hP hD hS (isC := [0, 1, 2, 3, 4, 5, 6, 7, 8, 9]) rfl [] [0, 1, 2, 3, 4, 5, 6, 7, 8, 9] (br := []) (bs2 := fun u => OB E X hs w g g2 hg nx ct u) rfl (by decide) (fun _ => rfl) (by decide) (fun r j_20 H locs hw hP hD hS => ?_)
                                    obtain ⟨hw, hj_21⟩ := hw
                                    refine tp_i hw ?_
                                    by_cases hs9 : i5 < g 8 7
                                    · skip
                                      refine tp_i ((wsp_in h87 (by omega)).trans (if_pos hs9)) ?_
                                      have hdc := hJ.2.1 (i5 - 1) (by omega)
                                      rw [show i5 - 1 + 1 = i5 by omega] at hdc
                                      have hs7 := hI.2.2.2.1.2.2.2 i5
                                      have hs7b := hI.2.2.2.1.2.2.2 (i5 - 1)
                                      refine nv_if_lt (X := ((g 7 i5 : Nat) : Int)) hx hb (nI_toInt (by omega)) (tgt := 552) dL_isWhole_517 (by decide) (fun c_22 => ?_) (fun c_22 => ?_)
                                      · exact absurd c_22 (by omega)
                                      · skip
                                        refine lv_aload_n hx hb dL_isWhole_520 rfl (lv_at hl 0 rfl) ?_
                                        refine lv_iload hx hb dL_isWhole_521 (lv_at hl 13 rfl) ?_
                                        refine run_i (S := JT) (run_SX (As := [.ref (X 0 0), .int (nI i5)]) (rest := []) (bs := OB E X hs w g g2 hg nx ct j_20) (cb := OB E X hs w g g2 hg nx ct j_20) hx hb hml hown hts hK hZ hDD hA (c_L_spoiltBeat l hst E _ X hs w g g2 B hI hg nx ct hnx hct j_20 hj_21 (nI i5)) l_L_203 rfl ⟨⟨rfl, rfl⟩, Nat.le_of_ble_eq_true rfl, Nat.le_of_ble_eq_true rfl⟩ [0, 1, 2, 3, 4, 5, 6, 7, 8, 9] rfl (by decide) hP hD hS hl.1 rfl (Nat.le_of_ble_eq_true rfl) dL_isWhole_523 ⟨by show ((((((((1600 + 1) + 0) + 20) + 2) + 1) + 1) + 3 * i5) + 1) + 1 ≤ 1700; omega, by show ((((((((13600 + 6) + 0) + 120) + 12) + 6) + 6) + 18 * i5) + 6) + 6 ≤ 14500; omega⟩) hA hP hD hS (isC := [0, 1, 2, 3, 4, 5, 6, 7, 8, 9]) rfl [] [0, 1, 2, 3, 4, 5, 6, 7, 8, 9] (br := []) (bs2 := fun u => OB E X hs w g g2 hg nx ct u) rfl (by decide) (fun _ => rfl) (by decide) (fun r j_23 H locs hw hP hD hS => ?_)
                                        obtain ⟨hw, hj_24⟩ := hw
                                        refine tp_i hw ?_
                                        refine tp_i ((wsp_in h87 (by omega)).trans (if_pos (by omega))) ?_
                                        refine lv_aload_n hx hb dL_isWhole_526 rfl (lv_at hl 0 rfl) ?_
                                        refine lv_iload hx hb dL_isWhole_527 (lv_at hl 13 rfl) ?_
                                        refine lv_iconst (v := nI 1) hx hb dL_isWhole_529 (by decide) ?_
                                        refine nv_isub hx hb (by omega) dL_isWhole_530 ?_
                                        refine run_i (S := JT) (run_SX (As := [.ref (X 0 0), .int (nI (i5 - 1))]) (rest := [.int (nI (g 7 i5))]) (bs := OB E X hs w g g2 hg nx ct j_23) (cb := OB E X hs w g g2 hg nx ct j_23) hx hb hml hown hts hK hZ hDD hA (c_L_spoiltBeat l hst E _ X hs w g g2 B hI hg nx ct hnx hct j_23 hj_24 (nI (i5 - 1))) l_L_203 rfl ⟨⟨rfl, rfl⟩, Nat.le_of_ble_eq_true rfl, Nat.le_of_ble_eq_true rfl⟩ [0, 1, 2, 3, 4, 5, 6, 7, 8, 9] rfl (by decide) hP hD hS hl.1 rfl (Nat.le_of_ble_eq_true rfl) dL_isWhole_531 ⟨by show (((((((((1600 + 1) + 0) + 20) + 2) + 1) + 1) + 3 * i5) + 1) + 1) + 1 ≤ 1700; omega, by show (((((((((13600 + 6) + 0) + 120) + 12) + 6) + 6) + 18 * i5) + 6) + 6) + 6 ≤ 14500; omega⟩) hA hP hD hS (isC := [0, 1, 2, 3, 4, 5, 6, 7, 8, 9]) rfl [] [0, 1, 2, 3, 4, 5, 6, 7, 8, 9] (br := []) (bs2 := fun u => OB E X hs w g g2 hg nx ct u) rfl (by decide) (fun _ => rfl) (by decide) (fun r j_25 H locs hw hP hD hS => ?_)
                                        obtain ⟨hw, hj_26⟩ := hw
                                        refine tp_i hw ?_
                                        refine tp_i ((wsp_in h87 (by omega)).trans (if_pos (by omega))) ?_
                                        refine nv_icmp_ge (X := ((g 7 i5 : Nat) : Int)) (Y := ((g 7 (i5 - 1) : Nat) : Int)) hx hb (nI_toInt (by omega)) (nI_toInt (by omega)) (tgt := 544) dL_isWhole_534 (by decide) (fun c_27 => ?_) (fun c_27 => ?_)
                                        · exact absurd c_27 (by omega)
                                        · skip
                                          refine lv_iload hx hb dL_isWhole_537 (lv_at hl 13 rfl) ?_
                                          refine lv_bipush (v := nI 9) hx hb dL_isWhole_539 (by decide) ?_
                                          refine nv_icmp_le (X := ((i5 : Nat) : Int)) (Y := ((9 : Nat) : Int)) hx hb (nI_toInt (by omega)) (nI_toInt (by omega)) (tgt := 546) dL_isWhole_541 (by decide) (fun c_28 => ?_) (fun c_28 => ?_)
                                          · skip
                                            refine lv_iinc (v := nI (i5 + 1)) (lv' := [(18, .int (nI (i5 + 1))), (0, .ref (X 0 0)), (1, .ref (E.2.2 202)), (2, .int (nI k0)), (3, .int (bI ba)), (4, .int (nI (g 8 0))), (5, .int (nI (allSh g))), (6, .int (nI (pursN g))), (7, .int (nI (sm (dv g) (g 8 0)))), (8, .long (lN (chA g (g 8 0)))), (11, .int (nI 1)), (14, .int (nI 1)), (16, .int (nI 1)), (17, .int ws0)]) hx hb dL_isWhole_546 hl (k := 13) rfl (nI_add i5 1) (by decide) rfl (fun ls hl => ?_)
                                            refine lv_goto (tgt := 511) hx hb dL_isWhole_549 (by decide) ?_
                                            exact W_widen (by omega) (by omega) (ih511 (i5 + 1) j_25 (by omega) (by omega) hj_26 (by omega) _ _ _ hP hD hS (lv_sub hl [1, 2, 3, 4, 5, 6, 7, 8, 9, 10, 11, 12, 13, 0] rfl))
                                          · exact absurd c_28 (by omega)
                                    · skip
                                      refine tp_i ((wsp_in h87 (by omega)).trans (if_neg hs9)) ?_
                                      refine nv_if_lt (X := (-77)) hx hb (by decide) (tgt := 552) dL_isWhole_517 (by decide) (fun c_29 => ?_) (fun c_29 => ?_)
                                      · skip
                                        refine lv_aload_n hx hb dL_isWhole_552 rfl (lv_at hl 0 rfl) ?_
                                        refine run_i (S := Unit) (run_V (As := []) (rest := []) (bs := OB E X hs w g g2 hg nx ct j_20) (cb := [coC E (X 0) (X 1) (X 2) (X 3) (X 4) (X 5) (X 6) (X 7) (X 8) w, stC E (X 1) g]) hx hb hml hown hts hK hZ hA (c_X5_coinTotal l E _ (X 0) (X 1) (X 2) (X 3) (X 4) (X 5) (X 6) (X 7) (X 8) w g B hI) l_L_337 rfl ⟨⟨rfl, rfl⟩, Nat.le_of_ble_eq_true rfl, Nat.le_of_ble_eq_true rfl⟩ 9 rfl [0, 1] rfl (by decide) rfl hP hD hS hl.1 rfl (Nat.le_of_ble_eq_true rfl) dL_isWhole_553 ⟨by show ((((((((1600 + 1) + 0) + 20) + 2) + 1) + 1) + 3 * i5) + 1) + 0 ≤ 1700; omega, by show ((((((((13600 + 6) + 0) + 120) + 12) + 6) + 6) + 18 * i5) + 6) + 0 ≤ 14500; omega⟩) hA hP hD hS (isC := [0, 1]) rfl [2, 3, 4, 5, 6, 7, 8, 9] [8, 9, 0, 1, 2, 3, 4, 5, 6, 7] (br := [stC E (X 2) g2, stC E (X 3) j_20.1, hhC E (X 4) hs hg nx ct, diC E (X 5) j_20.2.1 j_20.2.2.1, grC E (X 6) j_20.2.2.2.1 j_20.2.2.2.2.1, prC E (X 7) j_20.2.2.2.2.2.1 j_20.2.2.2.2.2.2.1, sbO E (X 8) j_20.2.2.2.2.2.2.2.1 j_20.2.2.2.2.2.2.2.2.1 j_20.2.2.2.2.2.2.2.2.2.1, baC E j_20.2.2.2.2.2.2.2.1 j_20.2.2.2.2.2.2.2.2.2.2.1 j_20.2.2.2.2.2.2.2.2.2.2.2]) (bs2 := fun _ => OB E X hs w g g2 hg nx ct j_20) rfl (by decide) (fun _ => rfl) (by decide) (fun r u H locs hw hP hD hS => ?_)
                                        subst hw
                                        refine lv_iload hx hb dL_isWhole_556 (lv_at hl 6 rfl) ?_
                                        refine lv_aload_n hx hb dL_isWhole_558 rfl (lv_at hl 0 rfl) ?_
                                        refine run_i (S := Unit) (run_V (As := []) (rest := [.int (nI (pursN g)), .int (nI (pursN g + g 8 2))]) (bs := OB E X hs w g g2 hg nx ct j_20) (cb := [coC E (X 0) (X 1) (X 2) (X 3) (X 4) (X 5) (X 6) (X 7) (X 8) w, stC E (X 1) g]) hx hb hml hown hts hK hZ hA (c_X5_surplus l E _ (X 0) (X 1) (X 2) (X 3) (X 4) (X 5) (X 6) (X 7) (X 8) w g B hI) l_L_197 rfl ⟨⟨rfl, rfl⟩, Nat.le_of_ble_eq_true rfl, Nat.le_of_ble_eq_true rfl⟩ 9 rfl [0, 1] rfl (by decide) rfl hP hD hS hl.1 rfl (Nat.le_of_ble_eq_true rfl) dL_isWhole_559 ⟨by show ((((((((1600 + 1) + 0) + 20) + 2) + 1) + 1) + 3 * i5) + 1) + 0 ≤ 1700; omega, by show ((((((((13600 + 6) + 0) + 120) + 12) + 6) + 6) + 18 * i5) + 6) + 0 ≤ 14500; omega⟩) hA hP hD hS (isC := [0, 1]) rfl [2, 3, 4, 5, 6, 7, 8, 9] [8, 9, 0, 1, 2, 3, 4, 5, 6, 7] (br := [stC E (X 2) g2, stC E (X 3) j_20.1, hhC E (X 4) hs hg nx ct, diC E (X 5) j_20.2.1 j_20.2.2.1, grC E (X 6) j_20.2.2.2.1 j_20.2.2.2.2.1, prC E (X 7) j_20.2.2.2.2.2.1 j_20.2.2.2.2.2.2.1, sbO E (X 8) j_20.2.2.2.2.2.2.2.1 j_20.2.2.2.2.2.2.2.2.1 j_20.2.2.2.2.2.2.2.2.2.1, baC E j_20.2.2.2.2.2.2.2.1 j_20.2.2.2.2.2.2.2.2.2.2.1 j_20.2.2.2.2.2.2.2.2.2.2.2]) (bs2 := fun _ => OB E X hs w g g2 hg nx ct j_20) rfl (by decide) (fun _ => rfl) (by decide) (fun r u H locs hw hP hD hS => ?_)
                                        subst hw
                                        refine nv_iadd hx hb dL_isWhole_562 ?_
                                        refine nv_icmp_ne (X := ((pursN g + g 8 2 : Nat) : Int)) (Y := ((pursN g + (g 8 2) : Nat) : Int)) hx hb (nI_toInt (by omega)) (nI_toInt (by omega)) (tgt := 632) dL_isWhole_563 (by decide) (fun c_30 => ?_) (fun c_30 => ?_)
                                        · exact absurd c_30 (by omega)
                                        · skip
                                          refine lv_aload_n hx hb dL_isWhole_566 rfl (lv_at hl 0 rfl) ?_
                                          refine run_i (S := Unit) (run_V (As := []) (rest := []) (bs := OB E X hs w g g2 hg nx ct j_20) (cb := [coC E (X 0) (X 1) (X 2) (X 3) (X 4) (X 5) (X 6) (X 7) (X 8) w, stC E (X 1) g]) hx hb hml hown hts hK hZ hA (c_X5_coinsByAccounts l E _ (X 0) (X 1) (X 2) (X 3) (X 4) (X 5) (X 6) (X 7) (X 8) w g B hI) l_L_286 rfl ⟨⟨rfl, rfl⟩, Nat.le_of_ble_eq_true rfl, Nat.le_of_ble_eq_true rfl⟩ 9 rfl [0, 1] rfl (by decide) rfl hP hD hS hl.1 rfl (Nat.le_of_ble_eq_true rfl) dL_isWhole_567 ⟨by show ((((((((1600 + 1) + 0) + 20) + 2) + 1) + 1) + 3 * i5) + 1) + 0 ≤ 1700; omega, by show ((((((((13600 + 6) + 0) + 120) + 12) + 6) + 6) + 18 * i5) + 6) + 0 ≤ 14500; omega⟩) hA hP hD hS (isC := [0, 1]) rfl [2, 3, 4, 5, 6, 7, 8, 9] [8, 9, 0, 1, 2, 3, 4, 5, 6, 7] (br := [stC E (X 2) g2, stC E (X 3) j_20.1, hhC E (X 4) hs hg nx ct, diC E (X 5) j_20.2.1 j_20.2.2.1, grC E (X 6) j_20.2.2.2.1 j_20.2.2.2.2.1, prC E (X 7) j_20.2.2.2.2.2.1 j_20.2.2.2.2.2.2.1, sbO E (X 8) j_20.2.2.2.2.2.2.2.1 j_20.2.2.2.2.2.2.2.2.1 j_20.2.2.2.2.2.2.2.2.2.1, baC E j_20.2.2.2.2.2.2.2.1 j_20.2.2.2.2.2.2.2.2.2.2.1 j_20.2.2.2.2.2.2.2.2.2.2.2]) (bs2 := fun _ => OB E X hs w g g2 hg nx ct j_20) rfl (by decide) (fun _ => rfl) (by decide) (fun r u H locs hw hP hD hS => ?_)
                                          subst hw
                                          refine lv_aload_n hx hb dL_isWhole_570 rfl (lv_at hl 0 rfl) ?_
                                          refine run_i (S := Unit) (run_V (As := []) (rest := [.int (nI (g 8 5))]) (bs := OB E X hs w g g2 hg nx ct j_20) (cb := [coC E (X 0) (X 1) (X 2) (X 3) (X 4) (X 5) (X 6) (X 7) (X 8) w, stC E (X 1) g]) hx hb hml hown hts hK hZ hA (c_X5_coinTotal l E _ (X 0) (X 1) (X 2) (X 3) (X 4) (X 5) (X 6) (X 7) (X 8) w g B hI) l_L_337 rfl ⟨⟨rfl, rfl⟩, Nat.le_of_ble_eq_true rfl, Nat.le_of_ble_eq_true rfl⟩ 9 rfl [0, 1] rfl (by decide) rfl hP hD hS hl.1 rfl (Nat.le_of_ble_eq_true rfl) dL_isWhole_571 ⟨by show ((((((((1600 + 1) + 0) + 20) + 2) + 1) + 1) + 3 * i5) + 1) + 0 ≤ 1700; omega, by show ((((((((13600 + 6) + 0) + 120) + 12) + 6) + 6) + 18 * i5) + 6) + 0 ≤ 14500; omega⟩) hA hP hD hS (isC := [0, 1]) rfl [2, 3, 4, 5, 6, 7, 8, 9] [8, 9, 0, 1, 2, 3, 4, 5, 6, 7] (br := [stC E (X 2) g2, stC E (X 3) j_20.1, hhC E (X 4) hs hg nx ct, diC E (X 5) j_20.2.1 j_20.2.2.1, grC E (X 6) j_20.2.2.2.1 j_20.2.2.2.2.1, prC E (X 7) j_20.2.2.2.2.2.1 j_20.2.2.2.2.2.2.1, sbO E (X 8) j_20.2.2.2.2.2.2.2.1 j_20.2.2.2.2.2.2.2.2.1 j_20.2.2.2.2.2.2.2.2.2.1, baC E j_20.2.2.2.2.2.2.2.1 j_20.2.2.2.2.2.2.2.2.2.2.1 j_20.2.2.2.2.2.2.2.2.2.2.2]) (bs2 := fun _ => OB E X hs w g g2 hg nx ct j_20) rfl (by decide) (fun _ => rfl) (by decide) (fun r u H locs hw hP hD hS => ?_)
                                          subst hw
                                          refine nv_icmp_ne (X := ((g 8 5 : Nat) : Int)) (Y := ((pursN g + g 8 2 : Nat) : Int)) hx hb (nI_toInt (by omega)) (nI_toInt (by omega)) (tgt := 632) dL_isWhole_574 (by decide) (fun c_31 => ?_) (fun c_31 => ?_)
                                          · exact absurd c_31 (by omega)
                                          · skip
                                            refine lv_aload_n hx hb dL_isWhole_577 rfl (lv_at hl 0 rfl) ?_
                                            refine run_i (S := Unit) (run_V (As := []) (rest := []) (bs := OB E X hs w g g2 hg nx ct j_20) (cb := [coC E (X 0) (X 1) (X 2) (X 3) (X 4) (X 5) (X 6) (X 7) (X 8) w, stC E (X 1) g]) hx hb hml hown hts hK hZ hA (c_X5_coinsByAccounts l E _ (X 0) (X 1) (X 2) (X 3) (X 4) (X 5) (X 6) (X 7) (X 8) w g B hI) l_L_286 rfl ⟨⟨rfl, rfl⟩, Nat.le_of_ble_eq_true rfl, Nat.le_of_ble_eq_true rfl⟩ 9 rfl [0, 1] rfl (by decide) rfl hP hD hS hl.1 rfl (Nat.le_of_ble_eq_true rfl) dL_isWhole_578 ⟨by show ((((((((1600 + 1) + 0) + 20) + 2) + 1) + 1) + 3 * i5) + 1) + 0 ≤ 1700; omega, by show ((((((((13600 + 6) + 0) + 120) + 12) + 6) + 6) + 18 * i5) + 6) + 0 ≤ 14500; omega⟩) hA hP hD hS (isC := [0, 1]) rfl [2, 3, 4, 5, 6, 7, 8, 9] [8, 9, 0, 1, 2, 3, 4, 5, 6, 7] (br := [stC E (X 2) g2, stC E (X 3) j_20.1, hhC E (X 4) hs hg nx ct, diC E (X 5) j_20.2.1 j_20.2.2.1, grC E (X 6) j_20.2.2.2.1 j_20.2.2.2.2.1, prC E (X 7) j_20.2.2.2.2.2.1 j_20.2.2.2.2.2.2.1, sbO E (X 8) j_20.2.2.2.2.2.2.2.1 j_20.2.2.2.2.2.2.2.2.1 j_20.2.2.2.2.2.2.2.2.2.1, baC E j_20.2.2.2.2.2.2.2.1 j_20.2.2.2.2.2.2.2.2.2.2.1 j_20.2.2.2.2.2.2.2.2.2.2.2]) (bs2 := fun _ => OB E X hs w g g2 hg nx ct j_20) rfl (by decide) (fun _ => rfl) (by decide) (fun r u H locs hw hP hD hS => ?_)
                                            subst hw
                                            refine lv_aload_n hx hb dL_isWhole_581 rfl (lv_at hl 0 rfl) ?_
                                            refine run_i (S := Unit) (run_V (As := []) (rest := [.int (nI (g 8 5))]) (bs := OB E X hs w g g2 hg nx ct j_20) (cb := [coC E (X 0) (X 1) (X 2) (X 3) (X 4) (X 5) (X 6) (X 7) (X 8) w, stC E (X 1) g]) hx hb hml hown hts hK hZ hA (c_X5_chirps l E _ (X 0) (X 1) (X 2) (X 3) (X 4) (X 5) (X 6) (X 7) (X 8) w g B hI) l_L_200 rfl ⟨⟨rfl, rfl⟩, Nat.le_of_ble_eq_true rfl, Nat.le_of_ble_eq_true rfl⟩ 9 rfl [0, 1] rfl (by decide) rfl hP hD hS hl.1 rfl (Nat.le_of_ble_eq_true rfl) dL_isWhole_582 ⟨by show ((((((((1600 + 1) + 0) + 20) + 2) + 1) + 1) + 3 * i5) + 1) + 0 ≤ 1700; omega, by show ((((((((13600 + 6) + 0) + 120) + 12) + 6) + 6) + 18 * i5) + 6) + 0 ≤ 14500; omega⟩) hA hP hD hS (isC := [0, 1]) rfl [2, 3, 4, 5, 6, 7, 8, 9] [8, 9, 0, 1, 2, 3, 4, 5, 6, 7] (br := [stC E (X 2) g2, stC E (X 3) j_20.1, hhC E (X 4) hs hg nx ct, diC E (X 5) j_20.2.1 j_20.2.2.1, grC E (X 6) j_20.2.2.2.1 j_20.2.2.2.2.1, prC E (X 7) j_20.2.2.2.2.2.1 j_20.2.2.2.2.2.2.1, sbO E (X 8) j_20.2.2.2.2.2.2.2.1 j_20.2.2.2.2.2.2.2.2.1 j_20.2.2.2.2.2.2.2.2.2.1, baC E j_20.2.2.2.2.2.2.2.1 j_20.2.2.2.2.2.2.2.2.2.2.1 j_20.2.2.2.2.2.2.2.2.2.2.2]) (bs2 := fun _ => OB E X hs w g g2 hg nx ct j_20) rfl (by decide) (fun _ => rfl) (by decide) (fun r u H locs hw hP hD hS => ?_)
                                            subst hw
                                            refine nv_icmp_gt (X := ((g 8 5 : Nat) : Int)) (Y := ((g 8 6 : Nat) : Int)) hx hb (nI_toInt (by omega)) (nI_toInt (by omega)) (tgt := 632) dL_isWhole_585 (by decide) (fun c_32 => ?_) (fun c_32 => ?_)
                                            · exact absurd c_32 (by omega)
                                            · skip
                                              have k602 : ∀ (jk602 : JT), JV jk602 → ∀ (H : Heap) (locs : List Loc) (ls : Array Slot), va_P E.1 vwCl (OB E X hs w g g2 hg nx ct jk602 : List va_W).flatten H → va_D A (OB E X hs w g g2 hg nx ct jk602 : List va_W).flatten → va_S A s.heap H locs → lv_has ls 19 [(0, .ref (X 0 0)), (1, .ref (E.2.2 202)), (2, .int (nI k0)), (3, .int (bI ba)), (4, .int (nI (g 8 0))), (5, .int (nI (allSh g))), (6, .int (nI (pursN g))), (8, .long (lN (chA g (g 8 0)))), (11, .int (nI 1)), (14, .int (nI 1)), (16, .int (nI 1)), (17, .int ws0), (18, .int (nI i5))] → W p l e rm_L_isWhole s m ([.ref (X 0 0), .ref (E.2.2 202), .int (nI k0), .int (bI ba)] : List Value).toArray below meth c H locs (((((((((1600 + 1) + 0) + 20) + 2) + 1) + 1) + 3 * i5) + 1) + 0) (((((((((13600 + 6) + 0) + 120) + 12) + 6) + 6) + 18 * i5) + 6) + 0) Q (F0 m 602 ls []) := by
                                                intro jk602 hjk602 H locs ls hP hD hS hl
                                                have k633 : ∀ (jk633 : JT), JV jk633 → ∀ (H : Heap) (locs : List Loc) (ls : Array Slot), va_P E.1 vwCl (OB E X hs w g g2 hg nx ct jk633 : List va_W).flatten H → va_D A (OB E X hs w g g2 hg nx ct jk633 : List va_W).flatten → va_S A s.heap H locs → lv_has ls 19 [(0, .ref (X 0 0)), (1, .ref (E.2.2 202)), (2, .int (nI k0)), (3, .int (bI ba)), (4, .int (nI (g 8 0))), (5, .int (nI (allSh g))), (8, .long (lN (chA g (g 8 0)))), (11, .int (nI 1)), (14, .int (nI 1)), (16, .int (nI 1)), (17, .int ws0), (18, .int (nI i5))] → W p l e rm_L_isWhole s m ([.ref (X 0 0), .ref (E.2.2 202), .int (nI k0), .int (bI ba)] : List Value).toArray below meth c H locs ((((((((((1600 + 1) + 0) + 20) + 2) + 1) + 1) + 3 * i5) + 1) + 0) + 1) ((((((((((13600 + 6) + 0) + 120) + 12) + 6) + 6) + 18 * i5) + 6) + 0) + 6) Q (F0 m 633 ls [.int (nI 1)]) := by
                                                  intro jk633 hjk633 H locs ls hP hD hS hl
                                                  refine lv_istore (lv' := [(18, .int (nI 1)), (0, .ref (X 0 0)), (1, .ref (E.2.2 202)), (2, .int (nI k0)), (3, .int (bI ba)), (4, .int (nI (g 8 0))), (5, .int (nI (allSh g))), (8, .long (lN (chA g (g 8 0)))), (11, .int (nI 1)), (14, .int (nI 1)), (16, .int (nI 1)), (17, .int ws0)]) hx hb dL_isWhole_633 hl (by decide) rfl (fun ls hl => ?_)
                                                  refine lv_iload hx hb dL_isWhole_635 (lv_at hl 8 rfl) ?_
                                                  refine nv_if_eq (X := ((1 : Nat) : Int)) hx hb (nI_toInt (by omega)) (tgt := 708) dL_isWhole_637 (by decide) (fun c_33 => ?_) (fun c_33 => ?_)
                                                  · exact absurd c_33 (by omega)
                                                  · skip
                                                    refine lv_iload hx hb dL_isWhole_640 (lv_at hl 9 rfl) ?_
                                                    refine nv_if_eq (X := ((1 : Nat) : Int)) hx hb (nI_toInt (by omega)) (tgt := 708) dL_isWhole_642 (by decide) (fun c_34 => ?_) (fun c_34 => ?_)
                                                    · exact absurd c_34 (by omega)
                                                    · skip
                                                      refine lv_iload hx hb dL_isWhole_645 (lv_at hl 10 rfl) ?_
                                                      refine nv_if_eq (X := ((1 : Nat) : Int)) hx hb (nI_toInt (by omega)) (tgt := 708) dL_isWhole_647 (by decide) (fun c_35 => ?_) (fun c_35 => ?_)
                                                      · exact absurd c_35 (by omega)
                                                      · skip
                                                        refine lv_iload hx hb dL_isWhole_650 (lv_at hl 0 rfl) ?_
                                                        refine nv_if_eq (X := ((1 : Nat) : Int)) hx hb (nI_toInt (by omega)) (tgt := 708) dL_isWhole_652 (by decide) (fun c_36 => ?_) (fun c_36 => ?_)
                                                        · exact absurd c_36 (by omega)
                                                        · skip
                                                          refine lv_iload hx hb dL_isWhole_655 (lv_at hl 11 rfl) ?_
                                                          refine lv_aload_n hx hb dL_isWhole_657 rfl (lv_at hl 1 rfl) ?_
                                                          refine run_i (S := Unit) (run_V (As := []) (rest := [.int ws0]) (bs := OB E X hs w g g2 hg nx ct jk633) (cb := [coC E (X 0) (X 1) (X 2) (X 3) (X 4) (X 5) (X 6) (X 7) (X 8) w, stC E (X 1) g]) hx hb hml hown hts hK hZ hA (c_X5_beat l E _ (X 0) (X 1) (X 2) (X 3) (X 4) (X 5) (X 6) (X 7) (X 8) w g B hI) l_L_194 rfl ⟨⟨rfl, rfl⟩, Nat.le_of_ble_eq_true rfl, Nat.le_of_ble_eq_true rfl⟩ 9 rfl [0, 1] rfl (by decide) rfl hP hD hS hl.1 rfl (Nat.le_of_ble_eq_true rfl) dL_isWhole_658 ⟨by show ((((((((((1600 + 1) + 0) + 20) + 2) + 1) + 1) + 3 * i5) + 1) + 0) + 1) + 0 ≤ 1700; omega, by show ((((((((((13600 + 6) + 0) + 120) + 12) + 6) + 6) + 18 * i5) + 6) + 0) + 6) + 0 ≤ 14500; omega⟩) hA hP hD hS (isC := [0, 1]) rfl [2, 3, 4, 5, 6, 7, 8, 9] [8, 9, 0, 1, 2, 3, 4, 5, 6, 7] (br := [stC E (X 2) g2, stC E (X 3) jk633.1, hhC E (X 4) hs hg nx ct, diC E (X 5) jk633.2.1 jk633.2.2.1, grC E (X 6) jk633.2.2.2.1 jk633.2.2.2.2.1, prC E (X 7) jk633.2.2.2.2.2.1 jk633.2.2.2.2.2.2.1, sbO E (X 8) jk633.2.2.2.2.2.2.2.1 jk633.2.2.2.2.2.2.2.2.1 jk633.2.2.2.2.2.2.2.2.2.1, baC E jk633.2.2.2.2.2.2.2.1 jk633.2.2.2.2.2.2.2.2.2.2.1 jk633.2.2.2.2.2.2.2.2.2.2.2]) (bs2 := fun _ => OB E X hs w g g2 hg nx ct jk633) rfl (by decide) (fun _ => rfl) (by decide) (fun r u H locs hw hP hD hS => ?_)
                                                          subst hw
                                                          refine nv_icmp_gt (X := ws0.toInt) (Y := ((g 8 1 : Nat) : Int)) hx hb rfl (nI_toInt (by omega)) (tgt := 708) dL_isWhole_661 (by decide) (fun c_37 => ?_) (fun c_37 => ?_)
                                                          · exact absurd c_37 (by omega)
                                                          · skip
                                                            refine lv_iload hx hb dL_isWhole_664 (lv_at hl 5 rfl) ?_
                                                            refine lv_bipush (v := nI 8) hx hb dL_isWhole_666 (by decide) ?_
                                                            refine nv_icmp_gt (X := ((g 8 0 : Nat) : Int)) (Y := ((8 : Nat) : Int)) hx hb (nI_toInt (by omega)) (nI_toInt (by omega)) (tgt := 708) dL_isWhole_668 (by decide) (fun c_38 => ?_) (fun c_38 => ?_)
                                                            · exact absurd c_38 (by omega)
                                                            · skip
                                                              refine lv_aload_n hx hb dL_isWhole_671 rfl (lv_at hl 1 rfl) ?_
                                                              refine lv_iload hx hb dL_isWhole_672 (lv_at hl 5 rfl) ?_
                                                              refine run_i (S := JT) (run_SX (As := [.ref (X 0 0), .int (nI (g 8 0))]) (rest := []) (bs := OB E X hs w g g2 hg nx ct jk633) (cb := OB E X hs w g g2 hg nx ct jk633) hx hb hml hown hts hK hZ hDD hA (c_L_shares l hst E _ X hs w g g2 B hI hg nx ct hnx hct jk633 hjk633 (nI (g 8 0))) l_L_209 rfl ⟨⟨rfl, rfl⟩, Nat.le_of_ble_eq_true rfl, Nat.le_of_ble_eq_true rfl⟩ [0, 1, 2, 3, 4, 5, 6, 7, 8, 9] rfl (by decide) hP hD hS hl.1 rfl (Nat.le_of_ble_eq_true rfl) dL_isWhole_674 ⟨by show ((((((((((1600 + 1) + 0) + 20) + 2) + 1) + 1) + 3 * i5) + 1) + 0) + 1) + 1 ≤ 1700; omega, by show ((((((((((13600 + 6) + 0) + 120) + 12) + 6) + 6) + 18 * i5) + 6) + 0) + 6) + 6 ≤ 14500; omega⟩) hA hP hD hS (isC := [0, 1, 2, 3, 4, 5, 6, 7, 8, 9]) rfl [] [0, 1, 2, 3, 4, 5, 6, 7, 8, 9] (br := []) (bs2 := fun u => OB E X hs w g g2 hg nx ct u) rfl (by decide) (fun _ => rfl) (by decide) (fun r j_39 H locs hw hP hD hS => ?_)
                                                              obtain ⟨hw, hj_40⟩ := hw
                                                              refine tp_i hw ?_
                                                              refine tp_i (show wf g (g 0) (nI (g 8 0)) = (-77 : Int32) from wf_out hmc (Nat.le_refl _) hmc) ?_
                                                              refine lv_bipush (v := -77) hx hb dL_isWhole_677 (by decide) ?_
                                                              refine nv_icmp_ne (X := (-77)) (Y := (-77)) hx hb (by decide) (by decide) (tgt := 708) dL_isWhole_679 (by decide) (fun c_41 => ?_) (fun c_41 => ?_)
                                                              · exact absurd c_41 (by omega)
                                                              · skip
                                                                refine lv_aload_n hx hb dL_isWhole_682 rfl (lv_at hl 1 rfl) ?_
                                                                refine lv_iload hx hb dL_isWhole_683 (lv_at hl 5 rfl) ?_
                                                                refine run_i (S := JT) (run_SX (As := [.ref (X 0 0), .int (nI (g 8 0))]) (rest := []) (bs := OB E X hs w g g2 hg nx ct j_39) (cb := OB E X hs w g g2 hg nx ct j_39) hx hb hml hown hts hK hZ hDD hA (c_L_memberAtRank l hst E _ X hs w g g2 B hI hg nx ct hnx hct j_39 hj_40 (nI (g 8 0))) l_L_323 rfl ⟨⟨rfl, rfl⟩, Nat.le_of_ble_eq_true rfl, Nat.le_of_ble_eq_true rfl⟩ [0, 1, 2, 3, 4, 5, 6, 7, 8, 9] rfl (by decide) hP hD hS hl.1 rfl (Nat.le_of_ble_eq_true rfl) dL_isWhole_685 ⟨by show (((((((((((1600 + 1) + 0) + 20) + 2) + 1) + 1) + 3 * i5) + 1) + 0) + 1) + 1) + 1 ≤ 1700; omega, by show (((((((((((13600 + 6) + 0) + 120) + 12) + 6) + 6) + 18 * i5) + 6) + 0) + 6) + 6) + 6 ≤ 14500; omega⟩) hA hP hD hS (isC := [0, 1, 2, 3, 4, 5, 6, 7, 8, 9]) rfl [] [0, 1, 2, 3, 4, 5, 6, 7, 8, 9] (br := []) (bs2 := fun u => OB E X hs w g g2 hg nx ct u) rfl (by decide) (fun _ => rfl) (by decide) (fun r j_42 H locs hw hP hD hS => ?_)
                                                                obtain ⟨hw, hj_43⟩ := hw
                                                                refine tp_i hw ?_
                                                                refine tp_i (show wrk g (nI (g 8 0)) = (-75 : Int32) from wrk_out hmc) ?_
                                                                refine lv_bipush (v := -75) hx hb dL_isWhole_688 (by decide) ?_
                                                                refine nv_icmp_ne (X := (-75)) (Y := (-75)) hx hb (by decide) (by decide) (tgt := 708) dL_isWhole_690 (by decide) (fun c_44 => ?_) (fun c_44 => ?_)
                                                                · exact absurd c_44 (by omega)
                                                                · skip
                                                                  refine lv_iload_n hx hb dL_isWhole_693 rfl (lv_at hl 4 rfl) ?_
                                                                  refine bv_if_eq hx hb (tgt := 704) dL_isWhole_694 (by decide) (fun c_45 => ?_) (fun c_45 => ?_)
                                                                  · skip
                                                                    refine lv_iconst (v := nI 1) hx hb dL_isWhole_704 (by decide) ?_
                                                                    refine lv_goto (tgt := 709) hx hb dL_isWhole_705 (by decide) ?_
                                                                    exact hret _ _ (nI 1) j_42 _ _ _ _ hP hD hS (by decide) ⟨rfl, hj_43⟩ dL_isWhole_709 (by omega) (by omega)
                                                                  · skip
                                                                    refine lv_aload_n hx hb dL_isWhole_697 rfl (lv_at hl 1 rfl) ?_
                                                                    refine run_i (S := ((Nat → Nat) × (Nat → Nat)) × ((Nat → Nat) × (Nat → Nat))) (run_V (As := []) (rest := []) (bs := OB E X hs w g g2 hg nx ct j_42) (cb := [coC E (X 0) (X 1) (X 2) (X 3) (X 4) (X 5) (X 6) (X 7) (X 8) w, stC E (X 1) g, diC E (X 5) j_42.2.1 j_42.2.2.1, grC E (X 6) j_42.2.2.2.1 j_42.2.2.2.2.1]) hx hb hml hown hts hK hZ hA (c_X5_isConsistent l E _ (X 0) (X 1) (X 2) (X 3) (X 4) (X 5) (X 6) (X 7) (X 8) w g B hI j_42.2.1 j_42.2.2.1 j_42.2.2.2.1 j_42.2.2.2.2.1) l_L_343 rfl ⟨⟨rfl, rfl⟩, Nat.le_of_ble_eq_true rfl, Nat.le_of_ble_eq_true rfl⟩ 9 rfl [0, 1, 5, 6] rfl (by decide) rfl hP hD hS hl.1 rfl (Nat.le_of_ble_eq_true rfl) dL_isWhole_698 ⟨by show ((((((((((((1600 + 1) + 0) + 20) + 2) + 1) + 1) + 3 * i5) + 1) + 0) + 1) + 1) + 1) + 0 ≤ 1700; omega, by show ((((((((((((13600 + 6) + 0) + 120) + 12) + 6) + 6) + 18 * i5) + 6) + 0) + 6) + 6) + 6) + 0 ≤ 14500; omega⟩) hA hP hD hS (isC := [0, 1, 5, 6]) rfl [2, 3, 4, 7, 8, 9] [6, 7, 0, 1, 2, 8, 9, 3, 4, 5] (br := [stC E (X 2) g2, stC E (X 3) j_42.1, hhC E (X 4) hs hg nx ct, prC E (X 7) j_42.2.2.2.2.2.1 j_42.2.2.2.2.2.2.1, sbO E (X 8) j_42.2.2.2.2.2.2.2.1 j_42.2.2.2.2.2.2.2.2.1 j_42.2.2.2.2.2.2.2.2.2.1, baC E j_42.2.2.2.2.2.2.2.1 j_42.2.2.2.2.2.2.2.2.2.2.1 j_42.2.2.2.2.2.2.2.2.2.2.2]) (bs2 := fun u => [coC E (X 0) (X 1) (X 2) (X 3) (X 4) (X 5) (X 6) (X 7) (X 8) w, stC E (X 1) g, stC E (X 2) g2, stC E (X 3) j_42.1, hhC E (X 4) hs hg nx ct, diC E (X 5) u.1.1 u.1.2, grC E (X 6) u.2.1 u.2.2, prC E (X 7) j_42.2.2.2.2.2.1 j_42.2.2.2.2.2.2.1, sbO E (X 8) j_42.2.2.2.2.2.2.2.1 j_42.2.2.2.2.2.2.2.2.1 j_42.2.2.2.2.2.2.2.2.2.1, baC E j_42.2.2.2.2.2.2.2.1 j_42.2.2.2.2.2.2.2.2.2.2.1 j_42.2.2.2.2.2.2.2.2.2.2.2]) rfl (by decide) (fun _ => rfl) (by decide) (fun r u_46 H locs hw hP hD hS => ?_)
                                                                    subst hw
                                                                    have hP : va_P E.1 vwCl (OB E X hs w g g2 hg nx ct (j_42.1, u_46.1.1, u_46.1.2, u_46.2.1, u_46.2.2, j_42.2.2.2.2.2) : List va_W).flatten H := hP
                                                                    have hD : va_D A (OB E X hs w g g2 hg nx ct (j_42.1, u_46.1.1, u_46.1.2, u_46.2.1, u_46.2.2, j_42.2.2.2.2.2) : List va_W).flatten := hD
                                                                    have hj_48 : JV (j_42.1, u_46.1.1, u_46.1.2, u_46.2.1, u_46.2.2, j_42.2.2.2.2.2) := hj_43
                                                                    generalize ((j_42.1, u_46.1.1, u_46.1.2, u_46.2.1, u_46.2.2, j_42.2.2.2.2.2) : JT) = j_47 at hP hD hj_48
                                                                    refine bv_if_eq hx hb (tgt := 708) dL_isWhole_701 (by decide) (fun c_49 => ?_) (fun c_49 => ?_)
                                                                    · exact absurd c_49 (by decide)
                                                                    · skip
                                                                      refine lv_iconst (v := nI 1) hx hb dL_isWhole_704 (by decide) ?_
                                                                      refine lv_goto (tgt := 709) hx hb dL_isWhole_705 (by decide) ?_
                                                                      exact hret _ _ (nI 1) j_47 _ _ _ _ hP hD hS (by decide) ⟨rfl, hj_48⟩ dL_isWhole_709 (by omega) (by omega)
                                                refine lv_aload_n hx hb dL_isWhole_602 rfl (lv_at hl 0 rfl) ?_
                                                refine run_d (S := JT) (run_SX (As := [.ref (X 0 0)]) (rest := []) (bs := OB E X hs w g g2 hg nx ct jk602) (cb := OB E X hs w g g2 hg nx ct jk602) hx hb hml hown hts hK hZ hDD hA (c_L_meanPurse l hst E _ X hs w g g2 B hI hg nx ct hnx hct jk602 hjk602) l_L_340 rfl ⟨⟨rfl, rfl⟩, Nat.le_of_ble_eq_true rfl, Nat.le_of_ble_eq_true rfl⟩ [0, 1, 2, 3, 4, 5, 6, 7, 8, 9] rfl (by decide) hP hD hS hl.1 rfl (Nat.le_of_ble_eq_true rfl) dL_isWhole_603 ⟨by show (((((((((1600 + 1) + 0) + 20) + 2) + 1) + 1) + 3 * i5) + 1) + 0) + 1 ≤ 1700; omega, by show (((((((((13600 + 6) + 0) + 120) + 12) + 6) + 6) + 18 * i5) + 6) + 0) + 6 ≤ 14500; omega⟩) hA hP hD hS (isC := [0, 1, 2, 3, 4, 5, 6, 7, 8, 9]) rfl [] [0, 1, 2, 3, 4, 5, 6, 7, 8, 9] (br := []) (bs2 := fun u => OB E X hs w g g2 hg nx ct u) rfl (by decide) (fun _ => rfl) (by decide) (fun r j_50 H locs hw hP hD hS => ?_)
                                                obtain ⟨hw, hj_51⟩ := hw
                                                rw [hw]
                                                refine lv_iload hx hb dL_isWhole_606 (lv_at hl 4 rfl) ?_
                                                refine nv_if_ne (X := ((g 8 0 : Nat) : Int)) hx hb (nI_toInt (by omega)) (tgt := 617) dL_isWhole_608 (by decide) (fun c_52 => ?_) (fun c_52 => ?_)
                                                · skip
                                                  refine lv_iload hx hb dL_isWhole_617 (lv_at hl 6 rfl) ?_
                                                  refine lv_i2d hx hb dL_isWhole_619 ?_
                                                  refine lv_iload hx hb dL_isWhole_620 (lv_at hl 4 rfl) ?_
                                                  refine lv_i2d hx hb dL_isWhole_622 ?_
                                                  refine lv_ddiv hx hb dL_isWhole_623 (mp_n hI (by omega)) ?_
                                                  rw [wmp_in (g := g) (by omega)]
                                                  refine lv_dcmp hx hb dL_isWhole_624 ?_
                                                  refine tp_i (cmpd_0 (mp_n hI (by omega)) _) ?_
                                                  refine nv_if_ne (X := ((0 : Nat) : Int)) hx hb (nI_toInt (by omega)) (tgt := 632) dL_isWhole_625 (by decide) (fun c_53 => ?_) (fun c_53 => ?_)
                                                  · exact absurd c_53 (by omega)
                                                  · skip
                                                    refine lv_iconst (v := nI 1) hx hb dL_isWhole_628 (by decide) ?_
                                                    refine lv_goto (tgt := 633) hx hb dL_isWhole_629 (by decide) ?_
                                                    exact W_widen (by omega) (by omega) (k633 j_50 hj_51 _ _ _ hP hD hS (lv_sub hl [0, 1, 2, 3, 4, 5, 7, 8, 9, 10, 11, 12] rfl))
                                                · skip
                                                  refine lv_ldc2d (v := (13858279740860792832 : UInt64)) hx hb (own := RL) (index := 121) hown (hts _ qc1370) dL_isWhole_611 ?_
                                                  refine lv_goto (tgt := 624) hx hb dL_isWhole_614 (by decide) ?_
                                                  rw [wmp_0 (g := g) (by omega)]
                                                  refine lv_dcmp hx hb dL_isWhole_624 ?_
                                                  refine tp_i (cmpd_0 k74_n _) ?_
                                                  refine nv_if_ne (X := ((0 : Nat) : Int)) hx hb (nI_toInt (by omega)) (tgt := 632) dL_isWhole_625 (by decide) (fun c_54 => ?_) (fun c_54 => ?_)
                                                  · exact absurd c_54 (by omega)
                                                  · skip
                                                    refine lv_iconst (v := nI 1) hx hb dL_isWhole_628 (by decide) ?_
                                                    refine lv_goto (tgt := 633) hx hb dL_isWhole_629 (by decide) ?_
                                                    exact W_widen (by omega) (by omega) (k633 j_50 hj_51 _ _ _ hP hD hS (lv_sub hl [0, 1, 2, 3, 4, 5, 7, 8, 9, 10, 11, 12] rfl))
                                              refine lv_iload hx hb dL_isWhole_588 (lv_at hl 4 rfl) ?_
                                              refine nv_if_eq (X := ((g 8 0 : Nat) : Int)) hx hb (nI_toInt (by omega)) (tgt := 602) dL_isWhole_590 (by decide) (fun c_55 => ?_) (fun c_55 => ?_)
                                              · skip
                                                exact W_widen (by omega) (by omega) (k602 j_20 hj_21 _ _ _ hP hD hS (lv_sub hl [0, 1, 2, 3, 4, 5, 6, 8, 9, 10, 11, 12, 13] rfl))
                                              · skip
                                                have hds := dv_sum hI (show 0 < g 8 0 by omega)
                                                refine lv_iload hx hb dL_isWhole_593 (lv_at hl 7 rfl) ?_
                                                refine lv_aload_n hx hb dL_isWhole_595 rfl (lv_at hl 0 rfl) ?_
                                                refine run_i (S := Unit) (run_V (As := []) (rest := [.int (nI (sm (dv g) (g 8 0)))]) (bs := OB E X hs w g g2 hg nx ct j_20) (cb := [coC E (X 0) (X 1) (X 2) (X 3) (X 4) (X 5) (X 6) (X 7) (X 8) w, stC E (X 1) g]) hx hb hml hown hts hK hZ hA (c_X5_surplus l E _ (X 0) (X 1) (X 2) (X 3) (X 4) (X 5) (X 6) (X 7) (X 8) w g B hI) l_L_197 rfl ⟨⟨rfl, rfl⟩, Nat.le_of_ble_eq_true rfl, Nat.le_of_ble_eq_true rfl⟩ 9 rfl [0, 1] rfl (by decide) rfl hP hD hS hl.1 rfl (Nat.le_of_ble_eq_true rfl) dL_isWhole_596 ⟨by show ((((((((1600 + 1) + 0) + 20) + 2) + 1) + 1) + 3 * i5) + 1) + 0 ≤ 1700; omega, by show ((((((((13600 + 6) + 0) + 120) + 12) + 6) + 6) + 18 * i5) + 6) + 0 ≤ 14500; omega⟩) hA hP hD hS (isC := [0, 1]) rfl [2, 3, 4, 5, 6, 7, 8, 9] [8, 9, 0, 1, 2, 3, 4, 5, 6, 7] (br := [stC E (X 2) g2, stC E (X 3) j_20.1, hhC E (X 4) hs hg nx ct, diC E (X 5) j_20.2.1 j_20.2.2.1, grC E (X 6) j_20.2.2.2.1 j_20.2.2.2.2.1, prC E (X 7) j_20.2.2.2.2.2.1 j_20.2.2.2.2.2.2.1, sbO E (X 8) j_20.2.2.2.2.2.2.2.1 j_20.2.2.2.2.2.2.2.2.1 j_20.2.2.2.2.2.2.2.2.2.1, baC E j_20.2.2.2.2.2.2.2.1 j_20.2.2.2.2.2.2.2.2.2.2.1 j_20.2.2.2.2.2.2.2.2.2.2.2]) (bs2 := fun _ => OB E X hs w g g2 hg nx ct j_20) rfl (by decide) (fun _ => rfl) (by decide) (fun r u H locs hw hP hD hS => ?_)
                                                subst hw
                                                refine nv_icmp_ne (X := ((sm (dv g) (g 8 0) : Nat) : Int)) (Y := ((g 8 2 : Nat) : Int)) hx hb (nI_toInt (by omega)) (nI_toInt (by omega)) (tgt := 632) dL_isWhole_599 (by decide) (fun c_56 => ?_) (fun c_56 => ?_)
                                                · exact absurd c_56 (by omega)
                                                · skip
                                                  exact W_widen (by omega) (by omega) (k602 j_20 hj_21 _ _ _ hP hD hS (lv_sub hl [0, 1, 2, 3, 4, 5, 6, 8, 9, 10, 11, 12, 13] rfl))
                                      · exact absurd c_29 (by omega)
                                exact W_widen (by omega) (by omega) (loop511 _ 1 j_18 (by omega) (by omega) hj_19 (Nat.lt_succ_self _) _ _ _ hP hD hS (lv_sub hl [3, 4, 5, 6, 7, 8, 9, 10, 11, 12, 13, 2, 1, 0] rfl))
                            refine lv_iload hx hb dL_isWhole_435 (lv_at hl 5 rfl) ?_
                            refine nv_if_ne (X := ((g 8 0 : Nat) : Int)) hx hb (nI_toInt (by omega)) (tgt := 448) dL_isWhole_437 (by decide) (fun c_57 => ?_) (fun c_57 => ?_)
                            · skip
                              have hz : 0 < g 8 0 := by omega
                              have hw1 := winN_pos hI hz
                              have hw2 := winN_half hz
                              have h128 : 2 ^ (g 8 0 - 1) ≤ 2 ^ 7 := Nat.pow_le_pow_right (by decide) (by omega)
                              have hfw := few8_mem hI hz
                              refine lv_iload hx hb dL_isWhole_448 (lv_at hl 0 rfl) ?_
                              refine lv_iconst (v := nI 1) hx hb dL_isWhole_450 (by decide) ?_
                              refine nv_icmp_lt (X := ((winN g : Nat) : Int)) (Y := ((1 : Nat) : Int)) hx hb (nI_toInt (by omega)) (nI_toInt (by omega)) (tgt := 498) dL_isWhole_451 (by decide) (fun c_58 => ?_) (fun c_58 => ?_)
                              · exact absurd c_58 (by omega)
                              · skip
                                refine lv_iload hx hb dL_isWhole_454 (lv_at hl 0 rfl) ?_
                                refine lv_iconst (v := nI 1) hx hb dL_isWhole_456 (by decide) ?_
                                refine lv_iload hx hb dL_isWhole_457 (lv_at hl 5 rfl) ?_
                                refine lv_iconst (v := nI 1) hx hb dL_isWhole_459 (by decide) ?_
                                refine nv_isub hx hb (by omega) dL_isWhole_460 ?_
                                refine nv_ishl hx hb (by omega) (by omega) dL_isWhole_461 ?_
                                refine nv_icmp_gt (X := ((winN g : Nat) : Int)) (Y := ((1 * 2 ^ ((g 8 0) - 1) : Nat) : Int)) hx hb (nI_toInt (by omega)) (nI_toInt (by omega)) (tgt := 498) dL_isWhole_462 (by decide) (fun c_59 => ?_) (fun c_59 => ?_)
                                · exact absurd c_59 (by omega)
                                · skip
                                  refine lv_aload_n hx hb dL_isWhole_465 rfl (lv_at hl 1 rfl) ?_
                                  refine run_i (S := JT) (run_SX (As := [.ref (X 0 0)]) (rest := []) (bs := OB E X hs w g g2 hg nx ct j_12) (cb := OB E X hs w g g2 hg nx ct j_12) hx hb hml hown hts hK hZ hDD hA (c_L_smallestMajority l hst E _ X hs w g g2 B hI hg nx ct hnx hct j_12 hj_13) l_L_335 rfl ⟨⟨rfl, rfl⟩, Nat.le_of_ble_eq_true rfl, Nat.le_of_ble_eq_true rfl⟩ [0, 1, 2, 3, 4, 5, 6, 7, 8, 9] rfl (by decide) hP hD hS hl.1 rfl (Nat.le_of_ble_eq_true rfl) dL_isWhole_466 ⟨by show (((1600 + 1) + 0) + 20) + 1 ≤ 1700; omega, by show (((13600 + 6) + 0) + 120) + 6 ≤ 14500; omega⟩) hA hP hD hS (isC := [0, 1, 2, 3, 4, 5, 6, 7, 8, 9]) rfl [] [0, 1, 2, 3, 4, 5, 6, 7, 8, 9] (br := []) (bs2 := fun u => OB E X hs w g g2 hg nx ct u) rfl (by decide) (fun _ => rfl) (by decide) (fun r j_60 H locs hw hP hD hS => ?_)
                                  obtain ⟨hw, hj_61⟩ := hw
                                  refine tp_i hw ?_
                                  refine tp_i (show wsm g = nI (few8 g (2 ^ g 8 0)) from wsm_in hz) ?_
                                  refine lv_iconst (v := nI 1) hx hb dL_isWhole_469 (by decide) ?_
                                  refine nv_icmp_lt (X := ((few8 g (2 ^ g 8 0) : Nat) : Int)) (Y := ((1 : Nat) : Int)) hx hb (nI_toInt (by omega)) (nI_toInt (by omega)) (tgt := 498) dL_isWhole_470 (by decide) (fun c_62 => ?_) (fun c_62 => ?_)
                                  · exact absurd c_62 (by omega)
                                  · skip
                                    refine lv_aload_n hx hb dL_isWhole_473 rfl (lv_at hl 1 rfl) ?_
                                    refine run_i (S := JT) (run_SX (As := [.ref (X 0 0)]) (rest := []) (bs := OB E X hs w g g2 hg nx ct j_60) (cb := OB E X hs w g g2 hg nx ct j_60) hx hb hml hown hts hK hZ hDD hA (c_L_smallestMajority l hst E _ X hs w g g2 B hI hg nx ct hnx hct j_60 hj_61) l_L_335 rfl ⟨⟨rfl, rfl⟩, Nat.le_of_ble_eq_true rfl, Nat.le_of_ble_eq_true rfl⟩ [0, 1, 2, 3, 4, 5, 6, 7, 8, 9] rfl (by decide) hP hD hS hl.1 rfl (Nat.le_of_ble_eq_true rfl) dL_isWhole_474 ⟨by show ((((1600 + 1) + 0) + 20) + 1) + 1 ≤ 1700; omega, by show ((((13600 + 6) + 0) + 120) + 6) + 6 ≤ 14500; omega⟩) hA hP hD hS (isC := [0, 1, 2, 3, 4, 5, 6, 7, 8, 9]) rfl [] [0, 1, 2, 3, 4, 5, 6, 7, 8, 9] (br := []) (bs2 := fun u => OB E X hs w g g2 hg nx ct u) rfl (by decide) (fun _ => rfl) (by decide) (fun r j_63 H locs hw hP hD hS => ?_)
                                    obtain ⟨hw, hj_64⟩ := hw
                                    refine tp_i hw ?_
                                    refine tp_i (show wsm g = nI (few8 g (2 ^ g 8 0)) from wsm_in hz) ?_
                                    refine lv_iload hx hb dL_isWhole_477 (lv_at hl 5 rfl) ?_
                                    refine nv_icmp_gt (X := ((few8 g (2 ^ g 8 0) : Nat) : Int)) (Y := ((g 8 0 : Nat) : Int)) hx hb (nI_toInt (by omega)) (nI_toInt (by omega)) (tgt := 498) dL_isWhole_479 (by decide) (fun c_65 => ?_) (fun c_65 => ?_)
                                    · exact absurd c_65 (by omega)
                                    · skip
                                      exact W_widen (by omega) (by omega) (k482 j_63 hj_64 _ _ _ hP hD hS (lv_sub hl [1, 2, 3, 4, 5, 6, 7, 8, 9, 10, 11] rfl))
                            · skip
                              have hw1 := winN_0 (g := g) (by omega)
                              refine lv_iload hx hb dL_isWhole_440 (lv_at hl 0 rfl) ?_
                              refine nv_if_ne (X := ((winN g : Nat) : Int)) hx hb (nI_toInt (by omega)) (tgt := 498) dL_isWhole_442 (by decide) (fun c_66 => ?_) (fun c_66 => ?_)
                              · exact absurd c_66 (by omega)
                              · skip
                                refine lv_goto (tgt := 482) hx hb dL_isWhole_445 (by decide) ?_
                                exact W_widen (by omega) (by omega) (k482 j_12 hj_13 _ _ _ hP hD hS (lv_sub hl [1, 2, 3, 4, 5, 6, 7, 8, 9, 10, 11] rfl))
                      refine lv_aload_n hx hb dL_isWhole_319 rfl (lv_at hl 2 rfl) ?_
                      refine lv_iload hx hb dL_isWhole_320 (lv_at hl 0 rfl) ?_
                      refine run_i (S := JT) (run_SX (As := [.ref (X 0 0), .int (nI v_6)]) (rest := []) (bs := OB E X hs w g g2 hg nx ct jk306) (cb := OB E X hs w g g2 hg nx ct jk306) hx hb hml hown hts hK hZ hDD hA (c_L_carriedTone l hst E _ X hs w g g2 B hI hg nx ct hnx hct jk306 hjk306 (nI v_6)) l_L_327 rfl ⟨⟨rfl, rfl⟩, Nat.le_of_ble_eq_true rfl, Nat.le_of_ble_eq_true rfl⟩ [0, 1, 2, 3, 4, 5, 6, 7, 8, 9] rfl (by decide) hP hD hS hl.1 rfl (Nat.le_of_ble_eq_true rfl) dL_isWhole_322 ⟨by show ((1600 + 1) + 0) + 2 ≤ 1700; omega, by show ((13600 + 6) + 0) + 12 ≤ 14500; omega⟩) hA hP hD hS (isC := [0, 1, 2, 3, 4, 5, 6, 7, 8, 9]) rfl [] [0, 1, 2, 3, 4, 5, 6, 7, 8, 9] (br := []) (bs2 := fun u => OB E X hs w g g2 hg nx ct u) rfl (by decide) (fun _ => rfl) (by decide) (fun r j_67 H locs hw hP hD hS => ?_)
                      obtain ⟨hw, hj_68⟩ := hw
                      refine tp_i hw ?_
                      by_cases hc9 : ctN9 g v_6 < 12
                      · skip
                        refine tp_i ((wct_in (by omega)).trans (if_pos hc9)) ?_
                        obtain ⟨hy1, hno⟩ := ct_yes hc9
                        obtain ⟨bd, hbd⟩ : ∃ bd, bd = ctN9 g v_6 := ⟨_, rfl⟩
                        rw [← hbd] at hno
                        refine lv_istore (lv' := [(13, .int (nI (ctN9 g v_6))), (12, .int (nI v_6)), (11, .int (nI 1)), (0, .ref (X 0 0)), (1, .ref (E.2.2 202)), (2, .int (nI k0)), (3, .int (bI ba)), (4, .int (nI (g 8 0))), (5, .int (nI (allSh g))), (6, .int (nI (pursN g))), (7, .int (nI (sm (dv g) (g 8 0)))), (8, .long (lN (chA g (g 8 0))))]) hx hb dL_isWhole_325 hl (by decide) rfl (fun ls hl => ?_)
                        refine lv_iload hx hb dL_isWhole_327 (lv_at hl 0 rfl) ?_
                        refine lv_bipush (v := -75) hx hb dL_isWhole_329 (by decide) ?_
                        refine nv_icmp_eq (X := ((ctN9 g v_6 : Nat) : Int)) (Y := (-75)) hx hb (nI_toInt (by omega)) (by decide) (tgt := 349) dL_isWhole_331 (by decide) (fun c_69 => ?_) (fun c_69 => ?_)
                        · exact absurd c_69 (by omega)
                        · skip
                          refine lv_aload_n hx hb dL_isWhole_334 rfl (lv_at hl 3 rfl) ?_
                          refine lv_iload hx hb dL_isWhole_335 (lv_at hl 0 rfl) ?_
                          refine lv_iload hx hb dL_isWhole_337 (lv_at hl 1 rfl) ?_
                          refine run_i (S := JT) (run_SX (As := [.ref (X 0 0), .int (nI (ctN9 g v_6)), .int (nI v_6)]) (rest := []) (bs := OB E X hs w g g2 hg nx ct j_67) (cb := OB E X hs w g g2 hg nx ct j_67) hx hb hml hown hts hK hZ hDD hA (c_L_sharesInFavour l hst E _ X hs w g g2 B hI hg nx ct hnx hct j_67 hj_68 (nI (ctN9 g v_6)) (nI v_6)) l_L_185 rfl ⟨⟨rfl, rfl⟩, Nat.le_of_ble_eq_true rfl, Nat.le_of_ble_eq_true rfl⟩ [0, 1, 2, 3, 4, 5, 6, 7, 8, 9] rfl (by decide) hP hD hS hl.1 rfl (Nat.le_of_ble_eq_true rfl) dL_isWhole_339 ⟨by show (((1600 + 1) + 0) + 2) + 1 ≤ 1700; omega, by show (((13600 + 6) + 0) + 12) + 6 ≤ 14500; omega⟩) hA hP hD hS (isC := [0, 1, 2, 3, 4, 5, 6, 7, 8, 9]) rfl [] [0, 1, 2, 3, 4, 5, 6, 7, 8, 9] (br := []) (bs2 := fun u => OB E X hs w g g2 hg nx ct u) rfl (by decide) (fun _ => rfl) (by decide) (fun r j_70 H locs hw hP hD hS => ?_)
                          obtain ⟨hw, hj_71⟩ := hw
                          refine tp_i hw ?_
                          refine tp_i (wfv_in hc9 (by omega)) ?_
                          have hf5 := hfl9 (ctN9 g v_6) v_6
                          refine lv_aload_n hx hb dL_isWhole_342 rfl (lv_at hl 3 rfl) ?_
                          refine run_i (S := Unit) (run_V (As := []) (rest := [.int (nI (favN g (ctN9 g v_6) v_6))]) (bs := OB E X hs w g g2 hg nx ct j_70) (cb := [coC E (X 0) (X 1) (X 2) (X 3) (X 4) (X 5) (X 6) (X 7) (X 8) w, stC E (X 1) g]) hx hb hml hown hts hK hZ hA (c_X5_quota l E _ (X 0) (X 1) (X 2) (X 3) (X 4) (X 5) (X 6) (X 7) (X 8) w g B hI) l_L_188 rfl ⟨⟨rfl, rfl⟩, Nat.le_of_ble_eq_true rfl, Nat.le_of_ble_eq_true rfl⟩ 9 rfl [0, 1] rfl (by decide) rfl hP hD hS hl.1 rfl (Nat.le_of_ble_eq_true rfl) dL_isWhole_343 ⟨by show ((((1600 + 1) + 0) + 2) + 1) + 0 ≤ 1700; omega, by show ((((13600 + 6) + 0) + 12) + 6) + 0 ≤ 14500; omega⟩) hA hP hD hS (isC := [0, 1]) rfl [2, 3, 4, 5, 6, 7, 8, 9] [8, 9, 0, 1, 2, 3, 4, 5, 6, 7] (br := [stC E (X 2) g2, stC E (X 3) j_70.1, hhC E (X 4) hs hg nx ct, diC E (X 5) j_70.2.1 j_70.2.2.1, grC E (X 6) j_70.2.2.2.1 j_70.2.2.2.2.1, prC E (X 7) j_70.2.2.2.2.2.1 j_70.2.2.2.2.2.2.1, sbO E (X 8) j_70.2.2.2.2.2.2.2.1 j_70.2.2.2.2.2.2.2.2.1 j_70.2.2.2.2.2.2.2.2.2.1, baC E j_70.2.2.2.2.2.2.2.1 j_70.2.2.2.2.2.2.2.2.2.2.1 j_70.2.2.2.2.2.2.2.2.2.2.2]) (bs2 := fun _ => OB E X hs w g g2 hg nx ct j_70) rfl (by decide) (fun _ => rfl) (by decide) (fun r u H locs hw hP hD hS => ?_)
                          subst hw
                          refine nv_icmp_lt (X := ((favN g (ctN9 g v_6) v_6 : Nat) : Int)) (Y := ((quo g : Nat) : Int)) hx hb (nI_toInt (by omega)) (nI_toInt (by omega)) (tgt := 353) dL_isWhole_346 (by decide) (fun c_72 => ?_) (fun c_72 => ?_)
                          · exact absurd c_72 (by omega)
                          · skip
                            refine lv_iconst (v := nI 1) hx hb dL_isWhole_349 (by decide) ?_
                            refine lv_goto (tgt := 354) hx hb dL_isWhole_350 (by decide) ?_
                            refine lv_istore (lv' := [(14, .int (nI 1)), (13, .int (nI (ctN9 g v_6))), (12, .int (nI v_6)), (11, .int (nI 1)), (0, .ref (X 0 0)), (1, .ref (E.2.2 202)), (2, .int (nI k0)), (3, .int (bI ba)), (4, .int (nI (g 8 0))), (5, .int (nI (allSh g))), (6, .int (nI (pursN g))), (7, .int (nI (sm (dv g) (g 8 0)))), (8, .long (lN (chA g (g 8 0))))]) hx hb dL_isWhole_354 hl (by decide) rfl (fun ls hl => ?_)
                            refine lv_iconst (v := nI 0) hx hb dL_isWhole_356 (by decide) ?_
                            refine lv_istore (lv' := [(15, .int (nI 0)), (14, .int (nI 1)), (13, .int (nI (ctN9 g v_6))), (12, .int (nI v_6)), (11, .int (nI 1)), (0, .ref (X 0 0)), (1, .ref (E.2.2 202)), (2, .int (nI k0)), (3, .int (bI ba)), (4, .int (nI (g 8 0))), (5, .int (nI (allSh g))), (6, .int (nI (pursN g))), (7, .int (nI (sm (dv g) (g 8 0)))), (8, .long (lN (chA g (g 8 0))))]) hx hb dL_isWhole_357 hl (by decide) rfl (fun ls hl => ?_)
                            have loop359 : ∀ (n : Nat) (i4 : Nat) (jd : JT), (i4 ≤ bd) → (JV jd) → bd - i4 < n → ∀ (H : Heap) (locs : List Loc) (ls : Array Slot), va_P E.1 vwCl (OB E X hs w g g2 hg nx ct jd : List va_W).flatten H → va_D A (OB E X hs w g g2 hg nx ct jd : List va_W).flatten → va_S A s.heap H locs → lv_has ls 19 [(0, .ref (X 0 0)), (1, .ref (E.2.2 202)), (2, .int (nI k0)), (3, .int (bI ba)), (4, .int (nI (g 8 0))), (5, .int (nI (allSh g))), (6, .int (nI (pursN g))), (7, .int (nI (sm (dv g) (g 8 0)))), (8, .long (lN (chA g (g 8 0)))), (11, .int (nI 1)), (12, .int (nI v_6)), (13, .int (nI (ctN9 g v_6))), (14, .int (nI 1)), (15, .int (nI i4))] → W p l e rm_L_isWhole s m ([.ref (X 0 0), .ref (E.2.2 202), .int (nI k0), .int (bI ba)] : List Value).toArray below meth c H locs (((((1600 + 1) + 0) + 2) + 1) + 1 * i4) (((((13600 + 6) + 0) + 12) + 6) + 6 * i4) Q (F0 m 359 ls []) := by
                              intro n359
                              induction n359 with
                              | zero => intro i4 jd hi4 hjd hn359; exact absurd hn359 (Nat.not_lt_zero _)
                              | succ n359 ih359 =>
                                intro i4 jd hi4 hjd hn359 H locs ls hP hD hS hl
                                refine lv_iload hx hb dL_isWhole_359 (lv_at hl 13 rfl) ?_
                                refine lv_iload hx hb dL_isWhole_361 (lv_at hl 11 rfl) ?_
                                refine nv_if_ge (X := ((ctN9 g v_6 : Nat) : Int)) hx hb (nI_toInt (by omega)) (tgt := 371) dL_isWhole_363 (by decide) (fun c_73 => ?_) (fun c_73 => ?_)
                                · skip
                                  refine lv_iload hx hb dL_isWhole_371 (lv_at hl 11 rfl) ?_
                                  refine nv_icmp_ge (X := ((i4 : Nat) : Int)) (Y := ((ctN9 g v_6 : Nat) : Int)) hx hb (nI_toInt (by omega)) (nI_toInt (by omega)) (tgt := 407) dL_isWhole_373 (by decide) (fun c_74 => ?_) (fun c_74 => ?_)
                                  · skip
                                    exact W_widen (by omega) (by omega) (k407 jd hjd _ _ _ hP hD hS (lv_sub hl [0, 1, 2, 3, 4, 5, 6, 7, 8, 9, 12] rfl))
                                  · skip
                                    have hfn := hno i4 (by omega)
                                    have hf4 := hfl9 i4 v_6
                                    refine lv_iload hx hb dL_isWhole_376 (lv_at hl 12 rfl) ?_
                                    refine lv_aload_n hx hb dL_isWhole_378 rfl (lv_at hl 0 rfl) ?_
                                    refine lv_iload hx hb dL_isWhole_379 (lv_at hl 13 rfl) ?_
                                    refine lv_iload hx hb dL_isWhole_381 (lv_at hl 10 rfl) ?_
                                    refine run_i (S := JT) (run_SX (As := [.ref (X 0 0), .int (nI i4), .int (nI v_6)]) (rest := [.int (nI 1)]) (bs := OB E X hs w g g2 hg nx ct jd) (cb := OB E X hs w g g2 hg nx ct jd) hx hb hml hown hts hK hZ hDD hA (c_L_sharesInFavour l hst E _ X hs w g g2 B hI hg nx ct hnx hct jd hjd (nI i4) (nI v_6)) l_L_185 rfl ⟨⟨rfl, rfl⟩, Nat.le_of_ble_eq_true rfl, Nat.le_of_ble_eq_true rfl⟩ [0, 1, 2, 3, 4, 5, 6, 7, 8, 9] rfl (by decide) hP hD hS hl.1 rfl (Nat.le_of_ble_eq_true rfl) dL_isWhole_383 ⟨by show (((((1600 + 1) + 0) + 2) + 1) + 1 * i4) + 1 ≤ 1700; omega, by show (((((13600 + 6) + 0) + 12) + 6) + 6 * i4) + 6 ≤ 14500; omega⟩) hA hP hD hS (isC := [0, 1, 2, 3, 4, 5, 6, 7, 8, 9]) rfl [] [0, 1, 2, 3, 4, 5, 6, 7, 8, 9] (br := []) (bs2 := fun u => OB E X hs w g g2 hg nx ct u) rfl (by decide) (fun _ => rfl) (by decide) (fun r j_75 H locs hw hP hD hS => ?_)
                                    obtain ⟨hw, hj_76⟩ := hw
                                    refine tp_i hw ?_
                                    refine tp_i (wfv_in (by omega) (by omega)) ?_
                                    refine lv_aload_n hx hb dL_isWhole_386 rfl (lv_at hl 0 rfl) ?_
                                    refine run_i (S := Unit) (run_V (As := []) (rest := [.int (nI (favN g i4 v_6)), .int (nI 1)]) (bs := OB E X hs w g g2 hg nx ct j_75) (cb := [coC E (X 0) (X 1) (X 2) (X 3) (X 4) (X 5) (X 6) (X 7) (X 8) w, stC E (X 1) g]) hx hb hml hown hts hK hZ hA (c_X5_quota l E _ (X 0) (X 1) (X 2) (X 3) (X 4) (X 5) (X 6) (X 7) (X 8) w g B hI) l_L_188 rfl ⟨⟨rfl, rfl⟩, Nat.le_of_ble_eq_true rfl, Nat.le_of_ble_eq_true rfl⟩ 9 rfl [0, 1] rfl (by decide) rfl hP hD hS hl.1 rfl (Nat.le_of_ble_eq_true rfl) dL_isWhole_387 ⟨by show ((((((1600 + 1) + 0) + 2) + 1) + 1 * i4) + 1) + 0 ≤ 1700; omega, by show ((((((13600 + 6) + 0) + 12) + 6) + 6 * i4) + 6) + 0 ≤ 14500; omega⟩) hA hP hD hS (isC := [0, 1]) rfl [2, 3, 4, 5, 6, 7, 8, 9] [8, 9, 0, 1, 2, 3, 4, 5, 6, 7] (br := [stC E (X 2) g2, stC E (X 3) j_75.1, hhC E (X 4) hs hg nx ct, diC E (X 5) j_75.2.1 j_75.2.2.1, grC E (X 6) j_75.2.2.2.1 j_75.2.2.2.2.1, prC E (X 7) j_75.2.2.2.2.2.1 j_75.2.2.2.2.2.2.1, sbO E (X 8) j_75.2.2.2.2.2.2.2.1 j_75.2.2.2.2.2.2.2.2.1 j_75.2.2.2.2.2.2.2.2.2.1, baC E j_75.2.2.2.2.2.2.2.1 j_75.2.2.2.2.2.2.2.2.2.2.1 j_75.2.2.2.2.2.2.2.2.2.2.2]) (bs2 := fun _ => OB E X hs w g g2 hg nx ct j_75) rfl (by decide) (fun _ => rfl) (by decide) (fun r u H locs hw hP hD hS => ?_)
                                    subst hw
                                    refine nv_icmp_ge (X := ((favN g i4 v_6 : Nat) : Int)) (Y := ((quo g : Nat) : Int)) hx hb (nI_toInt (by omega)) (nI_toInt (by omega)) (tgt := 397) dL_isWhole_390 (by decide) (fun c_77 => ?_) (fun c_77 => ?_)
                                    · exact absurd c_77 (by omega)
                                    · skip
                                      refine lv_iconst (v := nI 1) hx hb dL_isWhole_393 (by decide) ?_
                                      refine lv_goto (tgt := 398) hx hb dL_isWhole_394 (by decide) ?_
                                      refine nv_iand hx hb dL_isWhole_398 ?_
                                      refine tp_i (show nI (1 &&& 1) = nI 1 from rfl) ?_
                                      refine lv_istore (lv' := [(14, .int (nI 1)), (0, .ref (X 0 0)), (1, .ref (E.2.2 202)), (2, .int (nI k0)), (3, .int (bI ba)), (4, .int (nI (g 8 0))), (5, .int (nI (allSh g))), (6, .int (nI (pursN g))), (7, .int (nI (sm (dv g) (g 8 0)))), (8, .long (lN (chA g (g 8 0)))), (11, .int (nI 1)), (12, .int (nI v_6)), (13, .int (nI (ctN9 g v_6))), (15, .int (nI i4))]) hx hb dL_isWhole_399 hl (by decide) rfl (fun ls hl => ?_)
                                      refine lv_iinc (v := nI (i4 + 1)) (lv' := [(15, .int (nI (i4 + 1))), (14, .int (nI 1)), (0, .ref (X 0 0)), (1, .ref (E.2.2 202)), (2, .int (nI k0)), (3, .int (bI ba)), (4, .int (nI (g 8 0))), (5, .int (nI (allSh g))), (6, .int (nI (pursN g))), (7, .int (nI (sm (dv g) (g 8 0)))), (8, .long (lN (chA g (g 8 0)))), (11, .int (nI 1)), (12, .int (nI v_6)), (13, .int (nI (ctN9 g v_6)))]) hx hb dL_isWhole_401 hl (k := 13) rfl (nI_add i4 1) (by decide) rfl (fun ls hl => ?_)
                                      refine lv_goto (tgt := 359) hx hb dL_isWhole_404 (by decide) ?_
                                      exact W_widen (by omega) (by omega) (ih359 (i4 + 1) j_75 (by omega) hj_76 (by omega) _ _ _ hP hD hS (lv_sub hl [2, 3, 4, 5, 6, 7, 8, 9, 10, 11, 12, 13, 1, 0] rfl))
                                · exact absurd c_73 (by omega)
                            exact W_widen (by omega) (by omega) (loop359 _ 0 j_70 (by omega) hj_71 (Nat.lt_succ_self _) _ _ _ hP hD hS (lv_sub hl [5, 6, 7, 8, 9, 10, 11, 12, 13, 4, 3, 2, 1, 0] rfl))
                      · skip
                        refine tp_i ((wct_in (by omega)).trans (if_neg hc9)) ?_
                        have hno := ct_no hc9
                        obtain ⟨bd, hbd⟩ : ∃ bd, bd = 12 := ⟨_, rfl⟩
                        rw [← hbd] at hno
                        refine lv_istore (lv' := [(13, .int (-75 : Int32)), (12, .int (nI v_6)), (11, .int (nI 1)), (0, .ref (X 0 0)), (1, .ref (E.2.2 202)), (2, .int (nI k0)), (3, .int (bI ba)), (4, .int (nI (g 8 0))), (5, .int (nI (allSh g))), (6, .int (nI (pursN g))), (7, .int (nI (sm (dv g) (g 8 0)))), (8, .long (lN (chA g (g 8 0))))]) hx hb dL_isWhole_325 hl (by decide) rfl (fun ls hl => ?_)
                        refine lv_iload hx hb dL_isWhole_327 (lv_at hl 0 rfl) ?_
                        refine lv_bipush (v := -75) hx hb dL_isWhole_329 (by decide) ?_
                        refine nv_icmp_eq (X := (-75)) (Y := (-75)) hx hb (by decide) (by decide) (tgt := 349) dL_isWhole_331 (by decide) (fun c_78 => ?_) (fun c_78 => ?_)
                        · skip
                          refine lv_iconst (v := nI 1) hx hb dL_isWhole_349 (by decide) ?_
                          refine lv_goto (tgt := 354) hx hb dL_isWhole_350 (by decide) ?_
                          refine lv_istore (lv' := [(14, .int (nI 1)), (13, .int (-75 : Int32)), (12, .int (nI v_6)), (11, .int (nI 1)), (0, .ref (X 0 0)), (1, .ref (E.2.2 202)), (2, .int (nI k0)), (3, .int (bI ba)), (4, .int (nI (g 8 0))), (5, .int (nI (allSh g))), (6, .int (nI (pursN g))), (7, .int (nI (sm (dv g) (g 8 0)))), (8, .long (lN (chA g (g 8 0))))]) hx hb dL_isWhole_354 hl (by decide) rfl (fun ls hl => ?_)
                          refine lv_iconst (v := nI 0) hx hb dL_isWhole_356 (by decide) ?_
                          refine lv_istore (lv' := [(15, .int (nI 0)), (14, .int (nI 1)), (13, .int (-75 : Int32)), (12, .int (nI v_6)), (11, .int (nI 1)), (0, .ref (X 0 0)), (1, .ref (E.2.2 202)), (2, .int (nI k0)), (3, .int (bI ba)), (4, .int (nI (g 8 0))), (5, .int (nI (allSh g))), (6, .int (nI (pursN g))), (7, .int (nI (sm (dv g) (g 8 0)))), (8, .long (lN (chA g (g 8 0))))]) hx hb dL_isWhole_357 hl (by decide) rfl (fun ls hl => ?_)
                          have loop359 : ∀ (n : Nat) (i4 : Nat) (jd : JT), (i4 ≤ bd) → (JV jd) → bd - i4 < n → ∀ (H : Heap) (locs : List Loc) (ls : Array Slot), va_P E.1 vwCl (OB E X hs w g g2 hg nx ct jd : List va_W).flatten H → va_D A (OB E X hs w g g2 hg nx ct jd : List va_W).flatten → va_S A s.heap H locs → lv_has ls 19 [(0, .ref (X 0 0)), (1, .ref (E.2.2 202)), (2, .int (nI k0)), (3, .int (bI ba)), (4, .int (nI (g 8 0))), (5, .int (nI (allSh g))), (6, .int (nI (pursN g))), (7, .int (nI (sm (dv g) (g 8 0)))), (8, .long (lN (chA g (g 8 0)))), (11, .int (nI 1)), (12, .int (nI v_6)), (13, .int (-75 : Int32)), (14, .int (nI 1)), (15, .int (nI i4))] → W p l e rm_L_isWhole s m ([.ref (X 0 0), .ref (E.2.2 202), .int (nI k0), .int (bI ba)] : List Value).toArray below meth c H locs ((((1600 + 1) + 0) + 2) + 1 * i4) ((((13600 + 6) + 0) + 12) + 6 * i4) Q (F0 m 359 ls []) := by
                            intro n359
                            induction n359 with
                            | zero => intro i4 jd hi4 hjd hn359; exact absurd hn359 (Nat.not_lt_zero _)
                            | succ n359 ih359 =>
                              intro i4 jd hi4 hjd hn359 H locs ls hP hD hS hl
                              refine lv_iload hx hb dL_isWhole_359 (lv_at hl 13 rfl) ?_
                              refine lv_iload hx hb dL_isWhole_361 (lv_at hl 11 rfl) ?_
                              refine nv_if_ge (X := (-75)) hx hb (by decide) (tgt := 371) dL_isWhole_363 (by decide) (fun c_79 => ?_) (fun c_79 => ?_)
                              · exact absurd c_79 (by omega)
                              · skip
                                refine lv_bipush (v := nI 12) hx hb dL_isWhole_366 (by decide) ?_
                                refine lv_goto (tgt := 373) hx hb dL_isWhole_368 (by decide) ?_
                                refine nv_icmp_ge (X := ((i4 : Nat) : Int)) (Y := ((12 : Nat) : Int)) hx hb (nI_toInt (by omega)) (nI_toInt (by omega)) (tgt := 407) dL_isWhole_373 (by decide) (fun c_80 => ?_) (fun c_80 => ?_)
                                · skip
                                  exact W_widen (by omega) (by omega) (k407 jd hjd _ _ _ hP hD hS (lv_sub hl [0, 1, 2, 3, 4, 5, 6, 7, 8, 9, 12] rfl))
                                · skip
                                  have hfn := hno i4 (by omega)
                                  have hf4 := hfl9 i4 v_6
                                  refine lv_iload hx hb dL_isWhole_376 (lv_at hl 12 rfl) ?_
                                  refine lv_aload_n hx hb dL_isWhole_378 rfl (lv_at hl 0 rfl) ?_
                                  refine lv_iload hx hb dL_isWhole_379 (lv_at hl 13 rfl) ?_
                                  refine lv_iload hx hb dL_isWhole_381 (lv_at hl 10 rfl) ?_
                                  refine run_i (S := JT) (run_SX (As := [.ref (X 0 0), .int (nI i4), .int (nI v_6)]) (rest := [.int (nI 1)]) (bs := OB E X hs w g g2 hg nx ct jd) (cb := OB E X hs w g g2 hg nx ct jd) hx hb hml hown hts hK hZ hDD hA (c_L_sharesInFavour l hst E _ X hs w g g2 B hI hg nx ct hnx hct jd hjd (nI i4) (nI v_6)) l_L_185 rfl ⟨⟨rfl, rfl⟩, Nat.le_of_ble_eq_true rfl, Nat.le_of_ble_eq_true rfl⟩ [0, 1, 2, 3, 4, 5, 6, 7, 8, 9] rfl (by decide) hP hD hS hl.1 rfl (Nat.le_of_ble_eq_true rfl) dL_isWhole_383 ⟨by show ((((1600 + 1) + 0) + 2) + 1 * i4) + 1 ≤ 1700; omega, by show ((((13600 + 6) + 0) + 12) + 6 * i4) + 6 ≤ 14500; omega⟩) hA hP hD hS (isC := [0, 1, 2, 3, 4, 5, 6, 7, 8, 9]) rfl [] [0, 1, 2, 3, 4, 5, 6, 7, 8, 9] (br := []) (bs2 := fun u => OB E X hs w g g2 hg nx ct u) rfl (by decide) (fun _ => rfl) (by decide) (fun r j_81 H locs hw hP hD hS => ?_)
                                  obtain ⟨hw, hj_82⟩ := hw
                                  refine tp_i hw ?_
                                  refine tp_i (wfv_in (by omega) (by omega)) ?_
                                  refine lv_aload_n hx hb dL_isWhole_386 rfl (lv_at hl 0 rfl) ?_
                                  refine run_i (S := Unit) (run_V (As := []) (rest := [.int (nI (favN g i4 v_6)), .int (nI 1)]) (bs := OB E X hs w g g2 hg nx ct j_81) (cb := [coC E (X 0) (X 1) (X 2) (X 3) (X 4) (X 5) (X 6) (X 7) (X 8) w, stC E (X 1) g]) hx hb hml hown hts hK hZ hA (c_X5_quota l E _ (X 0) (X 1) (X 2) (X 3) (X 4) (X 5) (X 6) (X 7) (X 8) w g B hI) l_L_188 rfl ⟨⟨rfl, rfl⟩, Nat.le_of_ble_eq_true rfl, Nat.le_of_ble_eq_true rfl⟩ 9 rfl [0, 1] rfl (by decide) rfl hP hD hS hl.1 rfl (Nat.le_of_ble_eq_true rfl) dL_isWhole_387 ⟨by show (((((1600 + 1) + 0) + 2) + 1 * i4) + 1) + 0 ≤ 1700; omega, by show (((((13600 + 6) + 0) + 12) + 6 * i4) + 6) + 0 ≤ 14500; omega⟩) hA hP hD hS (isC := [0, 1]) rfl [2, 3, 4, 5, 6, 7, 8, 9] [8, 9, 0, 1, 2, 3, 4, 5, 6, 7] (br := [stC E (X 2) g2, stC E (X 3) j_81.1, hhC E (X 4) hs hg nx ct, diC E (X 5) j_81.2.1 j_81.2.2.1, grC E (X 6) j_81.2.2.2.1 j_81.2.2.2.2.1, prC E (X 7) j_81.2.2.2.2.2.1 j_81.2.2.2.2.2.2.1, sbO E (X 8) j_81.2.2.2.2.2.2.2.1 j_81.2.2.2.2.2.2.2.2.1 j_81.2.2.2.2.2.2.2.2.2.1, baC E j_81.2.2.2.2.2.2.2.1 j_81.2.2.2.2.2.2.2.2.2.2.1 j_81.2.2.2.2.2.2.2.2.2.2.2]) (bs2 := fun _ => OB E X hs w g g2 hg nx ct j_81) rfl (by decide) (fun _ => rfl) (by decide) (fun r u H locs hw hP hD hS => ?_)
                                  subst hw
                                  refine nv_icmp_ge (X := ((favN g i4 v_6 : Nat) : Int)) (Y := ((quo g : Nat) : Int)) hx hb (nI_toInt (by omega)) (nI_toInt (by omega)) (tgt := 397) dL_isWhole_390 (by decide) (fun c_83 => ?_) (fun c_83 => ?_)
                                  · exact absurd c_83 (by omega)
                                  · skip
                                    refine lv_iconst (v := nI 1) hx hb dL_isWhole_393 (by decide) ?_
                                    refine lv_goto (tgt := 398) hx hb dL_isWhole_394 (by decide) ?_
                                    refine nv_iand hx hb dL_isWhole_398 ?_
                                    refine tp_i (show nI (1 &&& 1) = nI 1 from rfl) ?_
                                    refine lv_istore (lv' := [(14, .int (nI 1)), (0, .ref (X 0 0)), (1, .ref (E.2.2 202)), (2, .int (nI k0)), (3, .int (bI ba)), (4, .int (nI (g 8 0))), (5, .int (nI (allSh g))), (6, .int (nI (pursN g))), (7, .int (nI (sm (dv g) (g 8 0)))), (8, .long (lN (chA g (g 8 0)))), (11, .int (nI 1)), (12, .int (nI v_6)), (13, .int (-75 : Int32)), (15, .int (nI i4))]) hx hb dL_isWhole_399 hl (by decide) rfl (fun ls hl => ?_)
                                    refine lv_iinc (v := nI (i4 + 1)) (lv' := [(15, .int (nI (i4 + 1))), (14, .int (nI 1)), (0, .ref (X 0 0)), (1, .ref (E.2.2 202)), (2, .int (nI k0)), (3, .int (bI ba)), (4, .int (nI (g 8 0))), (5, .int (nI (allSh g))), (6, .int (nI (pursN g))), (7, .int (nI (sm (dv g) (g 8 0)))), (8, .long (lN (chA g (g 8 0)))), (11, .int (nI 1)), (12, .int (nI v_6)), (13, .int (-75 : Int32))]) hx hb dL_isWhole_401 hl (k := 13) rfl (nI_add i4 1) (by decide) rfl (fun ls hl => ?_)
                                    refine lv_goto (tgt := 359) hx hb dL_isWhole_404 (by decide) ?_
                                    exact W_widen (by omega) (by omega) (ih359 (i4 + 1) j_81 (by omega) hj_82 (by omega) _ _ _ hP hD hS (lv_sub hl [2, 3, 4, 5, 6, 7, 8, 9, 10, 11, 12, 13, 1, 0] rfl))
                          exact W_widen (by omega) (by omega) (loop359 _ 0 j_67 (by omega) hj_68 (Nat.lt_succ_self _) _ _ _ hP hD hS (lv_sub hl [5, 6, 7, 8, 9, 10, 11, 12, 13, 4, 3, 2, 1, 0] rfl))
                        · exact absurd c_78 (by omega)
                    refine lv_iload hx hb dL_isWhole_236 (lv_at hl 5 rfl) ?_
                    refine nv_if_eq (X := ((g 8 0 : Nat) : Int)) hx hb (nI_toInt (by omega)) (tgt := 249) dL_isWhole_238 (by decide) (fun c_84 => ?_) (fun c_84 => ?_)
                    · skip
                      have hw9 : fc.toInt = -75 := by rw [hfc]; exact wch_0 (by omega)
                      refine lv_iload hx hb dL_isWhole_249 (lv_at hl 0 rfl) ?_
                      refine lv_bipush (v := -75) hx hb dL_isWhole_251 (by decide) ?_
                      refine nv_icmp_ne (X := fc.toInt) (Y := (-75)) hx hb rfl (by decide) (tgt := 260) dL_isWhole_253 (by decide) (fun c_85 => ?_) (fun c_85 => ?_)
                      · exact absurd c_85 (by omega)
                      · skip
                        refine lv_iconst (v := nI 1) hx hb dL_isWhole_256 (by decide) ?_
                        refine lv_goto (tgt := 306) hx hb dL_isWhole_257 (by decide) ?_
                        exact W_widen (by omega) (by omega) (k306 j_4 hj_5 _ _ _ hP hD hS (lv_sub hl [1, 2, 3, 4, 5, 6, 7, 8, 9] rfl))
                    · skip
                      have hz : 0 < g 8 0 := by omega
                      refine lv_lload hx hb dL_isWhole_241 (lv_at hl 9 rfl) ?_
                      refine run_i (S := Unit) (run_S (As := [.long (lN (chA g (g 8 0)))]) (rest := []) (bs := OB E X hs w g g2 hg nx ct j_4) (cb := []) hx hb hml hown hts hK hZ hA (c_L_bits l E _ (chA g (g 8 0)) (chA_lt _)) l_L_302 rfl ⟨⟨rfl, rfl⟩, Nat.le_of_ble_eq_true rfl, Nat.le_of_ble_eq_true rfl⟩ [] rfl (by decide) hP hD hS hl.1 rfl (Nat.le_of_ble_eq_true rfl) dL_isWhole_243 ⟨by show (1600 + 1) + 0 ≤ 1700; omega, by show (13600 + 6) + 0 ≤ 14500; omega⟩) hA hP hD hS (isC := []) rfl [0, 1, 2, 3, 4, 5, 6, 7, 8, 9] [0, 1, 2, 3, 4, 5, 6, 7, 8, 9] (br := OB E X hs w g g2 hg nx ct j_4) (bs2 := fun _ => OB E X hs w g g2 hg nx ct j_4) rfl (by decide) (fun _ => rfl) (by decide) (fun r u H locs hw hP hD hS => ?_)
                      subst hw
                      refine nv_if_ne (X := ((bt60 (chA g (g 8 0)) : Nat) : Int)) hx hb (nI_toInt (Nat.lt_of_le_of_lt (bt_le 60) (by decide))) (tgt := 264) dL_isWhole_246 (by decide) (fun c_86 => ?_) (fun c_86 => ?_)
                      · skip
                        obtain ⟨hcy1, hcy2, hcy3⟩ := chor_yes hz (by omega)
                        have hl : lv_has ls 19 [(10, .int (nI (fsC g + 1))), (0, .ref (X 0 0)), (1, .ref (E.2.2 202)), (2, .int (nI k0)), (3, .int (bI ba)), (4, .int (nI (g 8 0))), (5, .int (nI (allSh g))), (6, .int (nI (pursN g))), (7, .int (nI (sm (dv g) (g 8 0)))), (8, .long (lN (chA g (g 8 0))))] := by rw [show nI (fsC g + 1) = fc from ((hfc.trans (wch_yes hcy1)).symm)]; exact hl
                        refine lv_iload hx hb dL_isWhole_264 (lv_at hl 0 rfl) ?_
                        refine lv_iconst (v := nI 1) hx hb dL_isWhole_266 (by decide) ?_
                        refine nv_icmp_lt (X := ((fsC g + 1 : Nat) : Int)) (Y := ((1 : Nat) : Int)) hx hb (nI_toInt (by omega)) (nI_toInt (by omega)) (tgt := 305) dL_isWhole_267 (by decide) (fun c_87 => ?_) (fun c_87 => ?_)
                        · exact absurd c_87 (by omega)
                        · skip
                          refine lv_lload hx hb dL_isWhole_270 (lv_at hl 9 rfl) ?_
                          refine lv_iload hx hb dL_isWhole_272 (lv_at hl 0 rfl) ?_
                          refine lv_iconst (v := nI 1) hx hb dL_isWhole_274 (by decide) ?_
                          refine nv_isub hx hb (by omega) dL_isWhole_275 ?_
                          refine tp_i (congrArg nI (Nat.add_sub_cancel (n := fsC g) (m := 1))) ?_
                          refine lv_lshr hx hb dL_isWhole_276 rfl ?_
                          refine lv_lconst (v := lN 1) hx hb dL_isWhole_277 (by decide) ?_
                          refine lv_land hx hb dL_isWhole_278 ?_
                          refine tp_l (shr1 (by omega)) ?_
                          refine lv_lconst (v := lN 1) hx hb dL_isWhole_279 (by decide) ?_
                          refine W.lcmp hx hb dL_isWhole_280 ?_
                          refine tp_i (show lg_cmp (lN (if (chA g (g 8 0)).testBit (fsC g) = true then 1 else 0)) (lN 1) = nI 0 from by rw [if_pos hcy2]; decide) ?_
                          refine nv_if_ne (X := ((0 : Nat) : Int)) hx hb (nI_toInt (by omega)) (tgt := 305) dL_isWhole_281 (by decide) (fun c_88 => ?_) (fun c_88 => ?_)
                          · exact absurd c_88 (by omega)
                          · skip
                            refine lv_lload hx hb dL_isWhole_284 (lv_at hl 9 rfl) ?_
                            refine lv_lconst (v := lN 1) hx hb dL_isWhole_286 (by decide) ?_
                            refine lv_iload hx hb dL_isWhole_287 (lv_at hl 0 rfl) ?_
                            refine lv_iconst (v := nI 1) hx hb dL_isWhole_289 (by decide) ?_
                            refine nv_isub hx hb (by omega) dL_isWhole_290 ?_
                            refine tp_i (congrArg nI (Nat.add_sub_cancel (n := fsC g) (m := 1))) ?_
                            refine nv_lshl hx hb (by omega) dL_isWhole_291 ?_
                            refine tp_l (congrArg lN (Nat.one_mul _)) ?_
                            refine lv_lconst (v := lN 1) hx hb dL_isWhole_292 (by decide) ?_
                            refine lv_lsub hx hb dL_isWhole_293 ?_
                            refine tp_l (lsub_n (by omega)) ?_
                            refine nv_land hx hb (chA_lt _) (pw_lt hcy1) dL_isWhole_294 ?_
                            refine run_i (S := Unit) (run_S (As := [.long (lN (chA g (g 8 0) &&& (2 ^ fsC g - 1)))]) (rest := []) (bs := OB E X hs w g g2 hg nx ct j_4) (cb := []) hx hb hml hown hts hK hZ hA (c_L_bits l E _ (chA g (g 8 0) &&& (2 ^ fsC g - 1)) (Nat.and_lt_two_pow _ (pw_lt hcy1))) l_L_302 rfl ⟨⟨rfl, rfl⟩, Nat.le_of_ble_eq_true rfl, Nat.le_of_ble_eq_true rfl⟩ [] rfl (by decide) hP hD hS hl.1 rfl (Nat.le_of_ble_eq_true rfl) dL_isWhole_295 ⟨by show (1600 + 1) + 0 ≤ 1700; omega, by show (13600 + 6) + 0 ≤ 14500; omega⟩) hA hP hD hS (isC := []) rfl [0, 1, 2, 3, 4, 5, 6, 7, 8, 9] [0, 1, 2, 3, 4, 5, 6, 7, 8, 9] (br := OB E X hs w g g2 hg nx ct j_4) (bs2 := fun _ => OB E X hs w g g2 hg nx ct j_4) rfl (by decide) (fun _ => rfl) (by decide) (fun r u H locs hw hP hD hS => ?_)
                            subst hw
                            refine nv_if_ne (X := ((bt60 (chA g (g 8 0) &&& (2 ^ fsC g - 1)) : Nat) : Int)) hx hb (nI_toInt (Nat.lt_of_le_of_lt (bt_le 60) (by decide))) (tgt := 305) dL_isWhole_298 (by decide) (fun c_89 => ?_) (fun c_89 => ?_)
                            · exact absurd c_89 (by omega)
                            · skip
                              refine lv_iconst (v := nI 1) hx hb dL_isWhole_301 (by decide) ?_
                              refine lv_goto (tgt := 306) hx hb dL_isWhole_302 (by decide) ?_
                              exact W_widen (by omega) (by omega) (k306 j_4 hj_5 _ _ _ hP hD hS (lv_sub hl [1, 2, 3, 4, 5, 6, 7, 8, 9] rfl))
                      · skip
                        have hw9 : fc.toInt = -75 := by rw [hfc]; exact wch_no (chor_no hz (by omega))
                        refine lv_iload hx hb dL_isWhole_249 (lv_at hl 0 rfl) ?_
                        refine lv_bipush (v := -75) hx hb dL_isWhole_251 (by decide) ?_
                        refine nv_icmp_ne (X := fc.toInt) (Y := (-75)) hx hb rfl (by decide) (tgt := 260) dL_isWhole_253 (by decide) (fun c_90 => ?_) (fun c_90 => ?_)
                        · exact absurd c_90 (by omega)
                        · skip
                          refine lv_iconst (v := nI 1) hx hb dL_isWhole_256 (by decide) ?_
                          refine lv_goto (tgt := 306) hx hb dL_isWhole_257 (by decide) ?_
                          exact W_widen (by omega) (by omega) (k306 j_4 hj_5 _ _ _ hP hD hS (lv_sub hl [1, 2, 3, 4, 5, 6, 7, 8, 9] rfl))
                  · skip
                    refine lv_aload_n hx hb dL_isWhole_137 rfl (lv_at hl 0 rfl) ?_
                    refine lv_iload hx hb dL_isWhole_138 (lv_at hl 9 rfl) ?_
                    refine lv_iconst (v := nI 1) hx hb dL_isWhole_140 (by decide) ?_
                    refine nv_isub hx hb (by omega) dL_isWhole_141 ?_
                    refine run_i (S := JT) (run_SX (As := [.ref (X 0 0), .int (nI (i3 - 1))]) (rest := []) (bs := OB E X hs w g g2 hg nx ct jc) (cb := OB E X hs w g g2 hg nx ct jc) hx hb hml hown hts hK hZ hDD hA (c_L_memberAtRank l hst E _ X hs w g g2 B hI hg nx ct hnx hct jc hjc (nI (i3 - 1))) l_L_323 rfl ⟨⟨rfl, rfl⟩, Nat.le_of_ble_eq_true rfl, Nat.le_of_ble_eq_true rfl⟩ [0, 1, 2, 3, 4, 5, 6, 7, 8, 9] rfl (by decide) hP hD hS hl.1 rfl (Nat.le_of_ble_eq_true rfl) dL_isWhole_142 ⟨by show (1500 + 10 * i3) + 1 ≤ 1700; omega, by show (13000 + 60 * i3) + 6 ≤ 14500; omega⟩) hA hP hD hS (isC := [0, 1, 2, 3, 4, 5, 6, 7, 8, 9]) rfl [] [0, 1, 2, 3, 4, 5, 6, 7, 8, 9] (br := []) (bs2 := fun u => OB E X hs w g g2 hg nx ct u) rfl (by decide) (fun _ => rfl) (by decide) (fun r j_91 H locs hw hP hD hS => ?_)
                    obtain ⟨hw, hj_92⟩ := hw
                    refine tp_i hw ?_
                    obtain ⟨ra, hra, hmra, hwra⟩ := wrk_at hmc (show i3 - 1 < g 8 0 by omega)
                    refine tp_i hwra ?_
                    refine lv_istore (lv' := [(11, .int (nI ra)), (0, .ref (X 0 0)), (1, .ref (E.2.2 202)), (2, .int (nI k0)), (3, .int (bI ba)), (4, .int (nI (g 8 0))), (5, .int (nI (allSh g))), (6, .int (nI (pursN g))), (7, .int (nI (sm (dv g) (g 8 0)))), (8, .long (lN (chA g (g 8 0)))), (10, .int (nI i3))]) hx hb dL_isWhole_145 hl (by decide) rfl (fun ls hl => ?_)
                    refine lv_aload_n hx hb dL_isWhole_147 rfl (lv_at hl 1 rfl) ?_
                    refine lv_iload hx hb dL_isWhole_148 (lv_at hl 10 rfl) ?_
                    refine run_i (S := JT) (run_SX (As := [.ref (X 0 0), .int (nI i3)]) (rest := []) (bs := OB E X hs w g g2 hg nx ct j_91) (cb := OB E X hs w g g2 hg nx ct j_91) hx hb hml hown hts hK hZ hDD hA (c_L_memberAtRank l hst E _ X hs w g g2 B hI hg nx ct hnx hct j_91 hj_92 (nI i3)) l_L_323 rfl ⟨⟨rfl, rfl⟩, Nat.le_of_ble_eq_true rfl, Nat.le_of_ble_eq_true rfl⟩ [0, 1, 2, 3, 4, 5, 6, 7, 8, 9] rfl (by decide) hP hD hS hl.1 rfl (Nat.le_of_ble_eq_true rfl) dL_isWhole_150 ⟨by show ((1500 + 10 * i3) + 1) + 1 ≤ 1700; omega, by show ((13000 + 60 * i3) + 6) + 6 ≤ 14500; omega⟩) hA hP hD hS (isC := [0, 1, 2, 3, 4, 5, 6, 7, 8, 9]) rfl [] [0, 1, 2, 3, 4, 5, 6, 7, 8, 9] (br := []) (bs2 := fun u => OB E X hs w g g2 hg nx ct u) rfl (by decide) (fun _ => rfl) (by decide) (fun r j_93 H locs hw hP hD hS => ?_)
                    obtain ⟨hw, hj_94⟩ := hw
                    refine tp_i hw ?_
                    obtain ⟨rb, hrb, hmrb, hwrb⟩ := wrk_at hmc (show i3 < g 8 0 by omega)
                    refine tp_i hwrb ?_
                    have hrk := rank_ok hra hrb hmra (show mAh g rb = i3 - 1 + 1 by omega)
                    have hba := hI.mem hra
                    have hbb := hI.mem hrb
                    have hpa9 := hI.pu (m := ra) (by omega)
                    have hpb9 := hI.pu (m := rb) (by omega)
                    refine lv_istore (lv' := [(12, .int (nI rb)), (11, .int (nI ra)), (0, .ref (X 0 0)), (1, .ref (E.2.2 202)), (2, .int (nI k0)), (3, .int (bI ba)), (4, .int (nI (g 8 0))), (5, .int (nI (allSh g))), (6, .int (nI (pursN g))), (7, .int (nI (sm (dv g) (g 8 0)))), (8, .long (lN (chA g (g 8 0)))), (10, .int (nI i3))]) hx hb dL_isWhole_153 hl (by decide) rfl (fun ls hl => ?_)
                    refine lv_aload_n hx hb dL_isWhole_155 rfl (lv_at hl 2 rfl) ?_
                    refine lv_iload hx hb dL_isWhole_156 (lv_at hl 1 rfl) ?_
                    refine run_i (S := JT) (run_SX (As := [.ref (X 0 0), .int (nI ra)]) (rest := []) (bs := OB E X hs w g g2 hg nx ct j_93) (cb := OB E X hs w g g2 hg nx ct j_93) hx hb hml hown hts hK hZ hDD hA (c_L_shares l hst E _ X hs w g g2 B hI hg nx ct hnx hct j_93 hj_94 (nI ra)) l_L_209 rfl ⟨⟨rfl, rfl⟩, Nat.le_of_ble_eq_true rfl, Nat.le_of_ble_eq_true rfl⟩ [0, 1, 2, 3, 4, 5, 6, 7, 8, 9] rfl (by decide) hP hD hS hl.1 rfl (Nat.le_of_ble_eq_true rfl) dL_isWhole_158 ⟨by show (((1500 + 10 * i3) + 1) + 1) + 1 ≤ 1700; omega, by show (((13000 + 60 * i3) + 6) + 6) + 6 ≤ 14500; omega⟩) hA hP hD hS (isC := [0, 1, 2, 3, 4, 5, 6, 7, 8, 9]) rfl [] [0, 1, 2, 3, 4, 5, 6, 7, 8, 9] (br := []) (bs2 := fun u => OB E X hs w g g2 hg nx ct u) rfl (by decide) (fun _ => rfl) (by decide) (fun r j_95 H locs hw hP hD hS => ?_)
                    obtain ⟨hw, hj_96⟩ := hw
                    refine tp_i hw ?_
                    refine tp_i (wf_in hmc (by omega)) ?_
                    refine lv_aload_n hx hb dL_isWhole_161 rfl (lv_at hl 2 rfl) ?_
                    refine lv_iload hx hb dL_isWhole_162 (lv_at hl 0 rfl) ?_
                    refine run_i (S := JT) (run_SX (As := [.ref (X 0 0), .int (nI rb)]) (rest := [.int (nI (g 0 ra))]) (bs := OB E X hs w g g2 hg nx ct j_95) (cb := OB E X hs w g g2 hg nx ct j_95) hx hb hml hown hts hK hZ hDD hA (c_L_shares l hst E _ X hs w g g2 B hI hg nx ct hnx hct j_95 hj_96 (nI rb)) l_L_209 rfl ⟨⟨rfl, rfl⟩, Nat.le_of_ble_eq_true rfl, Nat.le_of_ble_eq_true rfl⟩ [0, 1, 2, 3, 4, 5, 6, 7, 8, 9] rfl (by decide) hP hD hS hl.1 rfl (Nat.le_of_ble_eq_true rfl) dL_isWhole_164 ⟨by show ((((1500 + 10 * i3) + 1) + 1) + 1) + 1 ≤ 1700; omega, by show ((((13000 + 60 * i3) + 6) + 6) + 6) + 6 ≤ 14500; omega⟩) hA hP hD hS (isC := [0, 1, 2, 3, 4, 5, 6, 7, 8, 9]) rfl [] [0, 1, 2, 3, 4, 5, 6, 7, 8, 9] (br := []) (bs2 := fun u => OB E X hs w g g2 hg nx ct u) rfl (by decide) (fun _ => rfl) (by decide) (fun r j_97 H locs hw hP hD hS => ?_)
                    obtain ⟨hw, hj_98⟩ := hw
                    refine tp_i hw ?_
                    refine tp_i (wf_in hmc (by omega)) ?_
                    refine nv_icmp_lt (X := ((g 0 ra : Nat) : Int)) (Y := ((g 0 rb : Nat) : Int)) hx hb (nI_toInt (by omega)) (nI_toInt (by omega)) (tgt := 222) dL_isWhole_167 (by decide) (fun c_99 => ?_) (fun c_99 => ?_)
                    · exact absurd c_99 (by omega)
                    · skip
                      refine lv_aload_n hx hb dL_isWhole_170 rfl (lv_at hl 2 rfl) ?_
                      refine lv_iload hx hb dL_isWhole_171 (lv_at hl 1 rfl) ?_
                      refine run_i (S := JT) (run_SX (As := [.ref (X 0 0), .int (nI ra)]) (rest := []) (bs := OB E X hs w g g2 hg nx ct j_97) (cb := OB E X hs w g g2 hg nx ct j_97) hx hb hml hown hts hK hZ hDD hA (c_L_shares l hst E _ X hs w g g2 B hI hg nx ct hnx hct j_97 hj_98 (nI ra)) l_L_209 rfl ⟨⟨rfl, rfl⟩, Nat.le_of_ble_eq_true rfl, Nat.le_of_ble_eq_true rfl⟩ [0, 1, 2, 3, 4, 5, 6, 7, 8, 9] rfl (by decide) hP hD hS hl.1 rfl (Nat.le_of_ble_eq_true rfl) dL_isWhole_173 ⟨by show (((((1500 + 10 * i3) + 1) + 1) + 1) + 1) + 1 ≤ 1700; omega, by show (((((13000 + 60 * i3) + 6) + 6) + 6) + 6) + 6 ≤ 14500; omega⟩) hA hP hD hS (isC := [0, 1, 2, 3, 4, 5, 6, 7, 8, 9]) rfl [] [0, 1, 2, 3, 4, 5, 6, 7, 8, 9] (br := []) (bs2 := fun u => OB E X hs w g g2 hg nx ct u) rfl (by decide) (fun _ => rfl) (by decide) (fun r j_100 H locs hw hP hD hS => ?_)
                      obtain ⟨hw, hj_101⟩ := hw
                      refine tp_i hw ?_
                      refine tp_i (wf_in hmc (by omega)) ?_
                      refine lv_aload_n hx hb dL_isWhole_176 rfl (lv_at hl 2 rfl) ?_
                      refine lv_iload hx hb dL_isWhole_177 (lv_at hl 0 rfl) ?_
                      refine run_i (S := JT) (run_SX (As := [.ref (X 0 0), .int (nI rb)]) (rest := [.int (nI (g 0 ra))]) (bs := OB E X hs w g g2 hg nx ct j_100) (cb := OB E X hs w g g2 hg nx ct j_100) hx hb hml hown hts hK hZ hDD hA (c_L_shares l hst E _ X hs w g g2 B hI hg nx ct hnx hct j_100 hj_101 (nI rb)) l_L_209 rfl ⟨⟨rfl, rfl⟩, Nat.le_of_ble_eq_true rfl, Nat.le_of_ble_eq_true rfl⟩ [0, 1, 2, 3, 4, 5, 6, 7, 8, 9] rfl (by decide) hP hD hS hl.1 rfl (Nat.le_of_ble_eq_true rfl) dL_isWhole_179 ⟨by show ((((((1500 + 10 * i3) + 1) + 1) + 1) + 1) + 1) + 1 ≤ 1700; omega, by show ((((((13000 + 60 * i3) + 6) + 6) + 6) + 6) + 6) + 6 ≤ 14500; omega⟩) hA hP hD hS (isC := [0, 1, 2, 3, 4, 5, 6, 7, 8, 9]) rfl [] [0, 1, 2, 3, 4, 5, 6, 7, 8, 9] (br := []) (bs2 := fun u => OB E X hs w g g2 hg nx ct u) rfl (by decide) (fun _ => rfl) (by decide) (fun r j_102 H locs hw hP hD hS => ?_)
                      obtain ⟨hw, hj_103⟩ := hw
                      refine tp_i hw ?_
                      refine tp_i (wf_in hmc (by omega)) ?_
                      refine nv_icmp_ne (X := ((g 0 ra : Nat) : Int)) (Y := ((g 0 rb : Nat) : Int)) hx hb (nI_toInt (by omega)) (nI_toInt (by omega)) (tgt := 224) dL_isWhole_182 (by decide) (fun c_104 => ?_) (fun c_104 => ?_)
                      · skip
                        refine lv_iinc (v := nI (i3 + 1)) (lv' := [(10, .int (nI (i3 + 1))), (12, .int (nI rb)), (11, .int (nI ra)), (0, .ref (X 0 0)), (1, .ref (E.2.2 202)), (2, .int (nI k0)), (3, .int (bI ba)), (4, .int (nI (g 8 0))), (5, .int (nI (allSh g))), (6, .int (nI (pursN g))), (7, .int (nI (sm (dv g) (g 8 0)))), (8, .long (lN (chA g (g 8 0))))]) hx hb dL_isWhole_224 hl (k := 11) rfl (nI_add i3 1) (by decide) rfl (fun ls hl => ?_)
                        refine lv_goto (tgt := 130) hx hb dL_isWhole_227 (by decide) ?_
                        exact W_widen (by omega) (by omega) (ih130 (i3 + 1) j_102 (by omega) (by omega) hj_103 (by omega) _ _ _ hP hD hS (lv_sub hl [3, 4, 5, 6, 7, 8, 9, 10, 11, 0] rfl))
                      · skip
                        refine lv_aload_n hx hb dL_isWhole_185 rfl (lv_at hl 2 rfl) ?_
                        refine lv_iload hx hb dL_isWhole_186 (lv_at hl 1 rfl) ?_
                        refine run_i (S := JT) (run_SX (As := [.ref (X 0 0), .int (nI ra)]) (rest := []) (bs := OB E X hs w g g2 hg nx ct j_102) (cb := OB E X hs w g g2 hg nx ct j_102) hx hb hml hown hts hK hZ hDD hA (c_L_purse l hst E _ X hs w g g2 B hI hg nx ct hnx hct j_102 hj_103 (nI ra)) l_L_207 rfl ⟨⟨rfl, rfl⟩, Nat.le_of_ble_eq_true rfl, Nat.le_of_ble_eq_true rfl⟩ [0, 1, 2, 3, 4, 5, 6, 7, 8, 9] rfl (by decide) hP hD hS hl.1 rfl (Nat.le_of_ble_eq_true rfl) dL_isWhole_188 ⟨by show (((((((1500 + 10 * i3) + 1) + 1) + 1) + 1) + 1) + 1) + 1 ≤ 1700; omega, by show (((((((13000 + 60 * i3) + 6) + 6) + 6) + 6) + 6) + 6) + 6 ≤ 14500; omega⟩) hA hP hD hS (isC := [0, 1, 2, 3, 4, 5, 6, 7, 8, 9]) rfl [] [0, 1, 2, 3, 4, 5, 6, 7, 8, 9] (br := []) (bs2 := fun u => OB E X hs w g g2 hg nx ct u) rfl (by decide) (fun _ => rfl) (by decide) (fun r j_105 H locs hw hP hD hS => ?_)
                        obtain ⟨hw, hj_106⟩ := hw
                        refine tp_i hw ?_
                        refine tp_i (wf_in hmc (by omega)) ?_
                        refine lv_aload_n hx hb dL_isWhole_191 rfl (lv_at hl 2 rfl) ?_
                        refine lv_iload hx hb dL_isWhole_192 (lv_at hl 0 rfl) ?_
                        refine run_i (S := JT) (run_SX (As := [.ref (X 0 0), .int (nI rb)]) (rest := [.int (nI (g 5 ra))]) (bs := OB E X hs w g g2 hg nx ct j_105) (cb := OB E X hs w g g2 hg nx ct j_105) hx hb hml hown hts hK hZ hDD hA (c_L_purse l hst E _ X hs w g g2 B hI hg nx ct hnx hct j_105 hj_106 (nI rb)) l_L_207 rfl ⟨⟨rfl, rfl⟩, Nat.le_of_ble_eq_true rfl, Nat.le_of_ble_eq_true rfl⟩ [0, 1, 2, 3, 4, 5, 6, 7, 8, 9] rfl (by decide) hP hD hS hl.1 rfl (Nat.le_of_ble_eq_true rfl) dL_isWhole_194 ⟨by show ((((((((1500 + 10 * i3) + 1) + 1) + 1) + 1) + 1) + 1) + 1) + 1 ≤ 1700; omega, by show ((((((((13000 + 60 * i3) + 6) + 6) + 6) + 6) + 6) + 6) + 6) + 6 ≤ 14500; omega⟩) hA hP hD hS (isC := [0, 1, 2, 3, 4, 5, 6, 7, 8, 9]) rfl [] [0, 1, 2, 3, 4, 5, 6, 7, 8, 9] (br := []) (bs2 := fun u => OB E X hs w g g2 hg nx ct u) rfl (by decide) (fun _ => rfl) (by decide) (fun r j_107 H locs hw hP hD hS => ?_)
                        obtain ⟨hw, hj_108⟩ := hw
                        refine tp_i hw ?_
                        refine tp_i (wf_in hmc (by omega)) ?_
                        refine nv_icmp_lt (X := ((g 5 ra : Nat) : Int)) (Y := ((g 5 rb : Nat) : Int)) hx hb (nI_toInt (by omega)) (nI_toInt (by omega)) (tgt := 222) dL_isWhole_197 (by decide) (fun c_109 => ?_) (fun c_109 => ?_)
                        · exact absurd c_109 (by omega)
                        · skip
                          refine lv_aload_n hx hb dL_isWhole_200 rfl (lv_at hl 2 rfl) ?_
                          refine lv_iload hx hb dL_isWhole_201 (lv_at hl 1 rfl) ?_
                          refine run_i (S := JT) (run_SX (As := [.ref (X 0 0), .int (nI ra)]) (rest := []) (bs := OB E X hs w g g2 hg nx ct j_107) (cb := OB E X hs w g g2 hg nx ct j_107) hx hb hml hown hts hK hZ hDD hA (c_L_purse l hst E _ X hs w g g2 B hI hg nx ct hnx hct j_107 hj_108 (nI ra)) l_L_207 rfl ⟨⟨rfl, rfl⟩, Nat.le_of_ble_eq_true rfl, Nat.le_of_ble_eq_true rfl⟩ [0, 1, 2, 3, 4, 5, 6, 7, 8, 9] rfl (by decide) hP hD hS hl.1 rfl (Nat.le_of_ble_eq_true rfl) dL_isWhole_203 ⟨by show (((((((((1500 + 10 * i3) + 1) + 1) + 1) + 1) + 1) + 1) + 1) + 1) + 1 ≤ 1700; omega, by show (((((((((13000 + 60 * i3) + 6) + 6) + 6) + 6) + 6) + 6) + 6) + 6) + 6 ≤ 14500; omega⟩) hA hP hD hS (isC := [0, 1, 2, 3, 4, 5, 6, 7, 8, 9]) rfl [] [0, 1, 2, 3, 4, 5, 6, 7, 8, 9] (br := []) (bs2 := fun u => OB E X hs w g g2 hg nx ct u) rfl (by decide) (fun _ => rfl) (by decide) (fun r j_110 H locs hw hP hD hS => ?_)
                          obtain ⟨hw, hj_111⟩ := hw
                          refine tp_i hw ?_
                          refine tp_i (wf_in hmc (by omega)) ?_
                          refine lv_aload_n hx hb dL_isWhole_206 rfl (lv_at hl 2 rfl) ?_
                          refine lv_iload hx hb dL_isWhole_207 (lv_at hl 0 rfl) ?_
                          refine run_i (S := JT) (run_SX (As := [.ref (X 0 0), .int (nI rb)]) (rest := [.int (nI (g 5 ra))]) (bs := OB E X hs w g g2 hg nx ct j_110) (cb := OB E X hs w g g2 hg nx ct j_110) hx hb hml hown hts hK hZ hDD hA (c_L_purse l hst E _ X hs w g g2 B hI hg nx ct hnx hct j_110 hj_111 (nI rb)) l_L_207 rfl ⟨⟨rfl, rfl⟩, Nat.le_of_ble_eq_true rfl, Nat.le_of_ble_eq_true rfl⟩ [0, 1, 2, 3, 4, 5, 6, 7, 8, 9] rfl (by decide) hP hD hS hl.1 rfl (Nat.le_of_ble_eq_true rfl) dL_isWhole_209 ⟨by show ((((((((((1500 + 10 * i3) + 1) + 1) + 1) + 1) + 1) + 1) + 1) + 1) + 1) + 1 ≤ 1700; omega, by show ((((((((((13000 + 60 * i3) + 6) + 6) + 6) + 6) + 6) + 6) + 6) + 6) + 6) + 6 ≤ 14500; omega⟩) hA hP hD hS (isC := [0, 1, 2, 3, 4, 5, 6, 7, 8, 9]) rfl [] [0, 1, 2, 3, 4, 5, 6, 7, 8, 9] (br := []) (bs2 := fun u => OB E X hs w g g2 hg nx ct u) rfl (by decide) (fun _ => rfl) (by decide) (fun r j_112 H locs hw hP hD hS => ?_)
                          obtain ⟨hw, hj_113⟩ := hw
                          refine tp_i hw ?_
                          refine tp_i (wf_in hmc (by omega)) ?_
                          refine nv_icmp_ne (X := ((g 5 ra : Nat) : Int)) (Y := ((g 5 rb : Nat) : Int)) hx hb (nI_toInt (by omega)) (nI_toInt (by omega)) (tgt := 224) dL_isWhole_212 (by decide) (fun c_114 => ?_) (fun c_114 => ?_)
                          · skip
                            refine lv_iinc (v := nI (i3 + 1)) (lv' := [(10, .int (nI (i3 + 1))), (12, .int (nI rb)), (11, .int (nI ra)), (0, .ref (X 0 0)), (1, .ref (E.2.2 202)), (2, .int (nI k0)), (3, .int (bI ba)), (4, .int (nI (g 8 0))), (5, .int (nI (allSh g))), (6, .int (nI (pursN g))), (7, .int (nI (sm (dv g) (g 8 0)))), (8, .long (lN (chA g (g 8 0))))]) hx hb dL_isWhole_224 hl (k := 11) rfl (nI_add i3 1) (by decide) rfl (fun ls hl => ?_)
                            refine lv_goto (tgt := 130) hx hb dL_isWhole_227 (by decide) ?_
                            exact W_widen (by omega) (by omega) (ih130 (i3 + 1) j_112 (by omega) (by omega) hj_113 (by omega) _ _ _ hP hD hS (lv_sub hl [3, 4, 5, 6, 7, 8, 9, 10, 11, 0] rfl))
                          · skip
                            refine lv_iload hx hb dL_isWhole_215 (lv_at hl 1 rfl) ?_
                            refine lv_iload hx hb dL_isWhole_217 (lv_at hl 0 rfl) ?_
                            refine nv_icmp_le (X := ((ra : Nat) : Int)) (Y := ((rb : Nat) : Int)) hx hb (nI_toInt (by omega)) (nI_toInt (by omega)) (tgt := 224) dL_isWhole_219 (by decide) (fun c_115 => ?_) (fun c_115 => ?_)
                            · skip
                              refine lv_iinc (v := nI (i3 + 1)) (lv' := [(10, .int (nI (i3 + 1))), (12, .int (nI rb)), (11, .int (nI ra)), (0, .ref (X 0 0)), (1, .ref (E.2.2 202)), (2, .int (nI k0)), (3, .int (bI ba)), (4, .int (nI (g 8 0))), (5, .int (nI (allSh g))), (6, .int (nI (pursN g))), (7, .int (nI (sm (dv g) (g 8 0)))), (8, .long (lN (chA g (g 8 0))))]) hx hb dL_isWhole_224 hl (k := 11) rfl (nI_add i3 1) (by decide) rfl (fun ls hl => ?_)
                              refine lv_goto (tgt := 130) hx hb dL_isWhole_227 (by decide) ?_
                              exact W_widen (by omega) (by omega) (ih130 (i3 + 1) j_112 (by omega) (by omega) hj_113 (by omega) _ _ _ hP hD hS (lv_sub hl [3, 4, 5, 6, 7, 8, 9, 10, 11, 0] rfl))
                            · exact absurd c_115 (by omega)
              exact W_widen (by omega) (by omega) (loop130 _ 1 jb (by omega) (by omega) hjb (Nat.lt_succ_self _) _ _ _ hP hD hS (lv_sub hl [1, 2, 3, 4, 5, 6, 7, 8, 9, 0] rfl))
            · skip
              refine lv_iload_n hx hb dL_isWhole_90 rfl (lv_at hl 3 rfl) ?_
              refine bv_if_ne hx hb (tgt := 108) dL_isWhole_91 (by decide) (fun c_116 => ?_) (fun c_116 => ?_)
              · skip
                refine lv_aload_n hx hb dL_isWhole_108 rfl (lv_at hl 0 rfl) ?_
                refine lv_iload hx hb dL_isWhole_109 (lv_at hl 9 rfl) ?_
                refine lv_iload hx hb dL_isWhole_111 (lv_at hl 5 rfl) ?_
                refine run_i (S := JT) (run_Sx (As := [.ref (X 0 0), .int (nI i2), .int (nI (allSh g))]) (rest := []) (bs := OB E X hs w g g2 hg nx ct jb) (cb := OB E X hs w g g2 hg nx ct jb) hx hb hml hown hts hK hZ hDD hA (c_L_isMember l hst E _ X hs w g g2 B hI hg nx ct hnx hct jb hjb i2 (by omega)) l_L_319 rfl ⟨⟨rfl, rfl⟩, Nat.le_of_ble_eq_true rfl, Nat.le_of_ble_eq_true rfl⟩ [0, 1, 2, 3, 4, 5, 6, 7, 8, 9] rfl (by decide) hP hD hS hl.1 rfl (Nat.le_of_ble_eq_true rfl) dL_isWhole_113 ⟨by show (40 + 170 * i2) + 170 ≤ 1700; omega, by show (400 + 1440 * i2) + 1440 ≤ 14500; omega⟩) hA hP hD hS (isC := [0, 1, 2, 3, 4, 5, 6, 7, 8, 9]) rfl [] [0, 1, 2, 3, 4, 5, 6, 7, 8, 9] (br := []) (bs2 := fun u => OB E X hs w g g2 hg nx ct u) rfl (by decide) (fun _ => rfl) (by decide) (fun r j_117 H locs hw hP hD hS => ?_)
                obtain ⟨hw, hj_118⟩ := hw
                subst hw
                refine nv_if_ne (X := ((1 : Nat) : Int)) hx hb (nI_toInt (by omega)) (tgt := 121) dL_isWhole_116 (by decide) (fun c_119 => ?_) (fun c_119 => ?_)
                · skip
                  refine lv_iinc (v := nI (i2 + 1)) (lv' := [(10, .int (nI (i2 + 1))), (0, .ref (X 0 0)), (1, .ref (E.2.2 202)), (2, .int (nI k0)), (3, .int (bI ba)), (4, .int (nI (g 8 0))), (5, .int (nI (allSh g))), (6, .int (nI (pursN g))), (7, .int (nI (sm (dv g) (g 8 0)))), (8, .long (lN (chA g (g 8 0))))]) hx hb dL_isWhole_121 hl (k := 9) rfl (nI_add i2 1) (by decide) rfl (fun ls hl => ?_)
                  refine lv_goto (tgt := 83) hx hb dL_isWhole_124 (by decide) ?_
                  exact W_widen (by omega) (by omega) (ih83 (i2 + 1) j_117 (by omega) hj_118 (by omega) _ _ _ hP hD hS (lv_sub hl [1, 2, 3, 4, 5, 6, 7, 8, 9, 0] rfl))
                · exact absurd c_119 (by omega)
              · skip
                refine lv_iload hx hb dL_isWhole_94 (lv_at hl 9 rfl) ?_
                refine lv_aload_n hx hb dL_isWhole_96 rfl (lv_at hl 1 rfl) ?_
                refine lv_iload_n hx hb dL_isWhole_97 rfl (lv_at hl 2 rfl) ?_
                refine lv_iconst (v := nI 1) hx hb dL_isWhole_98 (by decide) ?_
                refine nv_iadd hx hb dL_isWhole_99 ?_
                refine lv_bipush (v := nI 8) hx hb dL_isWhole_100 (by decide) ?_
                refine run_i (S := Nat) (run_S (As := [.ref (E.2.2 202), .int (nI (k0 + 1)), .int (nI 8)]) (rest := [.int (nI i2)]) (bs := OB E X hs w g g2 hg nx ct jb) (cb := []) hx hb hml hown hts hK hZ hA (c_L_pick l E _ hL (k0 + 1) 8 (by omega) (by omega) (by omega)) l_L_176 rfl ⟨⟨rfl, rfl⟩, Nat.le_of_ble_eq_true rfl, Nat.le_of_ble_eq_true rfl⟩ [] rfl (by decide) hP hD hS hl.1 rfl (Nat.le_of_ble_eq_true rfl) dL_isWhole_102 ⟨by show (40 + 170 * i2) + 0 ≤ 1700; omega, by show (400 + 1440 * i2) + 0 ≤ 14500; omega⟩) hA hP hD hS (isC := []) rfl [0, 1, 2, 3, 4, 5, 6, 7, 8, 9] [0, 1, 2, 3, 4, 5, 6, 7, 8, 9] (br := OB E X hs w g g2 hg nx ct jb) (bs2 := fun _ => OB E X hs w g g2 hg nx ct jb) rfl (by decide) (fun _ => rfl) (by decide) (fun r v_120 H locs hw hP hD hS => ?_)
                obtain ⟨hw, hv_120⟩ := hw
                subst hw
                refine nv_icmp_ne (X := ((i2 : Nat) : Int)) (Y := ((v_120 : Nat) : Int)) hx hb (nI_toInt (by omega)) (nI_toInt (by omega)) (tgt := 121) dL_isWhole_105 (by decide) (fun c_121 => ?_) (fun c_121 => ?_)
                · skip
                  refine lv_iinc (v := nI (i2 + 1)) (lv' := [(10, .int (nI (i2 + 1))), (0, .ref (X 0 0)), (1, .ref (E.2.2 202)), (2, .int (nI k0)), (3, .int (bI ba)), (4, .int (nI (g 8 0))), (5, .int (nI (allSh g))), (6, .int (nI (pursN g))), (7, .int (nI (sm (dv g) (g 8 0)))), (8, .long (lN (chA g (g 8 0))))]) hx hb dL_isWhole_121 hl (k := 9) rfl (nI_add i2 1) (by decide) rfl (fun ls hl => ?_)
                  refine lv_goto (tgt := 83) hx hb dL_isWhole_124 (by decide) ?_
                  exact W_widen (by omega) (by omega) (ih83 (i2 + 1) jb (by omega) hjb (by omega) _ _ _ hP hD hS (lv_sub hl [1, 2, 3, 4, 5, 6, 7, 8, 9, 0] rfl))
                · skip
                  refine lv_aload_n hx hb dL_isWhole_108 rfl (lv_at hl 0 rfl) ?_
                  refine lv_iload hx hb dL_isWhole_109 (lv_at hl 9 rfl) ?_
                  refine lv_iload hx hb dL_isWhole_111 (lv_at hl 5 rfl) ?_
                  refine run_i (S := JT) (run_Sx (As := [.ref (X 0 0), .int (nI i2), .int (nI (allSh g))]) (rest := []) (bs := OB E X hs w g g2 hg nx ct jb) (cb := OB E X hs w g g2 hg nx ct jb) hx hb hml hown hts hK hZ hDD hA (c_L_isMember l hst E _ X hs w g g2 B hI hg nx ct hnx hct jb hjb i2 (by omega)) l_L_319 rfl ⟨⟨rfl, rfl⟩, Nat.le_of_ble_eq_true rfl, Nat.le_of_ble_eq_true rfl⟩ [0, 1, 2, 3, 4, 5, 6, 7, 8, 9] rfl (by decide) hP hD hS hl.1 rfl (Nat.le_of_ble_eq_true rfl) dL_isWhole_113 ⟨by show (40 + 170 * i2) + 170 ≤ 1700; omega, by show (400 + 1440 * i2) + 1440 ≤ 14500; omega⟩) hA hP hD hS (isC := [0, 1, 2, 3, 4, 5, 6, 7, 8, 9]) rfl [] [0, 1, 2, 3, 4, 5, 6, 7, 8, 9] (br := []) (bs2 := fun u => OB E X hs w g g2 hg nx ct u) rfl (by decide) (fun _ => rfl) (by decide) (fun r j_122 H locs hw hP hD hS => ?_)
                  obtain ⟨hw, hj_123⟩ := hw
                  subst hw
                  refine nv_if_ne (X := ((1 : Nat) : Int)) hx hb (nI_toInt (by omega)) (tgt := 121) dL_isWhole_116 (by decide) (fun c_124 => ?_) (fun c_124 => ?_)
                  · skip
                    refine lv_iinc (v := nI (i2 + 1)) (lv' := [(10, .int (nI (i2 + 1))), (0, .ref (X 0 0)), (1, .ref (E.2.2 202)), (2, .int (nI k0)), (3, .int (bI ba)), (4, .int (nI (g 8 0))), (5, .int (nI (allSh g))), (6, .int (nI (pursN g))), (7, .int (nI (sm (dv g) (g 8 0)))), (8, .long (lN (chA g (g 8 0))))]) hx hb dL_isWhole_121 hl (k := 9) rfl (nI_add i2 1) (by decide) rfl (fun ls hl => ?_)
                    refine lv_goto (tgt := 83) hx hb dL_isWhole_124 (by decide) ?_
                    exact W_widen (by omega) (by omega) (ih83 (i2 + 1) j_122 (by omega) hj_123 (by omega) _ _ _ hP hD hS (lv_sub hl [1, 2, 3, 4, 5, 6, 7, 8, 9, 0] rfl))
                  · exact absurd c_124 (by omega)
        exact W_widen (by omega) (by omega) (loop83 _ 0 ja (by omega) hja (Nat.lt_succ_self _) _ _ _ hP hD hS (lv_sub hl [1, 2, 3, 4, 5, 6, 7, 8, 9, 0] rfl))
      · skip
        have hbi := hI.mem (m := i1) (by omega)
        have hs0 : sm (g 0) (i1 + 1) ≤ sm (g 0) (g 8 0) := sm_mono (by omega)
        have hs5 : sm (g 5) (i1 + 1) ≤ sm (g 5) 8 := sm_mono (by omega)
        have hsd : sm (dv g) (i1 + 1) ≤ sm (dv g) (g 8 0) := sm_mono (by omega)
        have hds := dv_sum hI (show 0 < g 8 0 by omega)
        have hal : sm (g 0) (g 8 0) = allSh g := rfl
        have hu0 : sm (g 0) (i1 + 1) = sm (g 0) i1 + g 0 i1 := rfl
        have hu5 : sm (g 5) (i1 + 1) = sm (g 5) i1 + g 5 i1 := rfl
        have hud : sm (dv g) (i1 + 1) = sm (dv g) i1 + dv g i1 := rfl
        refine lv_iload hx hb dL_isWhole_30 (lv_at hl 5 rfl) ?_
        refine lv_aload_n hx hb dL_isWhole_32 rfl (lv_at hl 0 rfl) ?_
        refine lv_iload hx hb dL_isWhole_33 (lv_at hl 9 rfl) ?_
        refine run_i (S := JT) (run_SX (As := [.ref (X 0 0), .int (nI i1)]) (rest := [.int (nI (sm (g 0) i1))]) (bs := OB E X hs w g g2 hg nx ct ja) (cb := OB E X hs w g g2 hg nx ct ja) hx hb hml hown hts hK hZ hDD hA (c_L_shares l hst E _ X hs w g g2 B hI hg nx ct hnx hct ja hja (nI i1)) l_L_209 rfl ⟨⟨rfl, rfl⟩, Nat.le_of_ble_eq_true rfl, Nat.le_of_ble_eq_true rfl⟩ [0, 1, 2, 3, 4, 5, 6, 7, 8, 9] rfl (by decide) hP hD hS hl.1 rfl (Nat.le_of_ble_eq_true rfl) dL_isWhole_35 ⟨by show (0 + 4 * i1) + 1 ≤ 1700; omega, by show (0 + 24 * i1) + 6 ≤ 14500; omega⟩) hA hP hD hS (isC := [0, 1, 2, 3, 4, 5, 6, 7, 8, 9]) rfl [] [0, 1, 2, 3, 4, 5, 6, 7, 8, 9] (br := []) (bs2 := fun u => OB E X hs w g g2 hg nx ct u) rfl (by decide) (fun _ => rfl) (by decide) (fun r j_125 H locs hw hP hD hS => ?_)
        obtain ⟨hw, hj_126⟩ := hw
        refine tp_i hw ?_
        refine tp_i (wf_in hmc (by omega)) ?_
        refine nv_iadd hx hb dL_isWhole_38 ?_
        refine lv_istore (lv' := [(5, .int (nI (sm (g 0) i1 + (g 0 i1)))), (0, .ref (X 0 0)), (1, .ref (E.2.2 202)), (2, .int (nI k0)), (3, .int (bI ba)), (4, .int (nI (g 8 0))), (6, .int (nI (sm (g 5) i1))), (7, .int (nI (sm (dv g) i1))), (8, .long (lN (chA g i1))), (10, .int (nI i1))]) hx hb dL_isWhole_39 hl (by decide) rfl (fun ls hl => ?_)
        refine lv_iload hx hb dL_isWhole_41 (lv_at hl 6 rfl) ?_
        refine lv_aload_n hx hb dL_isWhole_43 rfl (lv_at hl 1 rfl) ?_
        refine lv_iload hx hb dL_isWhole_44 (lv_at hl 9 rfl) ?_
        refine run_i (S := JT) (run_SX (As := [.ref (X 0 0), .int (nI i1)]) (rest := [.int (nI (sm (g 5) i1))]) (bs := OB E X hs w g g2 hg nx ct j_125) (cb := OB E X hs w g g2 hg nx ct j_125) hx hb hml hown hts hK hZ hDD hA (c_L_purse l hst E _ X hs w g g2 B hI hg nx ct hnx hct j_125 hj_126 (nI i1)) l_L_207 rfl ⟨⟨rfl, rfl⟩, Nat.le_of_ble_eq_true rfl, Nat.le_of_ble_eq_true rfl⟩ [0, 1, 2, 3, 4, 5, 6, 7, 8, 9] rfl (by decide) hP hD hS hl.1 rfl (Nat.le_of_ble_eq_true rfl) dL_isWhole_46 ⟨by show ((0 + 4 * i1) + 1) + 1 ≤ 1700; omega, by show ((0 + 24 * i1) + 6) + 6 ≤ 14500; omega⟩) hA hP hD hS (isC := [0, 1, 2, 3, 4, 5, 6, 7, 8, 9]) rfl [] [0, 1, 2, 3, 4, 5, 6, 7, 8, 9] (br := []) (bs2 := fun u => OB E X hs w g g2 hg nx ct u) rfl (by decide) (fun _ => rfl) (by decide) (fun r j_127 H locs hw hP hD hS => ?_)
        obtain ⟨hw, hj_128⟩ := hw
        refine tp_i hw ?_
        refine tp_i (wf_in hmc (by omega)) ?_
        refine nv_iadd hx hb dL_isWhole_49 ?_
        refine lv_istore (lv' := [(6, .int (nI (sm (g 5) i1 + (g 5 i1)))), (5, .int (nI (sm (g 0) i1 + (g 0 i1)))), (0, .ref (X 0 0)), (1, .ref (E.2.2 202)), (2, .int (nI k0)), (3, .int (bI ba)), (4, .int (nI (g 8 0))), (7, .int (nI (sm (dv g) i1))), (8, .long (lN (chA g i1))), (10, .int (nI i1))]) hx hb dL_isWhole_50 hl (by decide) rfl (fun ls hl => ?_)
        refine lv_iload hx hb dL_isWhole_52 (lv_at hl 7 rfl) ?_
        refine lv_aload_n hx hb dL_isWhole_54 rfl (lv_at hl 2 rfl) ?_
        refine lv_iload hx hb dL_isWhole_55 (lv_at hl 9 rfl) ?_
        refine run_i (S := JT) (run_SX (As := [.ref (X 0 0), .int (nI i1)]) (rest := [.int (nI (sm (dv g) i1))]) (bs := OB E X hs w g g2 hg nx ct j_127) (cb := OB E X hs w g g2 hg nx ct j_127) hx hb hml hown hts hK hZ hDD hA (c_L_dividend l hst E _ X hs w g g2 B hI hg nx ct hnx hct j_127 hj_128 (nI i1)) l_L_205 rfl ⟨⟨rfl, rfl⟩, Nat.le_of_ble_eq_true rfl, Nat.le_of_ble_eq_true rfl⟩ [0, 1, 2, 3, 4, 5, 6, 7, 8, 9] rfl (by decide) hP hD hS hl.1 rfl (Nat.le_of_ble_eq_true rfl) dL_isWhole_57 ⟨by show (((0 + 4 * i1) + 1) + 1) + 1 ≤ 1700; omega, by show (((0 + 24 * i1) + 6) + 6) + 6 ≤ 14500; omega⟩) hA hP hD hS (isC := [0, 1, 2, 3, 4, 5, 6, 7, 8, 9]) rfl [] [0, 1, 2, 3, 4, 5, 6, 7, 8, 9] (br := []) (bs2 := fun u => OB E X hs w g g2 hg nx ct u) rfl (by decide) (fun _ => rfl) (by decide) (fun r j_129 H locs hw hP hD hS => ?_)
        obtain ⟨hw, hj_130⟩ := hw
        refine tp_i hw ?_
        refine tp_i (wf_in hmc (by omega)) ?_
        refine nv_iadd hx hb dL_isWhole_60 ?_
        refine lv_istore (lv' := [(7, .int (nI (sm (dv g) i1 + (dv g i1)))), (6, .int (nI (sm (g 5) i1 + (g 5 i1)))), (5, .int (nI (sm (g 0) i1 + (g 0 i1)))), (0, .ref (X 0 0)), (1, .ref (E.2.2 202)), (2, .int (nI k0)), (3, .int (bI ba)), (4, .int (nI (g 8 0))), (8, .long (lN (chA g i1))), (10, .int (nI i1))]) hx hb dL_isWhole_61 hl (by decide) rfl (fun ls hl => ?_)
        refine lv_lload hx hb dL_isWhole_63 (lv_at hl 8 rfl) ?_
        refine lv_aload_n hx hb dL_isWhole_65 rfl (lv_at hl 3 rfl) ?_
        refine lv_iload hx hb dL_isWhole_66 (lv_at hl 9 rfl) ?_
        refine run_l (S := JT) (run_SX (As := [.ref (X 0 0), .int (nI i1)]) (rest := [.long (lN (chA g i1))]) (bs := OB E X hs w g g2 hg nx ct j_129) (cb := OB E X hs w g g2 hg nx ct j_129) hx hb hml hown hts hK hZ hDD hA (c_L_dueBeats l hst E _ X hs w g g2 B hI hg nx ct hnx hct j_129 hj_130 (nI i1)) l_L_291 rfl ⟨⟨rfl, rfl⟩, Nat.le_of_ble_eq_true rfl, Nat.le_of_ble_eq_true rfl⟩ [0, 1, 2, 3, 4, 5, 6, 7, 8, 9] rfl (by decide) hP hD hS hl.1 rfl (Nat.le_of_ble_eq_true rfl) dL_isWhole_68 ⟨by show ((((0 + 4 * i1) + 1) + 1) + 1) + 1 ≤ 1700; omega, by show ((((0 + 24 * i1) + 6) + 6) + 6) + 6 ≤ 14500; omega⟩) hA hP hD hS (isC := [0, 1, 2, 3, 4, 5, 6, 7, 8, 9]) rfl [] [0, 1, 2, 3, 4, 5, 6, 7, 8, 9] (br := []) (bs2 := fun u => OB E X hs w g g2 hg nx ct u) rfl (by decide) (fun _ => rfl) (by decide) (fun r j_131 H locs hw hP hD hS => ?_)
        obtain ⟨hw, hj_132⟩ := hw
        refine tp_l hw ?_
        refine tp_l (wl_in hmc (by omega)) ?_
        refine nv_land hx hb (chA_lt _) (dlk_64 (Nat.le_refl _)) dL_isWhole_71 ?_
        refine lv_lstore (lv' := [(8, .long (lN (chA g i1 &&& dlk g i1 60))), (7, .int (nI (sm (dv g) i1 + (dv g i1)))), (6, .int (nI (sm (g 5) i1 + (g 5 i1)))), (5, .int (nI (sm (g 0) i1 + (g 0 i1)))), (0, .ref (X 0 0)), (1, .ref (E.2.2 202)), (2, .int (nI k0)), (3, .int (bI ba)), (4, .int (nI (g 8 0))), (10, .int (nI i1))]) hx hb dL_isWhole_72 hl (by decide) rfl (fun ls hl => ?_)
        refine lv_iinc (v := nI (i1 + 1)) (lv' := [(10, .int (nI (i1 + 1))), (8, .long (lN (chA g i1 &&& dlk g i1 60))), (7, .int (nI (sm (dv g) i1 + (dv g i1)))), (6, .int (nI (sm (g 5) i1 + (g 5 i1)))), (5, .int (nI (sm (g 0) i1 + (g 0 i1)))), (0, .ref (X 0 0)), (1, .ref (E.2.2 202)), (2, .int (nI k0)), (3, .int (bI ba)), (4, .int (nI (g 8 0)))]) hx hb dL_isWhole_74 hl (k := 9) rfl (nI_add i1 1) (by decide) rfl (fun ls hl => ?_)
        refine lv_goto (tgt := 23) hx hb dL_isWhole_77 (by decide) ?_
        exact W_widen (by omega) (by omega) (ih23 (i1 + 1) j_131 (by omega) hj_132 (by omega) _ _ _ hP hD hS (lv_sub hl [5, 6, 7, 8, 9, 4, 3, 2, 1, 0] rfl))
  exact W_widen (by omega) (by omega) (loop23 _ 0 j (by omega) hj (Nat.lt_succ_self _) _ _ _ hP hD hS (lv_sub hl [6, 7, 8, 9, 5, 4, 3, 2, 1, 0] rfl))
