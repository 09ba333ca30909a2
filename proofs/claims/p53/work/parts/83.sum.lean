abbrev rm_L_cell : Room := { frames := 0, cells := 0, slots := 0, locals := 0 }
set_option maxHeartbeats 8000000 in
set_option maxRecDepth 100000 in
theorem c_L_cell (l : Launch) (E : EE) (sz : Nat) (hL : E.2.2 203 ≤ 260) (n0 : Nat) (hn0 : n0 < 2147483648) : MI l yL_cell cL_cell 2 .int rm_L_cell [.ref (E.2.2 202), .int (nI n0)] E sz ([]) (fun (r : Int32) (_ : Unit) => True) (fun _ => []) 0 0 := by
  refine mi_go (by decide) (Nat.le_of_ble_eq_true rfl) ?_
  intro p e s m below meth c A Q ls hx hb hml hown hts hK hZ hA hsz hP hD hl hret
  have hS : va_S A s.heap s.heap [] := va_S.rf
  have hl : lv_has ls 2 [(0, .ref (E.2.2 202)), (1, .int (nI n0))] := hl
  refine lv_iload_n hx hb dL_cell_0 rfl (lv_at hl 1 rfl) ?_
  refine lv_aload_n hx hb dL_cell_1 rfl (lv_at hl 0 rfl) ?_
  refine va_slen hx hb hZ.2.2.2.2.2.1.2.2.1 hZ.2.2.2.2.2.1.2.2.lt hZ.2.2.2.2.2.1.2.2.2 hS dL_cell_2 ?_
  refine nv_icmp_ge (X := ((n0 : Nat) : Int)) (Y := ((E.2.2 203 : Nat) : Int)) hx hb (nI_toInt (by omega)) (nI_toInt (by omega)) (tgt := 12) dL_cell_3 (by decide) (fun c_1 => ?_) (fun c_1 => ?_)
  · skip
    refine lv_ldc (v := (40503 : Int32)) hx hb (own := RL) (index := 7) hown (hts _ q318) dL_cell_12 ?_
    refine lv_iload_n hx hb dL_cell_14 rfl (lv_at hl 1 rfl) ?_
    refine lv_imul hx hb dL_cell_15 ?_
    exact hret _ _ ((40503 : Int32) * (nI n0)) () _ _ hP hD hS rfl trivial dL_cell_16
  · skip
    refine lv_aload_n hx hb dL_cell_6 rfl (lv_at hl 0 rfl) ?_
    refine lv_iload_n hx hb dL_cell_7 rfl (lv_at hl 1 rfl) ?_
    refine va_sld hx hb hZ.2.2.2.2.2.1.2.2.1 hZ.2.2.2.2.2.1.2.2.lt hZ.2.2.2.2.2.1.2.2.2 hS (vp_in_nI (show n0 < E.2.2 203 by omega) (by omega)) dL_cell_8 ?_
    refine lv_topi (fun v_2 ev_2 => ?_)
    refine lv_goto (tgt := 16) hx hb dL_cell_9 (by decide) ?_
    exact hret _ _ v_2 () _ _ hP hD hS rfl trivial dL_cell_16
theorem i32_nI (x : Int32) : ∃ a, a < 2 ^ 32 ∧ x = nI a := by
  refine ⟨x.toBitVec.toNat, x.toBitVec.isLt, ?_⟩
  apply Int32.toBitVec_inj.1
  show x.toBitVec = BitVec.ofNat 32 x.toBitVec.toNat
  simp
abbrev rm_L_pick : Room := { frames := 1, cells := 0, slots := 0, locals := 21 }
set_option maxHeartbeats 8000000 in
set_option maxRecDepth 100000 in
theorem c_L_pick (l : Launch) (E : EE) (sz : Nat) (hL : E.2.2 203 ≤ 260) (n0 n1 : Nat) (hn0 : n0 < 2147483648) (hn1 : 0 < n1) (hn2 : n1 < 2147483648) : MI l yL_pick cL_pick 3 .int rm_L_pick [.ref (E.2.2 202), .int (nI n0), .int (nI n1)] E sz ([]) (fun (r : Int32) (u : Nat) => r = nI u ∧ u < n1) (fun u => []) 0 0 := by
  refine mi_go (by decide) (Nat.le_of_ble_eq_true rfl) ?_
  intro p e s m below meth c A Q ls hx hb hml hown hts hK hZ hA hsz hP hD hl hret
  have hS : va_S A s.heap s.heap [] := va_S.rf
  have hl : lv_has ls 3 [(0, .ref (E.2.2 202)), (1, .int (nI n0)), (2, .int (nI n1))] := hl
  refine lv_aload_n hx hb dL_pick_0 rfl (lv_at hl 0 rfl) ?_
  refine lv_iload_n hx hb dL_pick_1 rfl (lv_at hl 1 rfl) ?_
  refine run_i (S := Unit) (run_S (As := [.ref (E.2.2 202), .int (nI n0)]) (rest := []) (bs := []) (cb := []) hx hb hml hown hts hK hZ hA (c_L_cell l E _ hL n0 (by omega)) l_L_8 rfl ⟨⟨rfl, rfl⟩, Nat.le_of_ble_eq_true rfl, Nat.le_of_ble_eq_true rfl⟩ [] rfl (by decide) hP hD hS hl.1 rfl (Nat.le_of_ble_eq_true rfl) dL_pick_2 ⟨Nat.zero_le _, Nat.zero_le _⟩) hA hP hD hS (isC := []) rfl [] [] (br := []) (bs2 := fun _ => []) rfl (by decide) (fun _ => rfl) (by decide) (fun r u H locs hw hP hD hS => ?_)
  obtain ⟨v_1, hv_1, rfl⟩ := i32_nI r
  refine lv_iconst (v := nI 1) hx hb dL_pick_5 (by decide) ?_
  refine nv_iushr hx hb (by omega) (by omega) dL_pick_6 ?_
  refine lv_iload_n hx hb dL_pick_7 rfl (lv_at hl 2 rfl) ?_
  have hd9 : v_1 / 2 ^ 1 < 2 ^ 31 := by omega
  refine nv_irem hx hb hd9 (by omega) (by omega) dL_pick_8 ?_
  exact hret _ _ (nI ((v_1 / 2 ^ 1) % n1)) ((v_1 / 2 ^ 1) % n1) _ _ hP hD hS rfl ⟨rfl, Nat.mod_lt _ hn1⟩ dL_pick_9
abbrev rm_L_bits : Room := { frames := 0, cells := 0, slots := 0, locals := 0 }
set_option maxHeartbeats 8000000 in
set_option maxRecDepth 100000 in
theorem c_L_bits (l : Launch) (E : EE) (sz : Nat) (x : Nat) (hx64 : x < 2 ^ 64) : MI l yL_bits cL_bits 4 .int rm_L_bits [.long (lN x)] E sz ([]) (fun (r : Int32) (_ : Unit) => r = nI (bt60 x)) (fun _ => []) 0 0 := by
  refine mi_go (by decide) (Nat.le_of_ble_eq_true rfl) ?_
  intro p e s m below meth c A Q ls hx hb hml hown hts hK hZ hA hsz hP hD hl hret
  have hS : va_S A s.heap s.heap [] := va_S.rf
  have hl : lv_has ls 4 [(0, .long (lN x))] := hl
  refine lv_iconst (v := nI 0) hx hb dL_bits_0 (by decide) ?_
  refine lv_istore_n (lv' := [(2, .int (nI 0)), (0, .long (lN x))]) hx hb dL_bits_1 rfl hl (by decide) rfl (fun ls hl => ?_)
  refine lv_iconst (v := nI 0) hx hb dL_bits_2 (by decide) ?_
  refine lv_istore_n (lv' := [(3, .int (nI 0)), (2, .int (nI 0)), (0, .long (lN x))]) hx hb dL_bits_3 rfl hl (by decide) rfl (fun ls hl => ?_)
  have loop4 : ∀ (n : Nat) (i : Nat), (i ≤ 60) → 60 - i < n → ∀ (H : Heap) (locs : List Loc) (ls : Array Slot), va_P E.1 vwCl ([] : List va_W).flatten H → va_D A ([] : List va_W).flatten → va_S A s.heap H locs → lv_has ls 4 [(0, .long (lN x)), (2, .int (nI (sm (fun k => if x.testBit k = true then 1 else 0) i))), (3, .int (nI i))] → W p l e rm_L_bits s m ([.long (lN x)] : List Value).toArray below meth c H locs 0 0 Q (F0 m 4 ls []) := by
    intro n4
    induction n4 with
    | zero => intro i hi hn4; exact absurd hn4 (Nat.not_lt_zero _)
    | succ n4 ih4 =>
      intro i hi hn4 H locs ls hP hD hS hl
      refine lv_iload_n hx hb dL_bits_4 rfl (lv_at hl 2 rfl) ?_
      refine lv_bipush (v := nI 60) hx hb dL_bits_5 (by decide) ?_
      refine nv_icmp_ge (X := ((i : Nat) : Int)) (Y := ((60 : Nat) : Int)) hx hb (nI_toInt (by omega)) (nI_toInt (by omega)) (tgt := 34) dL_bits_7 (by decide) (fun c_1 => ?_) (fun c_1 => ?_)
      · skip
        refine lv_iload_n hx hb dL_bits_34 rfl (lv_at hl 1 rfl) ?_
        exact hret _ _ (nI (sm (fun k => if x.testBit k = true then 1 else 0) i)) () _ _ hP hD hS rfl (by rw [show i = 60 by omega]; rfl) dL_bits_35
      · skip
        refine lv_iload_n hx hb dL_bits_10 rfl (lv_at hl 1 rfl) ?_
        refine lv_lload_n hx hb dL_bits_11 rfl (lv_at hl 0 rfl) ?_
        refine lv_iload_n hx hb dL_bits_12 rfl (lv_at hl 2 rfl) ?_
        refine lv_lshr hx hb dL_bits_13 rfl ?_
        refine lv_lconst (v := lN 1) hx hb dL_bits_14 (by decide) ?_
        refine lv_land hx hb dL_bits_15 ?_
        refine tp_l (shr1 (by omega)) ?_
        refine lv_lconst (v := lN 1) hx hb dL_bits_16 (by decide) ?_
        refine W.lcmp hx hb dL_bits_17 ?_
        by_cases hb9 : x.testBit i = true
        · skip
          refine tp_i (show lg_cmp (lN (if x.testBit i = true then 1 else 0)) (lN 1) = nI 0 from by rw [if_pos hb9]; decide) ?_
          refine nv_if_ne (X := ((0 : Nat) : Int)) hx hb (nI_toInt (by omega)) (tgt := 25) dL_bits_18 (by decide) (fun c_2 => ?_) (fun c_2 => ?_)
          · exact absurd c_2 (by omega)
          · skip
            refine lv_iconst (v := nI 1) hx hb dL_bits_21 (by decide) ?_
            refine lv_goto (tgt := 26) hx hb dL_bits_22 (by decide) ?_
            refine nv_iadd hx hb dL_bits_26 ?_
            refine lv_istore_n (lv' := [(2, .int (nI (sm (fun k => if x.testBit k = true then 1 else 0) i + 1))), (0, .long (lN x)), (3, .int (nI i))]) hx hb dL_bits_27 rfl hl (by decide) rfl (fun ls hl => ?_)
            rw [show sm (fun k => if x.testBit k = true then 1 else 0) i + 1 = sm (fun k => if x.testBit k = true then 1 else 0) (i + 1) from by show _ = sm (fun k => if x.testBit k = true then 1 else 0) i + (if x.testBit i = true then 1 else 0); rw [if_pos hb9]] at hl
            refine lv_iinc (v := nI (i + 1)) (lv' := [(3, .int (nI (i + 1))), (2, .int (nI (sm (fun k => if x.testBit k = true then 1 else 0) (i + 1)))), (0, .long (lN x))]) hx hb dL_bits_28 hl (k := 2) rfl (nI_add i 1) (by decide) rfl (fun ls hl => ?_)
            refine lv_goto (tgt := 4) hx hb dL_bits_31 (by decide) ?_
            exact (ih4 (i + 1) (by omega) (by omega) _ _ _ hP hD hS (lv_sub hl [2, 1, 0] rfl))
        · skip
          refine tp_i (show lg_cmp (lN (if x.testBit i = true then 1 else 0)) (lN 1) = -1 from by rw [if_neg hb9]; decide) ?_
          refine nv_if_ne (X := (-1)) hx hb (by decide) (tgt := 25) dL_bits_18 (by decide) (fun c_3 => ?_) (fun c_3 => ?_)
          · skip
            refine lv_iconst (v := nI 0) hx hb dL_bits_25 (by decide) ?_
            refine nv_iadd hx hb dL_bits_26 ?_
            refine lv_istore_n (lv' := [(2, .int (nI (sm (fun k => if x.testBit k = true then 1 else 0) i + 0))), (0, .long (lN x)), (3, .int (nI i))]) hx hb dL_bits_27 rfl hl (by decide) rfl (fun ls hl => ?_)
            rw [show sm (fun k => if x.testBit k = true then 1 else 0) i + 0 = sm (fun k => if x.testBit k = true then 1 else 0) (i + 1) from by show _ = sm (fun k => if x.testBit k = true then 1 else 0) i + (if x.testBit i = true then 1 else 0); rw [if_neg hb9]] at hl
            refine lv_iinc (v := nI (i + 1)) (lv' := [(3, .int (nI (i + 1))), (2, .int (nI (sm (fun k => if x.testBit k = true then 1 else 0) (i + 1)))), (0, .long (lN x))]) hx hb dL_bits_28 hl (k := 2) rfl (nI_add i 1) (by decide) rfl (fun ls hl => ?_)
            refine lv_goto (tgt := 4) hx hb dL_bits_31 (by decide) ?_
            exact (ih4 (i + 1) (by omega) (by omega) _ _ _ hP hD hS (lv_sub hl [2, 1, 0] rfl))
          · exact absurd c_3 (by omega)
  exact (loop4 _ 0 (by omega) (Nat.lt_succ_self _) _ _ _ hP hD hS (lv_sub hl [2, 1, 0] rfl))
/-- what the law sums up of a state -/
def sumB (g : GG) : Int64 := (1009 : Int64) * (nI (g 8 1)).toInt64 + (101 : Int64) * (nI (g 8 2)).toInt64 + (31 : Int64) * (nI (g 8 3)).toInt64 + (7 : Int64) * (nI (g 8 4)).toInt64 + (3 : Int64) * (nI (g 8 6)).toInt64 + (nI (g 8 5)).toInt64
def sumA (g : GG) (v : Int64) (m : Nat) : Int64 := (31 : Int64) * v + (1009 : Int64) * (wf g (g 0) (nI m)).toInt64 + (101 : Int64) * (wf g (g 4) (nI m)).toInt64 + (31 : Int64) * (wf g (g 3) (nI m)).toInt64 + (7 : Int64) * (wf g (g 5) (nI m)).toInt64 + (wf g (g 6) (nI m)).toInt64
def sumD (g : GG) (m : Nat) : Int64 := wl g (nI m) - wl g (nI m) / (100003 : Int64) * (100003 : Int64)
def sumM (g : GG) : Nat → Int64
  | 0 => sumB g
  | m + 1 => (31 : Int64) * sumA g (sumM g m) m + sumD g m
def sumS (g : GG) : Nat → Int64
  | 0 => sumM g (g 8 0)
  | p + 1 => (31 : Int64) * sumS g p + (wsp g (nI p)).toInt64
def sumF (g : GG) : Int64 := sumS g 10
abbrev rm_L_sum : Room := { frames := 9, cells := 58, slots := 348, locals := 164 }
set_option maxHeartbeats 8000000 in
set_option maxRecDepth 100000 in
theorem c_L_sum (l : Launch) (hst : l.stackTraces = false) (E : EE) (sz : Nat) (X hs : Nat → Nat → Nat) (w : Nat → Nat) (g g2 : GG) (B : Nat) (hI : IB B g) (hg : Nat → GG) (nx ct : Nat) (hnx : nx < 8) (hct : ct ≤ 8) (j : JT) (hj : JV j) : MLx l yL_sum cL_sum 4 rm_L_sum [.ref (X 0 0)] E sz (OB E X hs w g g2 hg nx ct j) (fun (r : Int64) (u : JT) => r = sumF g ∧ JV u) (fun u => OB E X hs w g g2 hg nx ct u) 58 348 := by
  refine ml_gox (by decide) (Nat.le_of_ble_eq_true rfl) ?_
  intro p e s m below meth c A Q ls hx hb hml hown hts hK hZ hDD hA hsz hP hD hl hret
  have hS : va_S A s.heap s.heap [] := va_S.rf
  have hl : lv_has ls 4 [(0, .ref (X 0 0))] := hl
  have hmc := hI.mc
  refine lv_ldc2 (v := (1009 : Int64)) hx hb (own := RL) (index := 273) hown (hts _ qc1038) dL_sum_0 ?_
  refine lv_aload_n hx hb dL_sum_3 rfl (lv_at hl 0 rfl) ?_
  refine run_i (S := Unit) (run_V (As := []) (rest := [.long (1009 : Int64)]) (bs := OB E X hs w g g2 hg nx ct j) (cb := [coC E (X 0) (X 1) (X 2) (X 3) (X 4) (X 5) (X 6) (X 7) (X 8) w, stC E (X 1) g]) hx hb hml hown hts hK hZ hA (c_X5_beat l E _ (X 0) (X 1) (X 2) (X 3) (X 4) (X 5) (X 6) (X 7) (X 8) w g B hI) l_L_194 rfl ⟨⟨rfl, rfl⟩, Nat.le_of_ble_eq_true rfl, Nat.le_of_ble_eq_true rfl⟩ 9 rfl [0, 1] rfl (by decide) rfl hP hD hS hl.1 rfl (Nat.le_of_ble_eq_true rfl) dL_sum_4 ⟨by show 0 + 0 ≤ 58; omega, by show 0 + 0 ≤ 348; omega⟩) hA hP hD hS (isC := [0, 1]) rfl [2, 3, 4, 5, 6, 7, 8, 9] [8, 9, 0, 1, 2, 3, 4, 5, 6, 7] (br := [stC E (X 2) g2, stC E (X 3) j.1, hhC E (X 4) hs hg nx ct, diC E (X 5) j.2.1 j.2.2.1, grC E (X 6) j.2.2.2.1 j.2.2.2.2.1, prC E (X 7) j.2.2.2.2.2.1 j.2.2.2.2.2.2.1, sbO E (X 8) j.2.2.2.2.2.2.2.1 j.2.2.2.2.2.2.2.2.1 j.2.2.2.2.2.2.2.2.2.1, baC E j.2.2.2.2.2.2.2.1 j.2.2.2.2.2.2.2.2.2.2.1 j.2.2.2.2.2.2.2.2.2.2.2]) (bs2 := fun _ => OB E X hs w g g2 hg nx ct j) rfl (by decide) (fun _ => rfl) (by decide) (fun r u H locs hw hP hD hS => ?_)
  subst hw
  refine lv_i2l hx hb dL_sum_7 rfl ?_
  refine lv_lmul hx hb dL_sum_8 ?_
  refine lv_ldc2 (v := (101 : Int64)) hx hb (own := RL) (index := 275) hown (hts _ qc1039) dL_sum_9 ?_
  refine lv_aload_n hx hb dL_sum_12 rfl (lv_at hl 0 rfl) ?_
  refine run_i (S := Unit) (run_V (As := []) (rest := [.long (101 : Int64), .long ((1009 : Int64) * ((nI (g 8 1)).toInt64))]) (bs := OB E X hs w g g2 hg nx ct j) (cb := [coC E (X 0) (X 1) (X 2) (X 3) (X 4) (X 5) (X 6) (X 7) (X 8) w, stC E (X 1) g]) hx hb hml hown hts hK hZ hA (c_X5_surplus l E _ (X 0) (X 1) (X 2) (X 3) (X 4) (X 5) (X 6) (X 7) (X 8) w g B hI) l_L_197 rfl ⟨⟨rfl, rfl⟩, Nat.le_of_ble_eq_true rfl, Nat.le_of_ble_eq_true rfl⟩ 9 rfl [0, 1] rfl (by decide) rfl hP hD hS hl.1 rfl (Nat.le_of_ble_eq_true rfl) dL_sum_13 ⟨by show 0 + 0 ≤ 58; omega, by show 0 + 0 ≤ 348; omega⟩) hA hP hD hS (isC := [0, 1]) rfl [2, 3, 4, 5, 6, 7, 8, 9] [8, 9, 0, 1, 2, 3, 4, 5, 6, 7] (br := [stC E (X 2) g2, stC E (X 3) j.1, hhC E (X 4) hs hg nx ct, diC E (X 5) j.2.1 j.2.2.1, grC E (X 6) j.2.2.2.1 j.2.2.2.2.1, prC E (X 7) j.2.2.2.2.2.1 j.2.2.2.2.2.2.1, sbO E (X 8) j.2.2.2.2.2.2.2.1 j.2.2.2.2.2.2.2.2.1 j.2.2.2.2.2.2.2.2.2.1, baC E j.2.2.2.2.2.2.2.1 j.2.2.2.2.2.2.2.2.2.2.1 j.2.2.2.2.2.2.2.2.2.2.2]) (bs2 := fun _ => OB E X hs w g g2 hg nx ct j) rfl (by decide) (fun _ => rfl) (by decide) (fun r u H locs hw hP hD hS => ?_)
  subst hw
  refine lv_i2l hx hb dL_sum_16 rfl ?_
  refine lv_lmul hx hb dL_sum_17 ?_
  refine lv_ladd hx hb dL_sum_18 ?_
  refine lv_ldc2 (v := (31 : Int64)) hx hb (own := RL) (index := 277) hown (hts _ qc1040) dL_sum_19 ?_
  refine lv_aload_n hx hb dL_sum_22 rfl (lv_at hl 0 rfl) ?_
  refine run_i (S := Unit) (run_V (As := []) (rest := [.long (31 : Int64), .long (((1009 : Int64) * ((nI (g 8 1)).toInt64)) + ((101 : Int64) * ((nI (g 8 2)).toInt64)))]) (bs := OB E X hs w g g2 hg nx ct j) (cb := [coC E (X 0) (X 1) (X 2) (X 3) (X 4) (X 5) (X 6) (X 7) (X 8) w, stC E (X 1) g]) hx hb hml hown hts hK hZ hA (c_X5_houseTone l E _ (X 0) (X 1) (X 2) (X 3) (X 4) (X 5) (X 6) (X 7) (X 8) w g B hI) l_L_191 rfl ⟨⟨rfl, rfl⟩, Nat.le_of_ble_eq_true rfl, Nat.le_of_ble_eq_true rfl⟩ 9 rfl [0, 1] rfl (by decide) rfl hP hD hS hl.1 rfl (Nat.le_of_ble_eq_true rfl) dL_sum_23 ⟨by show 0 + 0 ≤ 58; omega, by show 0 + 0 ≤ 348; omega⟩) hA hP hD hS (isC := [0, 1]) rfl [2, 3, 4, 5, 6, 7, 8, 9] [8, 9, 0, 1, 2, 3, 4, 5, 6, 7] (br := [stC E (X 2) g2, stC E (X 3) j.1, hhC E (X 4) hs hg nx ct, diC E (X 5) j.2.1 j.2.2.1, grC E (X 6) j.2.2.2.1 j.2.2.2.2.1, prC E (X 7) j.2.2.2.2.2.1 j.2.2.2.2.2.2.1, sbO E (X 8) j.2.2.2.2.2.2.2.1 j.2.2.2.2.2.2.2.2.1 j.2.2.2.2.2.2.2.2.2.1, baC E j.2.2.2.2.2.2.2.1 j.2.2.2.2.2.2.2.2.2.2.1 j.2.2.2.2.2.2.2.2.2.2.2]) (bs2 := fun _ => OB E X hs w g g2 hg nx ct j) rfl (by decide) (fun _ => rfl) (by decide) (fun r u H locs hw hP hD hS => ?_)
  subst hw
  refine lv_i2l hx hb dL_sum_26 rfl ?_
  refine lv_lmul hx hb dL_sum_27 ?_
  refine lv_ladd hx hb dL_sum_28 ?_
  refine lv_ldc2 (v := (7 : Int64)) hx hb (own := RL) (index := 279) hown (hts _ qc1041) dL_sum_29 ?_
  refine lv_aload_n hx hb dL_sum_32 rfl (lv_at hl 0 rfl) ?_
  refine run_i (S := Unit) (run_V (As := []) (rest := [.long (7 : Int64), .long ((((1009 : Int64) * ((nI (g 8 1)).toInt64)) + ((101 : Int64) * ((nI (g 8 2)).toInt64))) + ((31 : Int64) * ((nI (g 8 3)).toInt64)))]) (bs := OB E X hs w g g2 hg nx ct j) (cb := [coC E (X 0) (X 1) (X 2) (X 3) (X 4) (X 5) (X 6) (X 7) (X 8) w, stC E (X 1) g]) hx hb hml hown hts hK hZ hA (c_X5_quarters l E _ (X 0) (X 1) (X 2) (X 3) (X 4) (X 5) (X 6) (X 7) (X 8) w g B hI) l_L_281 rfl ⟨⟨rfl, rfl⟩, Nat.le_of_ble_eq_true rfl, Nat.le_of_ble_eq_true rfl⟩ 9 rfl [0, 1] rfl (by decide) rfl hP hD hS hl.1 rfl (Nat.le_of_ble_eq_true rfl) dL_sum_33 ⟨by show 0 + 0 ≤ 58; omega, by show 0 + 0 ≤ 348; omega⟩) hA hP hD hS (isC := [0, 1]) rfl [2, 3, 4, 5, 6, 7, 8, 9] [8, 9, 0, 1, 2, 3, 4, 5, 6, 7] (br := [stC E (X 2) g2, stC E (X 3) j.1, hhC E (X 4) hs hg nx ct, diC E (X 5) j.2.1 j.2.2.1, grC E (X 6) j.2.2.2.1 j.2.2.2.2.1, prC E (X 7) j.2.2.2.2.2.1 j.2.2.2.2.2.2.1, sbO E (X 8) j.2.2.2.2.2.2.2.1 j.2.2.2.2.2.2.2.2.1 j.2.2.2.2.2.2.2.2.2.1, baC E j.2.2.2.2.2.2.2.1 j.2.2.2.2.2.2.2.2.2.2.1 j.2.2.2.2.2.2.2.2.2.2.2]) (bs2 := fun _ => OB E X hs w g g2 hg nx ct j) rfl (by decide) (fun _ => rfl) (by decide) (fun r u H locs hw hP hD hS => ?_)
  subst hw
  refine lv_i2l hx hb dL_sum_36 rfl ?_
  refine lv_lmul hx hb dL_sum_37 ?_
  refine lv_ladd hx hb dL_sum_38 ?_
  refine lv_ldc2 (v := (3 : Int64)) hx hb (own := RL) (index := 284) hown (hts _ qc1046) dL_sum_39 ?_
  refine lv_aload_n hx hb dL_sum_42 rfl (lv_at hl 0 rfl) ?_
  refine run_i (S := Unit) (run_V (As := []) (rest := [.long (3 : Int64), .long (((((1009 : Int64) * ((nI (g 8 1)).toInt64)) + ((101 : Int64) * ((nI (g 8 2)).toInt64))) + ((31 : Int64) * ((nI (g 8 3)).toInt64))) + ((7 : Int64) * ((nI (g 8 4)).toInt64)))]) (bs := OB E X hs w g g2 hg nx ct j) (cb := [coC E (X 0) (X 1) (X 2) (X 3) (X 4) (X 5) (X 6) (X 7) (X 8) w, stC E (X 1) g]) hx hb hml hown hts hK hZ hA (c_X5_chirps l E _ (X 0) (X 1) (X 2) (X 3) (X 4) (X 5) (X 6) (X 7) (X 8) w g B hI) l_L_200 rfl ⟨⟨rfl, rfl⟩, Nat.le_of_ble_eq_true rfl, Nat.le_of_ble_eq_true rfl⟩ 9 rfl [0, 1] rfl (by decide) rfl hP hD hS hl.1 rfl (Nat.le_of_ble_eq_true rfl) dL_sum_43 ⟨by show 0 + 0 ≤ 58; omega, by show 0 + 0 ≤ 348; omega⟩) hA hP hD hS (isC := [0, 1]) rfl [2, 3, 4, 5, 6, 7, 8, 9] [8, 9, 0, 1, 2, 3, 4, 5, 6, 7] (br := [stC E (X 2) g2, stC E (X 3) j.1, hhC E (X 4) hs hg nx ct, diC E (X 5) j.2.1 j.2.2.1, grC E (X 6) j.2.2.2.1 j.2.2.2.2.1, prC E (X 7) j.2.2.2.2.2.1 j.2.2.2.2.2.2.1, sbO E (X 8) j.2.2.2.2.2.2.2.1 j.2.2.2.2.2.2.2.2.1 j.2.2.2.2.2.2.2.2.2.1, baC E j.2.2.2.2.2.2.2.1 j.2.2.2.2.2.2.2.2.2.2.1 j.2.2.2.2.2.2.2.2.2.2.2]) (bs2 := fun _ => OB E X hs w g g2 hg nx ct j) rfl (by decide) (fun _ => rfl) (by decide) (fun r u H locs hw hP hD hS => ?_)
  subst hw
  refine lv_i2l hx hb dL_sum_46 rfl ?_
  refine lv_lmul hx hb dL_sum_47 ?_
  refine lv_ladd hx hb dL_sum_48 ?_
  refine lv_aload_n hx hb dL_sum_49 rfl (lv_at hl 0 rfl) ?_
  refine run_i (S := Unit) (run_V (As := []) (rest := [.long ((((((1009 : Int64) * ((nI (g 8 1)).toInt64)) + ((101 : Int64) * ((nI (g 8 2)).toInt64))) + ((31 : Int64) * ((nI (g 8 3)).toInt64))) + ((7 : Int64) * ((nI (g 8 4)).toInt64))) + ((3 : Int64) * ((nI (g 8 6)).toInt64)))]) (bs := OB E X hs w g g2 hg nx ct j) (cb := [coC E (X 0) (X 1) (X 2) (X 3) (X 4) (X 5) (X 6) (X 7) (X 8) w, stC E (X 1) g]) hx hb hml hown hts hK hZ hA (c_X5_coinsByAccounts l E _ (X 0) (X 1) (X 2) (X 3) (X 4) (X 5) (X 6) (X 7) (X 8) w g B hI) l_L_286 rfl ⟨⟨rfl, rfl⟩, Nat.le_of_ble_eq_true rfl, Nat.le_of_ble_eq_true rfl⟩ 9 rfl [0, 1] rfl (by decide) rfl hP hD hS hl.1 rfl (Nat.le_of_ble_eq_true rfl) dL_sum_50 ⟨by show 0 + 0 ≤ 58; omega, by show 0 + 0 ≤ 348; omega⟩) hA hP hD hS (isC := [0, 1]) rfl [2, 3, 4, 5, 6, 7, 8, 9] [8, 9, 0, 1, 2, 3, 4, 5, 6, 7] (br := [stC E (X 2) g2, stC E (X 3) j.1, hhC E (X 4) hs hg nx ct, diC E (X 5) j.2.1 j.2.2.1, grC E (X 6) j.2.2.2.1 j.2.2.2.2.1, prC E (X 7) j.2.2.2.2.2.1 j.2.2.2.2.2.2.1, sbO E (X 8) j.2.2.2.2.2.2.2.1 j.2.2.2.2.2.2.2.2.1 j.2.2.2.2.2.2.2.2.2.1, baC E j.2.2.2.2.2.2.2.1 j.2.2.2.2.2.2.2.2.2.2.1 j.2.2.2.2.2.2.2.2.2.2.2]) (bs2 := fun _ => OB E X hs w g g2 hg nx ct j) rfl (by decide) (fun _ => rfl) (by decide) (fun r u H locs hw hP hD hS => ?_)
  subst hw
  refine lv_i2l hx hb dL_sum_53 rfl ?_
  refine lv_ladd hx hb dL_sum_54 ?_
  refine lv_lstore_n (lv' := [(1, .long (((((((1009 : Int64) * ((nI (g 8 1)).toInt64)) + ((101 : Int64) * ((nI (g 8 2)).toInt64))) + ((31 : Int64) * ((nI (g 8 3)).toInt64))) + ((7 : Int64) * ((nI (g 8 4)).toInt64))) + ((3 : Int64) * ((nI (g 8 6)).toInt64))) + ((nI (g 8 5)).toInt64))), (0, .ref (X 0 0))]) hx hb dL_sum_55 rfl hl (by decide) rfl (fun ls hl => ?_)
  have hl : lv_has ls 4 [(1, .long (sumM g 0)), (0, .ref (X 0 0))] := hl
  refine lv_iconst (v := nI 0) hx hb dL_sum_56 (by decide) ?_
  refine lv_istore_n (lv' := [(3, .int (nI 0)), (1, .long (sumM g 0)), (0, .ref (X 0 0))]) hx hb dL_sum_57 rfl hl (by decide) rfl (fun ls hl => ?_)
  have loop58 : ∀ (n : Nat) (i : Nat) (j1 : JT), (i ≤ g 8 0) → (JV j1) → g 8 0 - i < n → ∀ (H : Heap) (locs : List Loc) (ls : Array Slot), va_P E.1 vwCl (OB E X hs w g g2 hg nx ct j1 : List va_W).flatten H → va_D A (OB E X hs w g g2 hg nx ct j1 : List va_W).flatten → va_S A s.heap H locs → lv_has ls 4 [(0, .ref (X 0 0)), (1, .long (sumM g i)), (3, .int (nI i))] → W p l e rm_L_sum s m ([.ref (X 0 0)] : List Value).toArray below meth c H locs (0 + 6 * i) (0 + 36 * i) Q (F0 m 58 ls []) := by
    intro n58
    induction n58 with
    | zero => intro i j1 hi hj1 hn58; exact absurd hn58 (Nat.not_lt_zero _)
    | succ n58 ih58 =>
      intro i j1 hi hj1 hn58 H locs ls hP hD hS hl
      refine lv_iload_n hx hb dL_sum_58 rfl (lv_at hl 2 rfl) ?_
      refine lv_aload_n hx hb dL_sum_59 rfl (lv_at hl 0 rfl) ?_
      refine run_i (S := Unit) (run_V (As := []) (rest := [.int (nI i)]) (bs := OB E X hs w g g2 hg nx ct j1) (cb := [coC E (X 0) (X 1) (X 2) (X 3) (X 4) (X 5) (X 6) (X 7) (X 8) w, stC E (X 1) g]) hx hb hml hown hts hK hZ hA (c_X5_memberCount l E _ (X 0) (X 1) (X 2) (X 3) (X 4) (X 5) (X 6) (X 7) (X 8) w g B hI) l_L_180 rfl ⟨⟨rfl, rfl⟩, Nat.le_of_ble_eq_true rfl, Nat.le_of_ble_eq_true rfl⟩ 9 rfl [0, 1] rfl (by decide) rfl hP hD hS hl.1 rfl (Nat.le_of_ble_eq_true rfl) dL_sum_60 ⟨by show (0 + 6 * i) + 0 ≤ 58; omega, by show (0 + 36 * i) + 0 ≤ 348; omega⟩) hA hP hD hS (isC := [0, 1]) rfl [2, 3, 4, 5, 6, 7, 8, 9] [8, 9, 0, 1, 2, 3, 4, 5, 6, 7] (br := [stC E (X 2) g2, stC E (X 3) j1.1, hhC E (X 4) hs hg nx ct, diC E (X 5) j1.2.1 j1.2.2.1, grC E (X 6) j1.2.2.2.1 j1.2.2.2.2.1, prC E (X 7) j1.2.2.2.2.2.1 j1.2.2.2.2.2.2.1, sbO E (X 8) j1.2.2.2.2.2.2.2.1 j1.2.2.2.2.2.2.2.2.1 j1.2.2.2.2.2.2.2.2.2.1, baC E j1.2.2.2.2.2.2.2.1 j1.2.2.2.2.2.2.2.2.2.2.1 j1.2.2.2.2.2.2.2.2.2.2.2]) (bs2 := fun _ => OB E X hs w g g2 hg nx ct j1) rfl (by decide) (fun _ => rfl) (by decide) (fun r u H locs hw hP hD hS => ?_)
      subst hw
      refine nv_icmp_ge (X := ((i : Nat) : Int)) (Y := ((g 8 0 : Nat) : Int)) hx hb (nI_toInt (by omega)) (nI_toInt (by omega)) (tgt := 145) dL_sum_63 (by decide) (fun c_1 => ?_) (fun c_1 => ?_)
      · skip
        have hl : lv_has ls 4 [(0, .ref (X 0 0)), (1, .long (sumM g (g 8 0))), (3, .int (nI i))] := by rw [show sumM g (g 8 0) = sumM g i from by rw [show i = g 8 0 by omega]]; exact hl
        refine lv_iconst (v := nI 0) hx hb dL_sum_145 (by decide) ?_
        refine lv_istore_n (lv' := [(3, .int (nI 0)), (0, .ref (X 0 0)), (1, .long (sumM g (g 8 0)))]) hx hb dL_sum_146 rfl hl (by decide) rfl (fun ls hl => ?_)
        have loop147 : ∀ (n : Nat) (p1 : Nat) (j1 : JT), (p1 ≤ 10) → (JV j1) → 10 - p1 < n → ∀ (H : Heap) (locs : List Loc) (ls : Array Slot), va_P E.1 vwCl (OB E X hs w g g2 hg nx ct j1 : List va_W).flatten H → va_D A (OB E X hs w g g2 hg nx ct j1 : List va_W).flatten → va_S A s.heap H locs → lv_has ls 4 [(0, .ref (X 0 0)), (1, .long (sumS g p1)), (3, .int (nI p1))] → W p l e rm_L_sum s m ([.ref (X 0 0)] : List Value).toArray below meth c H locs ((0 + 6 * i) + 1 * p1) ((0 + 36 * i) + 6 * p1) Q (F0 m 147 ls []) := by
          intro n147
          induction n147 with
          | zero => intro p1 j1 hp hj1 hn147; exact absurd hn147 (Nat.not_lt_zero _)
          | succ n147 ih147 =>
            intro p1 j1 hp hj1 hn147 H locs ls hP hD hS hl
            refine lv_iload_n hx hb dL_sum_147 rfl (lv_at hl 2 rfl) ?_
            refine lv_bipush (v := nI 10) hx hb dL_sum_148 (by decide) ?_
            refine nv_icmp_ge (X := ((p1 : Nat) : Int)) (Y := ((10 : Nat) : Int)) hx hb (nI_toInt (by omega)) (nI_toInt (by omega)) (tgt := 172) dL_sum_150 (by decide) (fun c_2 => ?_) (fun c_2 => ?_)
            · skip
              refine lv_lload_n hx hb dL_sum_172 rfl (lv_at hl 1 rfl) ?_
              exact hret _ _ (sumS g p1) j1 _ _ _ _ hP hD hS ⟨by rw [show p1 = 10 by omega]; rfl, hj1⟩ dL_sum_173 (by omega) (by omega)
            · skip
              refine lv_ldc2 (v := (31 : Int64)) hx hb (own := RL) (index := 277) hown (hts _ qc1040) dL_sum_153 ?_
              refine lv_lload_n hx hb dL_sum_156 rfl (lv_at hl 1 rfl) ?_
              refine lv_lmul hx hb dL_sum_157 ?_
              refine lv_aload_n hx hb dL_sum_158 rfl (lv_at hl 0 rfl) ?_
              refine lv_iload_n hx hb dL_sum_159 rfl (lv_at hl 2 rfl) ?_
              refine run_i (S := JT) (run_SX (As := [.ref (X 0 0), .int (nI p1)]) (rest := [.long ((31 : Int64) * (sumS g p1))]) (bs := OB E X hs w g g2 hg nx ct j1) (cb := OB E X hs w g g2 hg nx ct j1) hx hb hml hown hts hK hZ hDD hA (c_L_spoiltBeat l hst E _ X hs w g g2 B hI hg nx ct hnx hct j1 hj1 (nI p1)) l_L_203 rfl ⟨⟨rfl, rfl⟩, Nat.le_of_ble_eq_true rfl, Nat.le_of_ble_eq_true rfl⟩ [0, 1, 2, 3, 4, 5, 6, 7, 8, 9] rfl (by decide) hP hD hS hl.1 rfl (Nat.le_of_ble_eq_true rfl) dL_sum_160 ⟨by show ((0 + 6 * i) + 1 * p1) + 1 ≤ 58; omega, by show ((0 + 36 * i) + 6 * p1) + 6 ≤ 348; omega⟩) hA hP hD hS (isC := [0, 1, 2, 3, 4, 5, 6, 7, 8, 9]) rfl [] [0, 1, 2, 3, 4, 5, 6, 7, 8, 9] (br := []) (bs2 := fun u => OB E X hs w g g2 hg nx ct u) rfl (by decide) (fun _ => rfl) (by decide) (fun r j_3 H locs hw hP hD hS => ?_)
              obtain ⟨hw, hj_4⟩ := hw
              subst hw
              refine lv_i2l hx hb dL_sum_163 rfl ?_
              refine lv_ladd hx hb dL_sum_164 ?_
              refine lv_lstore_n (lv' := [(1, .long (((31 : Int64) * (sumS g p1)) + ((wsp g (nI p1)).toInt64))), (0, .ref (X 0 0)), (3, .int (nI p1))]) hx hb dL_sum_165 rfl hl (by decide) rfl (fun ls hl => ?_)
              have hl : lv_has ls 4 [(1, .long (sumS g (p1 + 1))), (0, .ref (X 0 0)), (3, .int (nI p1))] := hl
              refine lv_iinc (v := nI (p1 + 1)) (lv' := [(3, .int (nI (p1 + 1))), (1, .long (sumS g (p1 + 1))), (0, .ref (X 0 0))]) hx hb dL_sum_166 hl (k := 2) rfl (nI_add p1 1) (by decide) rfl (fun ls hl => ?_)
              refine lv_goto (tgt := 147) hx hb dL_sum_169 (by decide) ?_
              exact W_widen (by omega) (by omega) (ih147 (p1 + 1) j_3 (by omega) hj_4 (by omega) _ _ _ hP hD hS (lv_sub hl [2, 1, 0] rfl))
        exact W_widen (by omega) (by omega) (loop147 _ 0 j1 (by omega) hj1 (Nat.lt_succ_self _) _ _ _ hP hD hS (lv_sub hl [1, 2, 0] rfl))
      · skip
        refine lv_ldc2 (v := (31 : Int64)) hx hb (own := RL) (index := 277) hown (hts _ qc1040) dL_sum_66 ?_
        refine lv_lload_n hx hb dL_sum_69 rfl (lv_at hl 1 rfl) ?_
        refine lv_lmul hx hb dL_sum_70 ?_
        refine lv_ldc2 (v := (1009 : Int64)) hx hb (own := RL) (index := 273) hown (hts _ qc1038) dL_sum_71 ?_
        refine lv_aload_n hx hb dL_sum_74 rfl (lv_at hl 0 rfl) ?_
        refine lv_iload_n hx hb dL_sum_75 rfl (lv_at hl 2 rfl) ?_
        refine run_i (S := JT) (run_SX (As := [.ref (X 0 0), .int (nI i)]) (rest := [.long (1009 : Int64), .long ((31 : Int64) * (sumM g i))]) (bs := OB E X hs w g g2 hg nx ct j1) (cb := OB E X hs w g g2 hg nx ct j1) hx hb hml hown hts hK hZ hDD hA (c_L_shares l hst E _ X hs w g g2 B hI hg nx ct hnx hct j1 hj1 (nI i)) l_L_209 rfl ⟨⟨rfl, rfl⟩, Nat.le_of_ble_eq_true rfl, Nat.le_of_ble_eq_true rfl⟩ [0, 1, 2, 3, 4, 5, 6, 7, 8, 9] rfl (by decide) hP hD hS hl.1 rfl (Nat.le_of_ble_eq_true rfl) dL_sum_76 ⟨by show (0 + 6 * i) + 1 ≤ 58; omega, by show (0 + 36 * i) + 6 ≤ 348; omega⟩) hA hP hD hS (isC := [0, 1, 2, 3, 4, 5, 6, 7, 8, 9]) rfl [] [0, 1, 2, 3, 4, 5, 6, 7, 8, 9] (br := []) (bs2 := fun u => OB E X hs w g g2 hg nx ct u) rfl (by decide) (fun _ => rfl) (by decide) (fun r j_5 H locs hw hP hD hS => ?_)
        obtain ⟨hw, hj_6⟩ := hw
        subst hw
        refine lv_i2l hx hb dL_sum_79 rfl ?_
        refine lv_lmul hx hb dL_sum_80 ?_
        refine lv_ladd hx hb dL_sum_81 ?_
        refine lv_ldc2 (v := (101 : Int64)) hx hb (own := RL) (index := 275) hown (hts _ qc1039) dL_sum_82 ?_
        refine lv_aload_n hx hb dL_sum_85 rfl (lv_at hl 0 rfl) ?_
        refine lv_iload_n hx hb dL_sum_86 rfl (lv_at hl 2 rfl) ?_
        refine run_i (S := JT) (run_SX (As := [.ref (X 0 0), .int (nI i)]) (rest := [.long (101 : Int64), .long (((31 : Int64) * (sumM g i)) + ((1009 : Int64) * ((wf g (g 0) (nI i)).toInt64)))]) (bs := OB E X hs w g g2 hg nx ct j_5) (cb := OB E X hs w g g2 hg nx ct j_5) hx hb hml hown hts hK hZ hDD hA (c_L_spring l hst E _ X hs w g g2 B hI hg nx ct hnx hct j_5 hj_6 (nI i)) l_L_213 rfl ⟨⟨rfl, rfl⟩, Nat.le_of_ble_eq_true rfl, Nat.le_of_ble_eq_true rfl⟩ [0, 1, 2, 3, 4, 5, 6, 7, 8, 9] rfl (by decide) hP hD hS hl.1 rfl (Nat.le_of_ble_eq_true rfl) dL_sum_87 ⟨by show ((0 + 6 * i) + 1) + 1 ≤ 58; omega, by show ((0 + 36 * i) + 6) + 6 ≤ 348; omega⟩) hA hP hD hS (isC := [0, 1, 2, 3, 4, 5, 6, 7, 8, 9]) rfl [] [0, 1, 2, 3, 4, 5, 6, 7, 8, 9] (br := []) (bs2 := fun u => OB E X hs w g g2 hg nx ct u) rfl (by decide) (fun _ => rfl) (by decide) (fun r j_7 H locs hw hP hD hS => ?_)
        obtain ⟨hw, hj_8⟩ := hw
        subst hw
        refine lv_i2l hx hb dL_sum_90 rfl ?_
        refine lv_lmul hx hb dL_sum_91 ?_
        refine lv_ladd hx hb dL_sum_92 ?_
        refine lv_ldc2 (v := (31 : Int64)) hx hb (own := RL) (index := 277) hown (hts _ qc1040) dL_sum_93 ?_
        refine lv_aload_n hx hb dL_sum_96 rfl (lv_at hl 0 rfl) ?_
        refine lv_iload_n hx hb dL_sum_97 rfl (lv_at hl 2 rfl) ?_
        refine run_i (S := JT) (run_SX (As := [.ref (X 0 0), .int (nI i)]) (rest := [.long (31 : Int64), .long ((((31 : Int64) * (sumM g i)) + ((1009 : Int64) * ((wf g (g 0) (nI i)).toInt64))) + ((101 : Int64) * ((wf g (g 4) (nI i)).toInt64)))]) (bs := OB E X hs w g g2 hg nx ct j_7) (cb := OB E X hs w g g2 hg nx ct j_7) hx hb hml hown hts hK hZ hDD hA (c_L_tone l hst E _ X hs w g g2 B hI hg nx ct hnx hct j_7 hj_8 (nI i)) l_L_289 rfl ⟨⟨rfl, rfl⟩, Nat.le_of_ble_eq_true rfl, Nat.le_of_ble_eq_true rfl⟩ [0, 1, 2, 3, 4, 5, 6, 7, 8, 9] rfl (by decide) hP hD hS hl.1 rfl (Nat.le_of_ble_eq_true rfl) dL_sum_98 ⟨by show (((0 + 6 * i) + 1) + 1) + 1 ≤ 58; omega, by show (((0 + 36 * i) + 6) + 6) + 6 ≤ 348; omega⟩) hA hP hD hS (isC := [0, 1, 2, 3, 4, 5, 6, 7, 8, 9]) rfl [] [0, 1, 2, 3, 4, 5, 6, 7, 8, 9] (br := []) (bs2 := fun u => OB E X hs w g g2 hg nx ct u) rfl (by decide) (fun _ => rfl) (by decide) (fun r j_9 H locs hw hP hD hS => ?_)
        obtain ⟨hw, hj_10⟩ := hw
        subst hw
        refine lv_i2l hx hb dL_sum_101 rfl ?_
        refine lv_lmul hx hb dL_sum_102 ?_
        refine lv_ladd hx hb dL_sum_103 ?_
        refine lv_ldc2 (v := (7 : Int64)) hx hb (own := RL) (index := 279) hown (hts _ qc1041) dL_sum_104 ?_
        refine lv_aload_n hx hb dL_sum_107 rfl (lv_at hl 0 rfl) ?_
        refine lv_iload_n hx hb dL_sum_108 rfl (lv_at hl 2 rfl) ?_
        refine run_i (S := JT) (run_SX (As := [.ref (X 0 0), .int (nI i)]) (rest := [.long (7 : Int64), .long (((((31 : Int64) * (sumM g i)) + ((1009 : Int64) * ((wf g (g 0) (nI i)).toInt64))) + ((101 : Int64) * ((wf g (g 4) (nI i)).toInt64))) + ((31 : Int64) * ((wf g (g 3) (nI i)).toInt64)))]) (bs := OB E X hs w g g2 hg nx ct j_9) (cb := OB E X hs w g g2 hg nx ct j_9) hx hb hml hown hts hK hZ hDD hA (c_L_purse l hst E _ X hs w g g2 B hI hg nx ct hnx hct j_9 hj_10 (nI i)) l_L_207 rfl ⟨⟨rfl, rfl⟩, Nat.le_of_ble_eq_true rfl, Nat.le_of_ble_eq_true rfl⟩ [0, 1, 2, 3, 4, 5, 6, 7, 8, 9] rfl (by decide) hP hD hS hl.1 rfl (Nat.le_of_ble_eq_true rfl) dL_sum_109 ⟨by show ((((0 + 6 * i) + 1) + 1) + 1) + 1 ≤ 58; omega, by show ((((0 + 36 * i) + 6) + 6) + 6) + 6 ≤ 348; omega⟩) hA hP hD hS (isC := [0, 1, 2, 3, 4, 5, 6, 7, 8, 9]) rfl [] [0, 1, 2, 3, 4, 5, 6, 7, 8, 9] (br := []) (bs2 := fun u => OB E X hs w g g2 hg nx ct u) rfl (by decide) (fun _ => rfl) (by decide) (fun r j_11 H locs hw hP hD hS => ?_)
        obtain ⟨hw, hj_12⟩ := hw
        subst hw
        refine lv_i2l hx hb dL_sum_112 rfl ?_
        refine lv_lmul hx hb dL_sum_113 ?_
        refine lv_ladd hx hb dL_sum_114 ?_
        refine lv_aload_n hx hb dL_sum_115 rfl (lv_at hl 0 rfl) ?_
        refine lv_iload_n hx hb dL_sum_116 rfl (lv_at hl 2 rfl) ?_
        refine run_i (S := JT) (run_SX (As := [.ref (X 0 0), .int (nI i)]) (rest := [.long ((((((31 : Int64) * (sumM g i)) + ((1009 : Int64) * ((wf g (g 0) (nI i)).toInt64))) + ((101 : Int64) * ((wf g (g 4) (nI i)).toInt64))) + ((31 : Int64) * ((wf g (g 3) (nI i)).toInt64))) + ((7 : Int64) * ((wf g (g 5) (nI i)).toInt64)))]) (bs := OB E X hs w g g2 hg nx ct j_11) (cb := OB E X hs w g g2 hg nx ct j_11) hx hb hml hown hts hK hZ hDD hA (c_L_dissents l hst E _ X hs w g g2 B hI hg nx ct hnx hct j_11 hj_12 (nI i)) l_L_211 rfl ⟨⟨rfl, rfl⟩, Nat.le_of_ble_eq_true rfl, Nat.le_of_ble_eq_true rfl⟩ [0, 1, 2, 3, 4, 5, 6, 7, 8, 9] rfl (by decide) hP hD hS hl.1 rfl (Nat.le_of_ble_eq_true rfl) dL_sum_117 ⟨by show (((((0 + 6 * i) + 1) + 1) + 1) + 1) + 1 ≤ 58; omega, by show (((((0 + 36 * i) + 6) + 6) + 6) + 6) + 6 ≤ 348; omega⟩) hA hP hD hS (isC := [0, 1, 2, 3, 4, 5, 6, 7, 8, 9]) rfl [] [0, 1, 2, 3, 4, 5, 6, 7, 8, 9] (br := []) (bs2 := fun u => OB E X hs w g g2 hg nx ct u) rfl (by decide) (fun _ => rfl) (by decide) (fun r j_13 H locs hw hP hD hS => ?_)
        obtain ⟨hw, hj_14⟩ := hw
        subst hw
        refine lv_i2l hx hb dL_sum_120 rfl ?_
        refine lv_ladd hx hb dL_sum_121 ?_
        refine lv_lstore_n (lv' := [(1, .long (((((((31 : Int64) * (sumM g i)) + ((1009 : Int64) * ((wf g (g 0) (nI i)).toInt64))) + ((101 : Int64) * ((wf g (g 4) (nI i)).toInt64))) + ((31 : Int64) * ((wf g (g 3) (nI i)).toInt64))) + ((7 : Int64) * ((wf g (g 5) (nI i)).toInt64))) + ((wf g (g 6) (nI i)).toInt64))), (0, .ref (X 0 0)), (3, .int (nI i))]) hx hb dL_sum_122 rfl hl (by decide) rfl (fun ls hl => ?_)
        have hl : lv_has ls 4 [(1, .long (sumA g (sumM g i) i)), (0, .ref (X 0 0)), (3, .int (nI i))] := hl
        refine lv_ldc2 (v := (31 : Int64)) hx hb (own := RL) (index := 277) hown (hts _ qc1040) dL_sum_123 ?_
        refine lv_lload_n hx hb dL_sum_126 rfl (lv_at hl 0 rfl) ?_
        refine lv_lmul hx hb dL_sum_127 ?_
        refine lv_aload_n hx hb dL_sum_128 rfl (lv_at hl 1 rfl) ?_
        refine lv_iload_n hx hb dL_sum_129 rfl (lv_at hl 2 rfl) ?_
        refine run_l (S := JT) (run_SX (As := [.ref (X 0 0), .int (nI i)]) (rest := [.long ((31 : Int64) * (sumA g (sumM g i) i))]) (bs := OB E X hs w g g2 hg nx ct j_13) (cb := OB E X hs w g g2 hg nx ct j_13) hx hb hml hown hts hK hZ hDD hA (c_L_dueBeats l hst E _ X hs w g g2 B hI hg nx ct hnx hct j_13 hj_14 (nI i)) l_L_291 rfl ⟨⟨rfl, rfl⟩, Nat.le_of_ble_eq_true rfl, Nat.le_of_ble_eq_true rfl⟩ [0, 1, 2, 3, 4, 5, 6, 7, 8, 9] rfl (by decide) hP hD hS hl.1 rfl (Nat.le_of_ble_eq_true rfl) dL_sum_130 ⟨by show ((((((0 + 6 * i) + 1) + 1) + 1) + 1) + 1) + 1 ≤ 58; omega, by show ((((((0 + 36 * i) + 6) + 6) + 6) + 6) + 6) + 6 ≤ 348; omega⟩) hA hP hD hS (isC := [0, 1, 2, 3, 4, 5, 6, 7, 8, 9]) rfl [] [0, 1, 2, 3, 4, 5, 6, 7, 8, 9] (br := []) (bs2 := fun u => OB E X hs w g g2 hg nx ct u) rfl (by decide) (fun _ => rfl) (by decide) (fun r j_15 H locs hw hP hD hS => ?_)
        obtain ⟨hw, hj_16⟩ := hw
        subst hw
        refine lv_ldc2 (v := (100003 : Int64)) hx hb (own := RL) (index := 294) hown (hts _ qc1070) dL_sum_133 ?_
        refine lv_lrem hx hb dL_sum_136 (by decide) ?_
        refine lv_ladd hx hb dL_sum_137 ?_
        refine lv_lstore_n (lv' := [(1, .long (((31 : Int64) * (sumA g (sumM g i) i)) + ((wl g (nI i)) - (wl g (nI i)) / (100003 : Int64) * (100003 : Int64)))), (0, .ref (X 0 0)), (3, .int (nI i))]) hx hb dL_sum_138 rfl hl (by decide) rfl (fun ls hl => ?_)
        have hl : lv_has ls 4 [(1, .long (sumM g (i + 1))), (0, .ref (X 0 0)), (3, .int (nI i))] := hl
        refine lv_iinc (v := nI (i + 1)) (lv' := [(3, .int (nI (i + 1))), (1, .long (sumM g (i + 1))), (0, .ref (X 0 0))]) hx hb dL_sum_139 hl (k := 2) rfl (nI_add i 1) (by decide) rfl (fun ls hl => ?_)
        refine lv_goto (tgt := 58) hx hb dL_sum_142 (by decide) ?_
        exact W_widen (by omega) (by omega) (ih58 (i + 1) j_15 (by omega) hj_16 (by omega) _ _ _ hP hD hS (lv_sub hl [2, 1, 0] rfl))
  exact W_widen (by omega) (by omega) (loop58 _ 0 j (by omega) hj (Nat.lt_succ_self _) _ _ _ hP hD hS (lv_sub hl [2, 1, 0] rfl))
