abbrev rm_J6_bitCount_0f7a4 : Room := { frames := 0, cells := 0, slots := 0, locals := 0 }
set_option maxHeartbeats 4000000 in
set_option maxRecDepth 100000 in
theorem c_J6_bitCount_0f7a4 (l : Launch) (E : EE) (sz : Nat) (x0 : Int32) : MI l yJ6_bitCount_0f7a4 cJ6_bitCount_0f7a4 1 .int rm_J6_bitCount_0f7a4 [.int x0] E sz [] (fun (r : Int32) (_ : Unit) => r = bcI x0) (fun _ => []) 0 0 := by
  refine mi_go (by decide) (Nat.le_of_ble_eq_true rfl) ?_
  intro p e s m below meth c A Q ls hx hb hml hown hts hK hZ hA hsz hP hD hl hret
  have hS : va_S A s.heap s.heap [] := va_S.rf
  have hl : lv_has ls 1 [(0, .int x0)] := hl
  skip
  refine lv_iload_n hx hb dJ6_bitCount_0f7a4_0 rfl (lv_at hl 0 rfl) ?_
  refine lv_iload_n hx hb dJ6_bitCount_0f7a4_1 rfl (lv_at hl 0 rfl) ?_
  refine lv_iconst (v := nI 1) hx hb dJ6_bitCount_0f7a4_2 (by decide) ?_
  refine lv_iushr hx hb dJ6_bitCount_0f7a4_3 rfl ?_
  refine lv_topi (fun v_1 ev_1 => ?_)
  refine lv_ldcw hx hb hown (hts _ q1335) dJ6_bitCount_0f7a4_4 ?_
  refine lv_iand hx hb dJ6_bitCount_0f7a4_7 ?_
  refine lv_topi (fun v_3 ev_3 => ?_)
  refine lv_isub hx hb dJ6_bitCount_0f7a4_8 ?_
  refine lv_topi (fun v_4 ev_4 => ?_)
  refine lv_istore_n (lv' := [(0, .int v_4)]) hx hb dJ6_bitCount_0f7a4_9 rfl hl (by decide) rfl (fun ls hl => ?_)
  refine lv_iload_n hx hb dJ6_bitCount_0f7a4_10 rfl (lv_at hl 0 rfl) ?_
  refine lv_ldcw hx hb hown (hts _ q1336) dJ6_bitCount_0f7a4_11 ?_
  refine lv_iand hx hb dJ6_bitCount_0f7a4_14 ?_
  refine lv_topi (fun v_6 ev_6 => ?_)
  refine lv_iload_n hx hb dJ6_bitCount_0f7a4_15 rfl (lv_at hl 0 rfl) ?_
  refine lv_iconst (v := nI 2) hx hb dJ6_bitCount_0f7a4_16 (by decide) ?_
  refine lv_iushr hx hb dJ6_bitCount_0f7a4_17 rfl ?_
  refine lv_topi (fun v_7 ev_7 => ?_)
  refine lv_ldcw hx hb hown (hts _ q1336) dJ6_bitCount_0f7a4_18 ?_
  refine lv_iand hx hb dJ6_bitCount_0f7a4_21 ?_
  refine lv_topi (fun v_9 ev_9 => ?_)
  refine lv_iadd hx hb dJ6_bitCount_0f7a4_22 ?_
  refine lv_topi (fun v_10 ev_10 => ?_)
  refine lv_istore_n (lv' := [(0, .int v_10)]) hx hb dJ6_bitCount_0f7a4_23 rfl hl (by decide) rfl (fun ls hl => ?_)
  refine lv_iload_n hx hb dJ6_bitCount_0f7a4_24 rfl (lv_at hl 0 rfl) ?_
  refine lv_iload_n hx hb dJ6_bitCount_0f7a4_25 rfl (lv_at hl 0 rfl) ?_
  refine lv_iconst (v := nI 4) hx hb dJ6_bitCount_0f7a4_26 (by decide) ?_
  refine lv_iushr hx hb dJ6_bitCount_0f7a4_27 rfl ?_
  refine lv_topi (fun v_11 ev_11 => ?_)
  refine lv_iadd hx hb dJ6_bitCount_0f7a4_28 ?_
  refine lv_topi (fun v_12 ev_12 => ?_)
  refine lv_ldcw hx hb hown (hts _ q1337) dJ6_bitCount_0f7a4_29 ?_
  refine lv_iand hx hb dJ6_bitCount_0f7a4_32 ?_
  refine lv_topi (fun v_14 ev_14 => ?_)
  refine lv_istore_n (lv' := [(0, .int v_14)]) hx hb dJ6_bitCount_0f7a4_33 rfl hl (by decide) rfl (fun ls hl => ?_)
  refine lv_iload_n hx hb dJ6_bitCount_0f7a4_34 rfl (lv_at hl 0 rfl) ?_
  refine lv_iload_n hx hb dJ6_bitCount_0f7a4_35 rfl (lv_at hl 0 rfl) ?_
  refine lv_bipush (v := nI 8) hx hb dJ6_bitCount_0f7a4_36 (by decide) ?_
  refine lv_iushr hx hb dJ6_bitCount_0f7a4_38 rfl ?_
  refine lv_topi (fun v_15 ev_15 => ?_)
  refine lv_iadd hx hb dJ6_bitCount_0f7a4_39 ?_
  refine lv_topi (fun v_16 ev_16 => ?_)
  refine lv_istore_n (lv' := [(0, .int v_16)]) hx hb dJ6_bitCount_0f7a4_40 rfl hl (by decide) rfl (fun ls hl => ?_)
  refine lv_iload_n hx hb dJ6_bitCount_0f7a4_41 rfl (lv_at hl 0 rfl) ?_
  refine lv_iload_n hx hb dJ6_bitCount_0f7a4_42 rfl (lv_at hl 0 rfl) ?_
  refine lv_bipush (v := nI 16) hx hb dJ6_bitCount_0f7a4_43 (by decide) ?_
  refine lv_iushr hx hb dJ6_bitCount_0f7a4_45 rfl ?_
  refine lv_topi (fun v_17 ev_17 => ?_)
  refine lv_iadd hx hb dJ6_bitCount_0f7a4_46 ?_
  refine lv_topi (fun v_18 ev_18 => ?_)
  refine lv_istore_n (lv' := [(0, .int v_18)]) hx hb dJ6_bitCount_0f7a4_47 rfl hl (by decide) rfl (fun ls hl => ?_)
  refine lv_iload_n hx hb dJ6_bitCount_0f7a4_48 rfl (lv_at hl 0 rfl) ?_
  refine lv_bipush (v := nI 63) hx hb dJ6_bitCount_0f7a4_49 (by decide) ?_
  refine lv_iand hx hb dJ6_bitCount_0f7a4_51 ?_
  refine lv_topi (fun v_19 ev_19 => ?_)
  exact hret _ _ v_19 () _ _ hP hD hS rfl (by subst ev_1 ev_3 ev_4 ev_6 ev_7 ev_9 ev_10 ev_11 ev_12 ev_14 ev_15 ev_16 ev_17 ev_18 ev_19; rfl) dJ6_bitCount_0f7a4_52
abbrev rm_J13_bitCount_95d88 : Room := { frames := 0, cells := 0, slots := 0, locals := 0 }
set_option maxHeartbeats 4000000 in
set_option maxRecDepth 100000 in
theorem c_J13_bitCount_95d88 (l : Launch) (E : EE) (sz : Nat) (x0 : Int64) : MI l yJ13_bitCount_95d88 cJ13_bitCount_95d88 2 .int rm_J13_bitCount_95d88 [.long x0] E sz [] (fun (r : Int32) (_ : Unit) => r = bcL x0) (fun _ => []) 0 0 := by
  refine mi_go (by decide) (Nat.le_of_ble_eq_true rfl) ?_
  intro p e s m below meth c A Q ls hx hb hml hown hts hK hZ hA hsz hP hD hl hret
  have hS : va_S A s.heap s.heap [] := va_S.rf
  have hl : lv_has ls 2 [(0, .long x0)] := hl
  skip
  refine lv_lload_n hx hb dJ13_bitCount_95d88_0 rfl (lv_at hl 0 rfl) ?_
  refine lv_lload_n hx hb dJ13_bitCount_95d88_1 rfl (lv_at hl 0 rfl) ?_
  refine lv_iconst (v := nI 1) hx hb dJ13_bitCount_95d88_2 (by decide) ?_
  refine lv_lushr hx hb dJ13_bitCount_95d88_3 rfl ?_
  refine lv_topl (fun v_1 ev_1 => ?_)
  refine lv_ldc2 hx hb hown (hts _ q1112) dJ13_bitCount_95d88_4 ?_
  refine lv_land hx hb dJ13_bitCount_95d88_7 ?_
  refine lv_topl (fun v_3 ev_3 => ?_)
  refine lv_lsub hx hb dJ13_bitCount_95d88_8 ?_
  refine lv_topl (fun v_4 ev_4 => ?_)
  refine lv_lstore_n (lv' := [(0, .long v_4)]) hx hb dJ13_bitCount_95d88_9 rfl hl (by decide) rfl (fun ls hl => ?_)
  refine lv_lload_n hx hb dJ13_bitCount_95d88_10 rfl (lv_at hl 0 rfl) ?_
  refine lv_ldc2 hx hb hown (hts _ q1113) dJ13_bitCount_95d88_11 ?_
  refine lv_land hx hb dJ13_bitCount_95d88_14 ?_
  refine lv_topl (fun v_6 ev_6 => ?_)
  refine lv_lload_n hx hb dJ13_bitCount_95d88_15 rfl (lv_at hl 0 rfl) ?_
  refine lv_iconst (v := nI 2) hx hb dJ13_bitCount_95d88_16 (by decide) ?_
  refine lv_lushr hx hb dJ13_bitCount_95d88_17 rfl ?_
  refine lv_topl (fun v_7 ev_7 => ?_)
  refine lv_ldc2 hx hb hown (hts _ q1113) dJ13_bitCount_95d88_18 ?_
  refine lv_land hx hb dJ13_bitCount_95d88_21 ?_
  refine lv_topl (fun v_9 ev_9 => ?_)
  refine lv_ladd hx hb dJ13_bitCount_95d88_22 ?_
  refine lv_topl (fun v_10 ev_10 => ?_)
  refine lv_lstore_n (lv' := [(0, .long v_10)]) hx hb dJ13_bitCount_95d88_23 rfl hl (by decide) rfl (fun ls hl => ?_)
  refine lv_lload_n hx hb dJ13_bitCount_95d88_24 rfl (lv_at hl 0 rfl) ?_
  refine lv_lload_n hx hb dJ13_bitCount_95d88_25 rfl (lv_at hl 0 rfl) ?_
  refine lv_iconst (v := nI 4) hx hb dJ13_bitCount_95d88_26 (by decide) ?_
  refine lv_lushr hx hb dJ13_bitCount_95d88_27 rfl ?_
  refine lv_topl (fun v_11 ev_11 => ?_)
  refine lv_ladd hx hb dJ13_bitCount_95d88_28 ?_
  refine lv_topl (fun v_12 ev_12 => ?_)
  refine lv_ldc2 hx hb hown (hts _ q1114) dJ13_bitCount_95d88_29 ?_
  refine lv_land hx hb dJ13_bitCount_95d88_32 ?_
  refine lv_topl (fun v_14 ev_14 => ?_)
  refine lv_lstore_n (lv' := [(0, .long v_14)]) hx hb dJ13_bitCount_95d88_33 rfl hl (by decide) rfl (fun ls hl => ?_)
  refine lv_lload_n hx hb dJ13_bitCount_95d88_34 rfl (lv_at hl 0 rfl) ?_
  refine lv_lload_n hx hb dJ13_bitCount_95d88_35 rfl (lv_at hl 0 rfl) ?_
  refine lv_bipush (v := nI 8) hx hb dJ13_bitCount_95d88_36 (by decide) ?_
  refine lv_lushr hx hb dJ13_bitCount_95d88_38 rfl ?_
  refine lv_topl (fun v_15 ev_15 => ?_)
  refine lv_ladd hx hb dJ13_bitCount_95d88_39 ?_
  refine lv_topl (fun v_16 ev_16 => ?_)
  refine lv_lstore_n (lv' := [(0, .long v_16)]) hx hb dJ13_bitCount_95d88_40 rfl hl (by decide) rfl (fun ls hl => ?_)
  refine lv_lload_n hx hb dJ13_bitCount_95d88_41 rfl (lv_at hl 0 rfl) ?_
  refine lv_lload_n hx hb dJ13_bitCount_95d88_42 rfl (lv_at hl 0 rfl) ?_
  refine lv_bipush (v := nI 16) hx hb dJ13_bitCount_95d88_43 (by decide) ?_
  refine lv_lushr hx hb dJ13_bitCount_95d88_45 rfl ?_
  refine lv_topl (fun v_17 ev_17 => ?_)
  refine lv_ladd hx hb dJ13_bitCount_95d88_46 ?_
  refine lv_topl (fun v_18 ev_18 => ?_)
  refine lv_lstore_n (lv' := [(0, .long v_18)]) hx hb dJ13_bitCount_95d88_47 rfl hl (by decide) rfl (fun ls hl => ?_)
  refine lv_lload_n hx hb dJ13_bitCount_95d88_48 rfl (lv_at hl 0 rfl) ?_
  refine lv_lload_n hx hb dJ13_bitCount_95d88_49 rfl (lv_at hl 0 rfl) ?_
  refine lv_bipush (v := nI 32) hx hb dJ13_bitCount_95d88_50 (by decide) ?_
  refine lv_lushr hx hb dJ13_bitCount_95d88_52 rfl ?_
  refine lv_topl (fun v_19 ev_19 => ?_)
  refine lv_ladd hx hb dJ13_bitCount_95d88_53 ?_
  refine lv_topl (fun v_20 ev_20 => ?_)
  refine lv_lstore_n (lv' := [(0, .long v_20)]) hx hb dJ13_bitCount_95d88_54 rfl hl (by decide) rfl (fun ls hl => ?_)
  refine lv_lload_n hx hb dJ13_bitCount_95d88_55 rfl (lv_at hl 0 rfl) ?_
  refine lv_l2i hx hb dJ13_bitCount_95d88_56 rfl ?_
  refine lv_topi (fun v_21 ev_21 => ?_)
  refine lv_bipush (v := nI 127) hx hb dJ13_bitCount_95d88_57 (by decide) ?_
  refine lv_iand hx hb dJ13_bitCount_95d88_59 ?_
  refine lv_topi (fun v_22 ev_22 => ?_)
  exact hret _ _ v_22 () _ _ hP hD hS rfl (by subst ev_1 ev_3 ev_4 ev_6 ev_7 ev_9 ev_10 ev_11 ev_12 ev_14 ev_15 ev_16 ev_17 ev_18 ev_19 ev_20 ev_21 ev_22; rfl) dJ13_bitCount_95d88_60
abbrev rm_X1_fewestThatWin : Room := { frames := 2, cells := 0, slots := 0, locals := 42 }
set_option maxHeartbeats 4000000 in
set_option maxRecDepth 100000 in
theorem c_X1_fewestThatWin (l : Launch) (E : EE) (sz : Nat) (b : Nat → Nat) (so gw : Nat → Nat) (a : Nat → Nat) (g : GG) (B : Nat) (hI : IB B g)  : MI l yX1_fewestThatWin cX1_fewestThatWin 6 .int rm_X1_fewestThatWin [.ref (b 0), .ref (a 0)] E sz [grC E b so gw, stC E a g] (fun (r : Int32) (u : (Nat → Nat) × (Nat → Nat)) => r = nI (few g (2 ^ g 8 0))) (fun u => [grC E b u.1 u.2, stC E a g]) 0 0 := by
  refine mi_go (by decide) (Nat.le_of_ble_eq_true rfl) ?_
  intro p e s m below meth c A Q ls hx hb hml hown hts hK hZ hA hsz hP hD hl hret
  have hS : va_S A s.heap s.heap [] := va_S.rf
  have hl : lv_has ls 6 [(0, .ref (b 0)), (1, .ref (a 0))] := hl
  skip
  have hmc := hI.mc
  have hbu := hI.bud
  have hsh : allSh g ≤ 50 * g 8 0 := hI.shs (Nat.le_refl _)
  have hqd : quo g = allSh g / 2 + 1 := rfl
  have h256 := p256' hI (Nat.le_refl (g 8 0))
  refine lv_aload_n hx hb dX1_fewestThatWin_0 rfl (lv_at hl 1 rfl) ?_
  refine run_i (S := Unit) (run_V (As := []) (rest := []) (bs := [grC E b so gw, stC E a g]) (cb := [stC E a g]) hx hb hml hown hts hK hZ hA (c_X4_neededShares l E _ a g  _ hI) l_X1_18 rfl ⟨⟨rfl, rfl⟩, Nat.le_of_ble_eq_true rfl, Nat.le_of_ble_eq_true rfl⟩ 8 rfl [1] rfl (by decide) rfl hP hD hS hl.1 rfl (Nat.le_of_ble_eq_true rfl) dX1_fewestThatWin_1 ⟨Nat.zero_le _, Nat.zero_le _⟩) hA hP hD hS (isC := [1]) rfl [0] [0, 1] (br := [grC E b so gw]) (bs2 := fun _ => [grC E b so gw, stC E a g]) rfl (by decide) (fun _ => rfl) (by decide) (fun r u H locs hw hP hD hS => ?_)
  subst hw
  refine lv_istore_n (lv' := [(2, .int (nI (quo g))), (0, .ref (b 0)), (1, .ref (a 0))]) hx hb dX1_fewestThatWin_4 rfl hl (by decide) rfl (fun ls hl => ?_)
  refine lv_aload_n hx hb dX1_fewestThatWin_5 rfl (lv_at hl 1 rfl) ?_
  refine lv_aload_n hx hb dX1_fewestThatWin_6 rfl (lv_at hl 2 rfl) ?_
  refine run_i (S := Nat → Nat) (run_V (As := [.ref (a 0)]) (rest := []) (bs := [grC E b so gw, stC E a g]) (cb := [grC E b so gw, stC E a g]) hx hb hml hown hts hK hZ hA (c_X1_addUpGroups l E _ b so gw a g _ hI  ) l_X1_24 rfl ⟨⟨rfl, rfl⟩, Nat.le_of_ble_eq_true rfl, Nat.le_of_ble_eq_true rfl⟩ 5 rfl [0, 1] rfl (by decide) rfl hP hD hS hl.1 rfl (Nat.le_of_ble_eq_true rfl) dX1_fewestThatWin_7 ⟨Nat.zero_le _, Nat.zero_le _⟩) hA hP hD hS (isC := [0, 1]) rfl [] [0, 1] (br := []) (bs2 := fun u => [grC E b u gw, stC E a g]) rfl (by decide) (fun _ => rfl) (by decide) (fun r so_1 H locs hw hP hD hS => ?_)
  obtain ⟨rfl, hso_2⟩ := hw
  refine lv_istore_n (lv' := [(3, .int (nI (2 ^ g 8 0))), (2, .int (nI (quo g))), (0, .ref (b 0)), (1, .ref (a 0))]) hx hb dX1_fewestThatWin_10 rfl hl (by decide) rfl (fun ls hl => ?_)
  refine lv_aload_n hx hb dX1_fewestThatWin_11 rfl (lv_at hl 3 rfl) ?_
  refine va_get (D := E.1) (ci := 8) (v := .int (nI (g 8 0))) (C := RX4) (T := TX4) (N := 16) hx hb hts inX4 hown hK hP 3 rfl rfl 8 (by decide) (hts _ q87) (fun _ h9 => h9) rfl dX1_fewestThatWin_12 ?_
  refine lv_istore (lv' := [(4, .int (nI (g 8 0))), (3, .int (nI (2 ^ g 8 0))), (2, .int (nI (quo g))), (0, .ref (b 0)), (1, .ref (a 0))]) hx hb dX1_fewestThatWin_15 hl (by decide) rfl (fun ls hl => ?_)
  refine lv_iconst (v := nI 0) hx hb dX1_fewestThatWin_17 (by decide) ?_
  refine lv_istore (lv' := [(5, .int (nI 0)), (4, .int (nI (g 8 0))), (3, .int (nI (2 ^ g 8 0))), (2, .int (nI (quo g))), (0, .ref (b 0)), (1, .ref (a 0))]) hx hb dX1_fewestThatWin_18 hl (by decide) rfl (fun ls hl => ?_)
  have loop20 : ∀ (n : Nat) (i : Nat), (i ≤ 2 ^ g 8 0) → 2 ^ g 8 0 - i < n → ∀ (H : Heap) (locs : List Loc) (ls : Array Slot), va_P E.1 vwCl ([grC E b so_1 gw, stC E a g] : List va_W).flatten H → va_D A ([grC E b so_1 gw, stC E a g] : List va_W).flatten → va_S A s.heap H locs → lv_has ls 6 [(0, .ref (b 0)), (1, .ref (a 0)), (2, .int (nI (quo g))), (3, .int (nI (2 ^ g 8 0))), (4, .int (nI (few g i))), (5, .int (nI i))] → W p l e rm_X1_fewestThatWin s m ([.ref (b 0), .ref (a 0)] : List Value).toArray below meth c H locs 0 0 Q (F0 m 20 ls []) := by
    intro n20
    induction n20 with
    | zero => intro i hi hn20; exact absurd hn20 (Nat.not_lt_zero _)
    | succ n20 ih20 =>
      intro i hi hn20 H locs ls hP hD hS hl
      refine lv_iload hx hb dX1_fewestThatWin_20 (lv_at hl 5 rfl) ?_
      refine lv_iload_n hx hb dX1_fewestThatWin_22 rfl (lv_at hl 3 rfl) ?_
      refine nv_icmp_ge (X := ((i : Nat) : Int)) (Y := ((2 ^ g 8 0 : Nat) : Int)) hx hb (nI_toInt (by omega)) (nI_toInt (by omega)) (tgt := 55) dX1_fewestThatWin_23 (by decide) (fun c_3 => ?_) (fun c_3 => ?_)
      · skip
        refine lv_iload hx hb dX1_fewestThatWin_55 (lv_at hl 4 rfl) ?_
        exact hret _ _ (nI (few g i)) (so_1, gw) _ _ hP hD hS rfl (by rw [show i = 2 ^ g 8 0 by omega]) dX1_fewestThatWin_57
      · skip
        have hsg : sG g i ≤ allSh g := sgi_le
        have hfw := few_le (g := g) (n := i)
        have hpl := pcn_le (n := i)
        refine lv_aload_n hx hb dX1_fewestThatWin_26 rfl (lv_at hl 0 rfl) ?_
        refine va_get (D := E.1) (ci := 5) (v := .ref (b 1)) (C := RX1) (T := TX1) (N := 2) hx hb hts inX1 hown hK hP 0 rfl rfl 0 (by decide) (hts _ q178) (fun _ h9 => h9) rfl dX1_fewestThatWin_27 ?_
        refine lv_iload hx hb dX1_fewestThatWin_30 (lv_at hl 5 rfl) ?_
        refine nv_iald (f := so_1) (i := i) (n := 256) hx hb hK hP 1 0 rfl rfl (by omega) (by decide) dX1_fewestThatWin_32 ?_
        refine tp_i (congrArg nI (hso_2 i (by omega))) ?_
        refine lv_iload_n hx hb dX1_fewestThatWin_33 rfl (lv_at hl 2 rfl) ?_
        refine nv_icmp_lt (X := ((sG g i : Nat) : Int)) (Y := ((quo g : Nat) : Int)) hx hb (nI_toInt (by omega)) (nI_toInt (by omega)) (tgt := 49) dX1_fewestThatWin_34 (by decide) (fun c_4 => ?_) (fun c_4 => ?_)
        · skip
          have hl : lv_has ls 6 [(0, .ref (b 0)), (1, .ref (a 0)), (2, .int (nI (quo g))), (3, .int (nI (2 ^ g 8 0))), (4, .int (nI (few g (i + 1)))), (5, .int (nI i))] := by rw [show few g (i + 1) = few g i from if_neg (by unfold wnB; rw [decide_eq_false (by omega)]; decide)]; exact hl
          refine lv_iinc (v := nI (i + 1)) (lv' := [(5, .int (nI (i + 1))), (0, .ref (b 0)), (1, .ref (a 0)), (2, .int (nI (quo g))), (3, .int (nI (2 ^ g 8 0))), (4, .int (nI (few g (i + 1))))]) hx hb dX1_fewestThatWin_49 hl (k := 5) rfl (nI_add i 1) (by decide) rfl (fun ls hl => ?_)
          refine lv_goto (tgt := 20) hx hb dX1_fewestThatWin_52 (by decide) ?_
          exact ih20 (i + 1) (by omega) (by omega) _ _ _ hP hD hS (lv_sub hl [1, 2, 3, 4, 5, 0] rfl)
        · skip
          have hwn : wnB g i = true := decide_eq_true (by omega)
          refine lv_iload hx hb dX1_fewestThatWin_37 (lv_at hl 4 rfl) ?_
          refine lv_iload hx hb dX1_fewestThatWin_39 (lv_at hl 5 rfl) ?_
          refine run_i (S := Unit) (run_S (As := [.int (nI i)]) (rest := [.int (nI (few g i))]) (bs := [grC E b so_1 gw, stC E a g]) (cb := []) hx hb hml hown hts hK hZ hA (c_J6_bitCount_0f7a4 l E _ (nI i)) l_X1_39 rfl ⟨⟨rfl, rfl⟩, Nat.le_of_ble_eq_true rfl, Nat.le_of_ble_eq_true rfl⟩ [] rfl (by decide) hP hD hS hl.1 rfl (Nat.le_of_ble_eq_true rfl) dX1_fewestThatWin_41 ⟨Nat.zero_le _, Nat.zero_le _⟩) hA hP hD hS (isC := []) rfl [0, 1] [0, 1] (br := [grC E b so_1 gw, stC E a g]) (bs2 := fun _ => [grC E b so_1 gw, stC E a g]) rfl (by decide) (fun _ => rfl) (by decide) (fun r u H locs hw hP hD hS => ?_)
          rw [bcI_pcn _ (by omega)] at hw
          subst hw
          refine va_mmin hx hb (hml.trans hl.1.symm) hown (hts _ q1338) (hts _ q502) (hts _ q39) (hts _ q503) (Nat.le_of_ble_eq_true rfl) (Nat.le_of_ble_eq_true rfl) (Nat.le_of_ble_eq_true rfl) (Nat.le_of_ble_eq_true rfl) dX1_fewestThatWin_44 ?_
          refine tp_i (nI_mn (a := few g i) (b := pcn i) (by omega) (by omega)) ?_
          refine lv_istore (lv' := [(4, .int (nI (if pcn i < few g i then pcn i else few g i))), (0, .ref (b 0)), (1, .ref (a 0)), (2, .int (nI (quo g))), (3, .int (nI (2 ^ g 8 0))), (5, .int (nI i))]) hx hb dX1_fewestThatWin_47 hl (by decide) rfl (fun ls hl => ?_)
          have hl : lv_has ls 6 [(4, .int (nI (few g (i + 1)))), (0, .ref (b 0)), (1, .ref (a 0)), (2, .int (nI (quo g))), (3, .int (nI (2 ^ g 8 0))), (5, .int (nI i))] := by rw [show few g (i + 1) = if pcn i < few g i then pcn i else few g i from if_pos hwn]; exact hl
          refine lv_iinc (v := nI (i + 1)) (lv' := [(5, .int (nI (i + 1))), (4, .int (nI (few g (i + 1)))), (0, .ref (b 0)), (1, .ref (a 0)), (2, .int (nI (quo g))), (3, .int (nI (2 ^ g 8 0)))]) hx hb dX1_fewestThatWin_49 hl (k := 5) rfl (nI_add i 1) (by decide) rfl (fun ls hl => ?_)
          refine lv_goto (tgt := 20) hx hb dX1_fewestThatWin_52 (by decide) ?_
          exact ih20 (i + 1) (by omega) (by omega) _ _ _ hP hD hS (lv_sub hl [2, 3, 4, 5, 1, 0] rfl)
  exact loop20 _ 0 (Nat.zero_le _) (Nat.lt_succ_self _) _ _ _ hP hD hS (lv_sub hl [4, 5, 3, 2, 1, 0] rfl)
abbrev rm_X1_countBetween : Room := { frames := 0, cells := 0, slots := 0, locals := 0 }
set_option maxHeartbeats 4000000 in
set_option maxRecDepth 100000 in
theorem c_X1_countBetween (l : Launch) (E : EE) (sz : Nat) (b : Nat → Nat) (so gw : Nat → Nat) (n0 n1 : Nat) (h0 : n0 ≤ 1000) (h1 : n1 ≤ 400) : MI l yX1_countBetween cX1_countBetween 5 .int rm_X1_countBetween [.ref (b 0), .int (nI n0), .int (nI n1)] E sz [grC E b so gw] (fun (r : Int32) (_ : Unit) => r = nI (sm (fun k => gw (n0 + k)) (n1 + 1 - n0))) (fun _ => [grC E b so gw]) 0 0 := by
  refine mi_go (by decide) (Nat.le_of_ble_eq_true rfl) ?_
  intro p e s m below meth c A Q ls hx hb hml hown hts hK hZ hA hsz hP hD hl hret
  have hS : va_S A s.heap s.heap [] := va_S.rf
  have hl : lv_has ls 5 [(0, .ref (b 0)), (1, .int (nI n0)), (2, .int (nI n1))] := hl
  skip
  refine lv_iconst (v := nI 0) hx hb dX1_countBetween_0 (by decide) ?_
  refine lv_istore_n (lv' := [(3, .int (nI 0)), (0, .ref (b 0)), (1, .int (nI n0)), (2, .int (nI n1))]) hx hb dX1_countBetween_1 rfl hl (by decide) rfl (fun ls hl => ?_)
  refine lv_iload_n hx hb dX1_countBetween_2 rfl (lv_at hl 2 rfl) ?_
  refine lv_istore (lv' := [(4, .int (nI n0)), (3, .int (nI 0)), (0, .ref (b 0)), (1, .int (nI n0)), (2, .int (nI n1))]) hx hb dX1_countBetween_3 hl (by decide) rfl (fun ls hl => ?_)
  have loop5 : ∀ (n : Nat) (k : Nat), (k ≤ n1 + 1 - n0) → n1 + 1 - (n0 + k) < n → ∀ (H : Heap) (locs : List Loc) (ls : Array Slot), va_P E.1 vwCl ([grC E b so gw] : List va_W).flatten H → va_D A ([grC E b so gw] : List va_W).flatten → va_S A s.heap H locs → lv_has ls 5 [(0, .ref (b 0)), (1, .int (nI n0)), (2, .int (nI n1)), (3, .int (nI (sm (fun k => gw (n0 + k)) k))), (4, .int (nI (n0 + k)))] → W p l e rm_X1_countBetween s m ([.ref (b 0), .int (nI n0), .int (nI n1)] : List Value).toArray below meth c H locs 0 0 Q (F0 m 5 ls []) := by
    intro n5
    induction n5 with
    | zero => intro k hk hn5; exact absurd hn5 (Nat.not_lt_zero _)
    | succ n5 ih5 =>
      intro k hk hn5 H locs ls hP hD hS hl
      refine lv_iload hx hb dX1_countBetween_5 (lv_at hl 4 rfl) ?_
      refine lv_iload_n hx hb dX1_countBetween_7 rfl (lv_at hl 2 rfl) ?_
      refine nv_icmp_gt (X := ((n0 + k : Nat) : Int)) (Y := ((n1 : Nat) : Int)) hx hb (nI_toInt (by omega)) (nI_toInt (by omega)) (tgt := 27) dX1_countBetween_8 (by decide) (fun c_1 => ?_) (fun c_1 => ?_)
      · skip
        refine lv_iload_n hx hb dX1_countBetween_27 rfl (lv_at hl 3 rfl) ?_
        exact hret _ _ (nI (sm (fun k => gw (n0 + k)) k)) () _ _ hP hD hS rfl (by rw [show k = n1 + 1 - n0 by omega]) dX1_countBetween_28
      · skip
        refine lv_iload_n hx hb dX1_countBetween_11 rfl (lv_at hl 3 rfl) ?_
        refine lv_aload_n hx hb dX1_countBetween_12 rfl (lv_at hl 0 rfl) ?_
        refine va_get (D := E.1) (ci := 5) (v := .ref (b 2)) (C := RX1) (T := TX1) (N := 2) hx hb hts inX1 hown hK hP 0 rfl rfl 1 (by decide) (hts _ q179) (fun _ h9 => h9) rfl dX1_countBetween_13 ?_
        refine lv_iload hx hb dX1_countBetween_16 (lv_at hl 4 rfl) ?_
        refine nv_iald (f := gw) (i := n0 + k) (n := 401) hx hb hK hP 2 0 rfl rfl (by omega) (by decide) dX1_countBetween_18 ?_
        refine nv_iadd hx hb dX1_countBetween_19 ?_
        refine lv_istore_n (lv' := [(3, .int (nI (sm (fun k => gw (n0 + k)) k + (gw (n0 + k))))), (0, .ref (b 0)), (1, .int (nI n0)), (2, .int (nI n1)), (4, .int (nI (n0 + k)))]) hx hb dX1_countBetween_20 rfl hl (by decide) rfl (fun ls hl => ?_)
        refine lv_iinc (v := nI (n0 + k + 1)) (lv' := [(4, .int (nI (n0 + k + 1))), (3, .int (nI (sm (fun k => gw (n0 + k)) k + (gw (n0 + k))))), (0, .ref (b 0)), (1, .int (nI n0)), (2, .int (nI n1))]) hx hb dX1_countBetween_21 hl (k := 4) rfl (nI_add (n0 + k) 1) (by decide) rfl (fun ls hl => ?_)
        refine lv_goto (tgt := 5) hx hb dX1_countBetween_24 (by decide) ?_
        exact ih5 (k + 1) (by omega) (by omega) _ _ _ hP hD hS (lv_sub hl [2, 3, 4, 1, 0] rfl)
  exact loop5 _ 0 (by omega) (Nat.lt_succ_self _) _ _ _ hP hD hS (lv_sub hl [2, 3, 4, 1, 0] rfl)
abbrev rm_X1_fillTable : Room := { frames := 1, cells := 0, slots := 0, locals := 22 }
set_option maxHeartbeats 4000000 in
set_option maxRecDepth 100000 in
theorem c_X1_fillTable (l : Launch) (E : EE) (sz : Nat) (b : Nat → Nat) (so gw : Nat → Nat) (a : Nat → Nat) (g : GG) (B : Nat) (hI : IB B g) (x2 : Int32) (X2 : Int) (hx2 : x2.toInt = X2) : MI l yX1_fillTable cX1_fillTable 7 .int rm_X1_fillTable [.ref (b 0), .ref (a 0), .int x2] E sz [grC E b so gw, stC E a g] (fun (r : Int32) (u : Nat → Nat) => r = nI (allSh g) ∧ ∀ q, q ≤ allSh g → u q = cnT g X2 (g 8 0) q) (fun u => [grC E b so u, stC E a g]) 0 0 := by
  refine mi_go (by decide) (Nat.le_of_ble_eq_true rfl) ?_
  intro p e s m below meth c A Q ls hx hb hml hown hts hK hZ hA hsz hP hD hl hret
  have hS : va_S A s.heap s.heap [] := va_S.rf
  have hl : lv_has ls 7 [(0, .ref (b 0)), (1, .ref (a 0)), (2, .int x2)] := hl
  skip
  have hmc := hI.mc
  have hbu := hI.bud
  have hsh : allSh g ≤ 50 * g 8 0 := hI.shs (Nat.le_refl _)
  have hqd : quo g = allSh g / 2 + 1 := rfl
  have h256 := p256' hI (Nat.le_refl (g 8 0))
  refine lv_aload_n hx hb dX1_fillTable_0 rfl (lv_at hl 1 rfl) ?_
  refine run_i (S := Unit) (run_V (As := []) (rest := []) (bs := [grC E b so gw, stC E a g]) (cb := [stC E a g]) hx hb hml hown hts hK hZ hA (c_X4_allShares l E _ a g  hmc) l_X1_60 rfl ⟨⟨rfl, rfl⟩, Nat.le_of_ble_eq_true rfl, Nat.le_of_ble_eq_true rfl⟩ 8 rfl [1] rfl (by decide) rfl hP hD hS hl.1 rfl (Nat.le_of_ble_eq_true rfl) dX1_fillTable_1 ⟨Nat.zero_le _, Nat.zero_le _⟩) hA hP hD hS (isC := [1]) rfl [0] [0, 1] (br := [grC E b so gw]) (bs2 := fun _ => [grC E b so gw, stC E a g]) rfl (by decide) (fun _ => rfl) (by decide) (fun r u H locs hw hP hD hS => ?_)
  subst hw
  refine lv_istore_n (lv' := [(3, .int (nI (allSh g))), (0, .ref (b 0)), (1, .ref (a 0)), (2, .int x2)]) hx hb dX1_fillTable_4 rfl hl (by decide) rfl (fun ls hl => ?_)
  refine lv_iconst (v := nI 1) hx hb dX1_fillTable_5 (by decide) ?_
  refine lv_istore (lv' := [(4, .int (nI 1)), (3, .int (nI (allSh g))), (0, .ref (b 0)), (1, .ref (a 0)), (2, .int x2)]) hx hb dX1_fillTable_6 hl (by decide) rfl (fun ls hl => ?_)
  have loop8 : ∀ (n : Nat) (k : Nat) (gw1 : Nat → Nat), (k ≤ allSh g + 1) → (1 ≤ k) → (∀ q, 1 ≤ q → q < k → gw1 q = 0) → allSh g + 1 - k < n → ∀ (H : Heap) (locs : List Loc) (ls : Array Slot), va_P E.1 vwCl ([grC E b so gw1, stC E a g] : List va_W).flatten H → va_D A ([grC E b so gw1, stC E a g] : List va_W).flatten → va_S A s.heap H locs → lv_has ls 7 [(0, .ref (b 0)), (1, .ref (a 0)), (2, .int x2), (3, .int (nI (allSh g))), (4, .int (nI k))] → W p l e rm_X1_fillTable s m ([.ref (b 0), .ref (a 0), .int x2] : List Value).toArray below meth c H locs 0 0 Q (F0 m 8 ls []) := by
    intro n8
    induction n8 with
    | zero => intro k gw1 hk h1 hg hn8; exact absurd hn8 (Nat.not_lt_zero _)
    | succ n8 ih8 =>
      intro k gw1 hk h1 hg hn8 H locs ls hP hD hS hl
      refine lv_iload hx hb dX1_fillTable_8 (lv_at hl 4 rfl) ?_
      refine lv_iload_n hx hb dX1_fillTable_10 rfl (lv_at hl 3 rfl) ?_
      refine nv_icmp_gt (X := ((k : Nat) : Int)) (Y := ((allSh g : Nat) : Int)) hx hb (nI_toInt (by omega)) (nI_toInt (by omega)) (tgt := 28) dX1_fillTable_11 (by decide) (fun c_1 => ?_) (fun c_1 => ?_)
      · skip
        refine lv_aload_n hx hb dX1_fillTable_28 rfl (lv_at hl 0 rfl) ?_
        refine va_get (D := E.1) (ci := 5) (v := .ref (b 2)) (C := RX1) (T := TX1) (N := 2) hx hb hts inX1 hown hK hP 0 rfl rfl 1 (by decide) (hts _ q179) (fun _ h9 => h9) rfl dX1_fillTable_29 ?_
        refine lv_iconst (v := nI 0) hx hb dX1_fillTable_32 (by decide) ?_
        refine lv_iconst (v := nI 1) hx hb dX1_fillTable_33 (by decide) ?_
        refine nv_iast (f := gw1) (i := 0) (v := 1) (n := 401) hx hb hK hP hD hS 2 0 rfl rfl (by omega) (by decide) dX1_fillTable_34 (fun H locs hP hD hS => ?_)
        have hP : va_P E.1 vwCl ([grC E b so (upn gw1 0 1), stC E a g] : List va_W).flatten H := hP
        have hD : va_D A ([grC E b so (upn gw1 0 1), stC E a g] : List va_W).flatten := hD
        refine lv_iconst (v := nI 0) hx hb dX1_fillTable_35 (by decide) ?_
        refine lv_istore (lv' := [(4, .int (nI 0)), (0, .ref (b 0)), (1, .ref (a 0)), (2, .int x2), (3, .int (nI (allSh g)))]) hx hb dX1_fillTable_36 hl (by decide) rfl (fun ls hl => ?_)
        have loop38 : ∀ (n : Nat) (i : Nat) (gw2 : Nat → Nat), (i ≤ g 8 0) → (∀ q, q ≤ allSh g → gw2 q = cnT g X2 i q) → g 8 0 - i < n → ∀ (H : Heap) (locs : List Loc) (ls : Array Slot), va_P E.1 vwCl ([grC E b so gw2, stC E a g] : List va_W).flatten H → va_D A ([grC E b so gw2, stC E a g] : List va_W).flatten → va_S A s.heap H locs → lv_has ls 7 [(0, .ref (b 0)), (1, .ref (a 0)), (2, .int x2), (3, .int (nI (allSh g))), (4, .int (nI i))] → W p l e rm_X1_fillTable s m ([.ref (b 0), .ref (a 0), .int x2] : List Value).toArray below meth c H locs 0 0 Q (F0 m 38 ls []) := by
          intro n38
          induction n38 with
          | zero => intro i gw2 hi hg2 hn38; exact absurd hn38 (Nat.not_lt_zero _)
          | succ n38 ih38 =>
            intro i gw2 hi hg2 hn38 H locs ls hP hD hS hl
            refine lv_iload hx hb dX1_fillTable_38 (lv_at hl 4 rfl) ?_
            refine lv_aload_n hx hb dX1_fillTable_40 rfl (lv_at hl 1 rfl) ?_
            refine va_get (D := E.1) (ci := 8) (v := .int (nI (g 8 0))) (C := RX4) (T := TX4) (N := 16) hx hb hts inX4 hown hK hP 3 rfl rfl 8 (by decide) (hts _ q87) (fun _ h9 => h9) rfl dX1_fillTable_41 ?_
            refine nv_icmp_ge (X := ((i : Nat) : Int)) (Y := ((g 8 0 : Nat) : Int)) hx hb (nI_toInt (by omega)) (nI_toInt (by omega)) (tgt := 104) dX1_fillTable_44 (by decide) (fun c_2 => ?_) (fun c_2 => ?_)
            · skip
              refine lv_iload_n hx hb dX1_fillTable_104 rfl (lv_at hl 3 rfl) ?_
              exact hret _ _ (nI (allSh g)) gw2 _ _ hP hD hS rfl ⟨rfl, fun q hq => by rw [hg2 q hq, show i = g 8 0 by omega]⟩ dX1_fillTable_105
            · skip
              have hmb := hI.mem (m := i) (by omega)
              refine lv_aload_n hx hb dX1_fillTable_47 rfl (lv_at hl 1 rfl) ?_
              refine va_get (D := E.1) (ci := 8) (v := .ref (a 1)) (C := RX4) (T := TX4) (N := 16) hx hb hts inX4 hown hK hP 3 rfl rfl 0 (by decide) (hts _ q67) (fun _ h9 => h9) rfl dX1_fillTable_48 ?_
              refine lv_iload hx hb dX1_fillTable_51 (lv_at hl 4 rfl) ?_
              refine nv_iald (f := (g 0)) (i := i) (n := 8) hx hb hK hP 4 0 rfl rfl (by omega) (by decide) dX1_fillTable_53 ?_
              refine lv_istore (lv' := [(5, .int (nI (g 0 i))), (0, .ref (b 0)), (1, .ref (a 0)), (2, .int x2), (3, .int (nI (allSh g))), (4, .int (nI i))]) hx hb dX1_fillTable_54 hl (by decide) rfl (fun ls hl => ?_)
              refine lv_iload_n hx hb dX1_fillTable_56 rfl (lv_at hl 4 rfl) ?_
              refine lv_istore (lv' := [(6, .int (nI (allSh g))), (5, .int (nI (g 0 i))), (0, .ref (b 0)), (1, .ref (a 0)), (2, .int x2), (3, .int (nI (allSh g))), (4, .int (nI i))]) hx hb dX1_fillTable_57 hl (by decide) rfl (fun ls hl => ?_)
              have loop59 : ∀ (n : Nat) (j : Nat) (gw3 : Nat → Nat), (j ≤ allSh g) → (∀ q, q ≤ allSh g → gw3 q = if j < q then cnT g X2 (i + 1) q else cnT g X2 i q) → j < n → ∀ (H : Heap) (locs : List Loc) (ls : Array Slot), va_P E.1 vwCl ([grC E b so gw3, stC E a g] : List va_W).flatten H → va_D A ([grC E b so gw3, stC E a g] : List va_W).flatten → va_S A s.heap H locs → lv_has ls 7 [(0, .ref (b 0)), (1, .ref (a 0)), (2, .int x2), (3, .int (nI (allSh g))), (4, .int (nI i)), (5, .int (nI (g 0 i))), (6, .int (nI j))] → W p l e rm_X1_fillTable s m ([.ref (b 0), .ref (a 0), .int x2] : List Value).toArray below meth c H locs 0 0 Q (F0 m 59 ls []) := by
                intro n59
                induction n59 with
                | zero => intro j gw3 hj hg3 hn59; exact absurd hn59 (Nat.not_lt_zero _)
                | succ n59 ih59 =>
                  intro j gw3 hj hg3 hn59 H locs ls hP hD hS hl
                  refine lv_iload hx hb dX1_fillTable_59 (lv_at hl 6 rfl) ?_
                  refine lv_iload hx hb dX1_fillTable_61 (lv_at hl 5 rfl) ?_
                  refine nv_icmp_lt (X := ((j : Nat) : Int)) (Y := ((g 0 i : Nat) : Int)) hx hb (nI_toInt (by omega)) (nI_toInt (by omega)) (tgt := 98) dX1_fillTable_63 (by decide) (fun c_3 => ?_) (fun c_3 => ?_)
                  · skip
                    have hg4 : ∀ q, q ≤ allSh g → gw3 q = cnT g X2 (i + 1) q := fun q hq => by
                      rw [hg3 q hq]
                      split
                      · rfl
                      · rw [cnT_same (Or.inr (by omega))]
                    refine lv_iinc (v := nI (i + 1)) (lv' := [(4, .int (nI (i + 1))), (0, .ref (b 0)), (1, .ref (a 0)), (2, .int x2), (3, .int (nI (allSh g))), (5, .int (nI (g 0 i))), (6, .int (nI j))]) hx hb dX1_fillTable_98 hl (k := 4) rfl (nI_add i 1) (by decide) rfl (fun ls hl => ?_)
                    refine lv_goto (tgt := 38) hx hb dX1_fillTable_101 (by decide) ?_
                    exact ih38 (i + 1) gw3 (by omega) hg4 (by omega) _ _ _ hP hD hS (lv_sub hl [1, 2, 3, 4, 0] rfl)
                  · skip
                    refine lv_iload hx hb dX1_fillTable_66 (lv_at hl 4 rfl) ?_
                    refine lv_iload_n hx hb dX1_fillTable_68 rfl (lv_at hl 2 rfl) ?_
                    refine nv_icmp_eq (X := ((i : Nat) : Int)) (Y := X2) hx hb (nI_toInt (by omega)) hx2 (tgt := 98) dX1_fillTable_69 (by decide) (fun c_4 => ?_) (fun c_4 => ?_)
                    · skip
                      have hg4 : ∀ q, q ≤ allSh g → gw3 q = cnT g X2 (i + 1) q := fun q hq => by
                        rw [hg3 q hq]
                        split
                        · rfl
                        · rw [cnT_same (Or.inl (by omega))]
                      refine lv_iinc (v := nI (i + 1)) (lv' := [(4, .int (nI (i + 1))), (0, .ref (b 0)), (1, .ref (a 0)), (2, .int x2), (3, .int (nI (allSh g))), (5, .int (nI (g 0 i))), (6, .int (nI j))]) hx hb dX1_fillTable_98 hl (k := 4) rfl (nI_add i 1) (by decide) rfl (fun ls hl => ?_)
                      refine lv_goto (tgt := 38) hx hb dX1_fillTable_101 (by decide) ?_
                      exact ih38 (i + 1) gw3 (by omega) hg4 (by omega) _ _ _ hP hD hS (lv_sub hl [1, 2, 3, 4, 0] rfl)
                    · skip
                      refine lv_aload_n hx hb dX1_fillTable_72 rfl (lv_at hl 0 rfl) ?_
                      refine va_get (D := E.1) (ci := 5) (v := .ref (b 2)) (C := RX1) (T := TX1) (N := 2) hx hb hts inX1 hown hK hP 0 rfl rfl 1 (by decide) (hts _ q179) (fun _ h9 => h9) rfl dX1_fillTable_73 ?_
                      refine lv_iload hx hb dX1_fillTable_76 (lv_at hl 6 rfl) ?_
                      refine lv_dup2_11 hx hb dX1_fillTable_78 rfl rfl ?_
                      refine nv_iald (f := gw3) (i := j) (n := 401) hx hb hK hP 2 0 rfl rfl (by omega) (by decide) dX1_fillTable_79 ?_
                      refine lv_aload_n hx hb dX1_fillTable_80 rfl (lv_at hl 0 rfl) ?_
                      refine va_get (D := E.1) (ci := 5) (v := .ref (b 2)) (C := RX1) (T := TX1) (N := 2) hx hb hts inX1 hown hK hP 0 rfl rfl 1 (by decide) (hts _ q179) (fun _ h9 => h9) rfl dX1_fillTable_81 ?_
                      refine lv_iload hx hb dX1_fillTable_84 (lv_at hl 6 rfl) ?_
                      refine lv_iload hx hb dX1_fillTable_86 (lv_at hl 5 rfl) ?_
                      refine nv_isub hx hb (by omega) dX1_fillTable_88 ?_
                      refine nv_iald (f := gw3) (i := j - (g 0 i)) (n := 401) hx hb hK hP 2 0 rfl rfl (by omega) (by decide) dX1_fillTable_89 ?_
                      refine nv_iadd hx hb dX1_fillTable_90 ?_
                      refine nv_iast (f := gw3) (i := j) (v := gw3 j + (gw3 (j - (g 0 i)))) (n := 401) hx hb hK hP hD hS 2 0 rfl rfl (by omega) (by decide) dX1_fillTable_91 (fun H locs hP hD hS => ?_)
                      have hP : va_P E.1 vwCl ([grC E b so (upn gw3 j (gw3 j + (gw3 (j - (g 0 i))))), stC E a g] : List va_W).flatten H := hP
                      have hD : va_D A ([grC E b so (upn gw3 j (gw3 j + (gw3 (j - (g 0 i))))), stC E a g] : List va_W).flatten := hD
                      refine lv_iinc (v := nI (j - 1)) (lv' := [(6, .int (nI (j - 1))), (0, .ref (b 0)), (1, .ref (a 0)), (2, .int x2), (3, .int (nI (allSh g))), (4, .int (nI i)), (5, .int (nI (g 0 i)))]) hx hb dX1_fillTable_92 hl (k := 6) rfl (by rw [show Int32.ofInt (-1) = -nI 1 from by decide, ← Int32.sub_eq_add_neg]; exact pk_sub (by omega)) (by decide) rfl (fun ls hl => ?_)
                      refine lv_goto (tgt := 59) hx hb dX1_fillTable_95 (by decide) ?_
                      exact ih59 (j - 1) (upn gw3 j (gw3 j + (gw3 (j - (g 0 i))))) (by omega) (fun q hq => by
      by_cases z : q = j
      · subst z; rw [upn_s, if_pos (by omega), hg3 q (by omega), if_neg (by omega), hg3 (q - g 0 i) (by omega), if_neg (by omega), cnT_put (by omega) (by omega)]
      · rw [upn_n z, hg3 q hq]
        by_cases y : j < q
        · rw [if_pos y, if_pos (by omega)]
        · rw [if_neg y, if_neg (by omega)]) (by omega) _ _ _ hP hD hS (lv_sub hl [1, 2, 3, 4, 5, 6, 0] rfl)
              exact loop59 _ (allSh g) gw2 (by omega) (fun q hq => by rw [if_neg (by omega)]; exact hg2 q hq) (Nat.lt_succ_self _) _ _ _ hP hD hS (lv_sub hl [2, 3, 4, 5, 6, 1, 0] rfl)
        exact loop38 _ 0 (upn gw1 0 1) (by omega) (fun q hq => by rcases Nat.eq_zero_or_pos q with z | z; rw [z, upn_s]; rfl; rw [upn_n (by omega), hg q z (by omega)]; exact (if_neg (by omega)).symm) (Nat.lt_succ_self _) _ _ _ hP hD hS (lv_sub hl [1, 2, 3, 4, 0] rfl)
      · skip
        refine lv_aload_n hx hb dX1_fillTable_14 rfl (lv_at hl 0 rfl) ?_
        refine va_get (D := E.1) (ci := 5) (v := .ref (b 2)) (C := RX1) (T := TX1) (N := 2) hx hb hts inX1 hown hK hP 0 rfl rfl 1 (by decide) (hts _ q179) (fun _ h9 => h9) rfl dX1_fillTable_15 ?_
        refine lv_iload hx hb dX1_fillTable_18 (lv_at hl 4 rfl) ?_
        refine lv_iconst (v := nI 0) hx hb dX1_fillTable_20 (by decide) ?_
        refine nv_iast (f := gw1) (i := k) (v := 0) (n := 401) hx hb hK hP hD hS 2 0 rfl rfl (by omega) (by decide) dX1_fillTable_21 (fun H locs hP hD hS => ?_)
        have hP : va_P E.1 vwCl ([grC E b so (upn gw1 k 0), stC E a g] : List va_W).flatten H := hP
        have hD : va_D A ([grC E b so (upn gw1 k 0), stC E a g] : List va_W).flatten := hD
        refine lv_iinc (v := nI (k + 1)) (lv' := [(4, .int (nI (k + 1))), (0, .ref (b 0)), (1, .ref (a 0)), (2, .int x2), (3, .int (nI (allSh g)))]) hx hb dX1_fillTable_22 hl (k := 4) rfl (nI_add k 1) (by decide) rfl (fun ls hl => ?_)
        refine lv_goto (tgt := 8) hx hb dX1_fillTable_25 (by decide) ?_
        exact ih8 (k + 1) (upn gw1 k 0) (by omega) (by omega) (fun q h9 hq => by rcases Nat.lt_or_ge q k with z | z; rw [upn_n (by omega)]; exact hg q h9 z; rw [show q = k by omega, upn_s]) (by omega) _ _ _ hP hD hS (lv_sub hl [1, 2, 3, 4, 0] rfl)
  exact loop8 _ 1 gw (by omega) (by omega) (fun q h9 hq => absurd hq (by omega)) (Nat.lt_succ_self _) _ _ _ hP hD hS (lv_sub hl [2, 3, 4, 1, 0] rfl)
abbrev rm_X1_winningByTable : Room := { frames := 2, cells := 0, slots := 0, locals := 86 }
set_option maxHeartbeats 4000000 in
set_option maxRecDepth 100000 in
theorem c_X1_winningByTable (l : Launch) (E : EE) (sz : Nat) (b : Nat → Nat) (so gw : Nat → Nat) (a : Nat → Nat) (g : GG) (B : Nat) (hI : IB B g)  : MI l yX1_winningByTable cX1_winningByTable 2 .int rm_X1_winningByTable [.ref (b 0), .ref (a 0)] E sz [grC E b so gw, stC E a g] (fun (r : Int32) (u : (Nat → Nat) × (Nat → Nat)) => r = nI (winN g)) (fun u => [grC E b u.1 u.2, stC E a g]) 0 0 := by
  refine mi_go (by decide) (Nat.le_of_ble_eq_true rfl) ?_
  intro p e s m below meth c A Q ls hx hb hml hown hts hK hZ hA hsz hP hD hl hret
  have hS : va_S A s.heap s.heap [] := va_S.rf
  have hl : lv_has ls 2 [(0, .ref (b 0)), (1, .ref (a 0))] := hl
  skip
  have hmc := hI.mc
  have hbu := hI.bud
  have hsh : allSh g ≤ 50 * g 8 0 := hI.shs (Nat.le_refl _)
  have hqd : quo g = allSh g / 2 + 1 := rfl
  have h256 := p256' hI (Nat.le_refl (g 8 0))
  refine lv_aload_n hx hb dX1_winningByTable_0 rfl (lv_at hl 0 rfl) ?_
  refine lv_aload_n hx hb dX1_winningByTable_1 rfl (lv_at hl 1 rfl) ?_
  refine run_i (S := Unit) (run_V (As := []) (rest := [.ref (b 0)]) (bs := [grC E b so gw, stC E a g]) (cb := [stC E a g]) hx hb hml hown hts hK hZ hA (c_X4_neededShares l E _ a g  _ hI) l_X1_18 rfl ⟨⟨rfl, rfl⟩, Nat.le_of_ble_eq_true rfl, Nat.le_of_ble_eq_true rfl⟩ 8 rfl [1] rfl (by decide) rfl hP hD hS hl.1 rfl (Nat.le_of_ble_eq_true rfl) dX1_winningByTable_2 ⟨Nat.zero_le _, Nat.zero_le _⟩) hA hP hD hS (isC := [1]) rfl [0] [0, 1] (br := [grC E b so gw]) (bs2 := fun _ => [grC E b so gw, stC E a g]) rfl (by decide) (fun _ => rfl) (by decide) (fun r u H locs hw hP hD hS => ?_)
  subst hw
  refine lv_aload_n hx hb dX1_winningByTable_5 rfl (lv_at hl 0 rfl) ?_
  refine lv_aload_n hx hb dX1_winningByTable_6 rfl (lv_at hl 1 rfl) ?_
  refine lv_iconst (v := -1) hx hb dX1_winningByTable_7 (by decide) ?_
  refine run_i (S := Nat → Nat) (run_V (As := [.ref (a 0), .int (-1 : Int32)]) (rest := [.int (nI (quo g)), .ref (b 0)]) (bs := [grC E b so gw, stC E a g]) (cb := [grC E b so gw, stC E a g]) hx hb hml hown hts hK hZ hA (c_X1_fillTable l E _ b so gw a g _ hI (-1 : Int32) (-1) (by decide)) l_X1_51 rfl ⟨⟨rfl, rfl⟩, Nat.le_of_ble_eq_true rfl, Nat.le_of_ble_eq_true rfl⟩ 5 rfl [0, 1] rfl (by decide) rfl hP hD hS hl.1 rfl (Nat.le_of_ble_eq_true rfl) dX1_winningByTable_8 ⟨Nat.zero_le _, Nat.zero_le _⟩) hA hP hD hS (isC := [0, 1]) rfl [] [0, 1] (br := []) (bs2 := fun u => [grC E b so u, stC E a g]) rfl (by decide) (fun _ => rfl) (by decide) (fun r gw_1 H locs hw hP hD hS => ?_)
  obtain ⟨rfl, hgw_2⟩ := hw
  refine run_i (S := Unit) (run_V (As := [.int (nI (quo g)), .int (nI (allSh g))]) (rest := []) (bs := [grC E b so gw_1, stC E a g]) (cb := [grC E b so gw_1]) hx hb hml hown hts hK hZ hA (c_X1_countBetween l E _ b so gw_1 (quo g) (allSh g) (by omega) (by omega)) l_X1_54 rfl ⟨⟨rfl, rfl⟩, Nat.le_of_ble_eq_true rfl, Nat.le_of_ble_eq_true rfl⟩ 5 rfl [0] rfl (by decide) rfl hP hD hS hl.1 rfl (Nat.le_of_ble_eq_true rfl) dX1_winningByTable_11 ⟨Nat.zero_le _, Nat.zero_le _⟩) hA hP hD hS (isC := [0]) rfl [1] [1, 0] (br := [stC E a g]) (bs2 := fun _ => [grC E b so gw_1, stC E a g]) rfl (by decide) (fun _ => rfl) (by decide) (fun r u H locs hw hP hD hS => ?_)
  subst hw
  exact hret _ _ (nI (sm (fun k => gw_1 ((quo g) + k)) ((allSh g) + 1 - (quo g)))) (so, gw_1) _ _ hP hD hS rfl (by rw [← win_tab (g := g)]; exact congrArg nI (sm_cong (fun k hk => hgw_2 _ (by omega)))) dX1_winningByTable_14
abbrev rm_X1_decisiveByTable : Room := { frames := 2, cells := 0, slots := 0, locals := 86 }
set_option maxHeartbeats 4000000 in
set_option maxRecDepth 100000 in
theorem c_X1_decisiveByTable (l : Launch) (E : EE) (sz : Nat) (b : Nat → Nat) (so gw : Nat → Nat) (a : Nat → Nat) (g : GG) (B : Nat) (hI : IB B g) (m0 : Nat) (hm : m0 < g 8 0) : MI l yX1_decisiveByTable cX1_decisiveByTable 4 .int rm_X1_decisiveByTable [.ref (b 0), .ref (a 0), .int (nI m0)] E sz [grC E b so gw, stC E a g] (fun (r : Int32) (u : (Nat → Nat) × (Nat → Nat)) => r = nI (powN g m0)) (fun u => [grC E b u.1 u.2, stC E a g]) 0 0 := by
  refine mi_go (by decide) (Nat.le_of_ble_eq_true rfl) ?_
  intro p e s m below meth c A Q ls hx hb hml hown hts hK hZ hA hsz hP hD hl hret
  have hS : va_S A s.heap s.heap [] := va_S.rf
  have hl : lv_has ls 4 [(0, .ref (b 0)), (1, .ref (a 0)), (2, .int (nI m0))] := hl
  skip
  have hmc := hI.mc
  have hbu := hI.bud
  have hsh : allSh g ≤ 50 * g 8 0 := hI.shs (Nat.le_refl _)
  have hqd : quo g = allSh g / 2 + 1 := rfl
  have h256 := p256' hI (Nat.le_refl (g 8 0))
  have hmb := hI.mem hm
  have hT := allSh_pos hI (show 0 < g 8 0 by omega)
  refine lv_aload_n hx hb dX1_decisiveByTable_0 rfl (lv_at hl 1 rfl) ?_
  refine run_i (S := Unit) (run_V (As := []) (rest := []) (bs := [grC E b so gw, stC E a g]) (cb := [stC E a g]) hx hb hml hown hts hK hZ hA (c_X4_neededShares l E _ a g  _ hI) l_X1_18 rfl ⟨⟨rfl, rfl⟩, Nat.le_of_ble_eq_true rfl, Nat.le_of_ble_eq_true rfl⟩ 8 rfl [1] rfl (by decide) rfl hP hD hS hl.1 rfl (Nat.le_of_ble_eq_true rfl) dX1_decisiveByTable_1 ⟨Nat.zero_le _, Nat.zero_le _⟩) hA hP hD hS (isC := [1]) rfl [0] [0, 1] (br := [grC E b so gw]) (bs2 := fun _ => [grC E b so gw, stC E a g]) rfl (by decide) (fun _ => rfl) (by decide) (fun r u H locs hw hP hD hS => ?_)
  subst hw
  refine lv_istore_n (lv' := [(3, .int (nI (quo g))), (0, .ref (b 0)), (1, .ref (a 0)), (2, .int (nI m0))]) hx hb dX1_decisiveByTable_4 rfl hl (by decide) rfl (fun ls hl => ?_)
  refine lv_aload_n hx hb dX1_decisiveByTable_5 rfl (lv_at hl 1 rfl) ?_
  refine lv_aload_n hx hb dX1_decisiveByTable_6 rfl (lv_at hl 2 rfl) ?_
  refine lv_iload_n hx hb dX1_decisiveByTable_7 rfl (lv_at hl 3 rfl) ?_
  refine run_i (S := Nat → Nat) (run_V (As := [.ref (a 0), .int (nI m0)]) (rest := []) (bs := [grC E b so gw, stC E a g]) (cb := [grC E b so gw, stC E a g]) hx hb hml hown hts hK hZ hA (c_X1_fillTable l E _ b so gw a g _ hI (nI m0) ((m0 : Nat) : Int) (nI_toInt (by omega))) l_X1_51 rfl ⟨⟨rfl, rfl⟩, Nat.le_of_ble_eq_true rfl, Nat.le_of_ble_eq_true rfl⟩ 5 rfl [0, 1] rfl (by decide) rfl hP hD hS hl.1 rfl (Nat.le_of_ble_eq_true rfl) dX1_decisiveByTable_8 ⟨Nat.zero_le _, Nat.zero_le _⟩) hA hP hD hS (isC := [0, 1]) rfl [] [0, 1] (br := []) (bs2 := fun u => [grC E b so u, stC E a g]) rfl (by decide) (fun _ => rfl) (by decide) (fun r gw_1 H locs hw hP hD hS => ?_)
  obtain ⟨rfl, hgw_2⟩ := hw
  refine lv_pop hx hb dX1_decisiveByTable_11 rfl ?_
  refine lv_aload_n hx hb dX1_decisiveByTable_12 rfl (lv_at hl 1 rfl) ?_
  refine lv_iconst (v := nI 0) hx hb dX1_decisiveByTable_13 (by decide) ?_
  refine lv_iload_n hx hb dX1_decisiveByTable_14 rfl (lv_at hl 0 rfl) ?_
  refine lv_aload_n hx hb dX1_decisiveByTable_15 rfl (lv_at hl 2 rfl) ?_
  refine va_get (D := E.1) (ci := 8) (v := .ref (a 1)) (C := RX4) (T := TX4) (N := 16) hx hb hts inX4 hown hK hP 3 rfl rfl 0 (by decide) (hts _ q67) (fun _ h9 => h9) rfl dX1_decisiveByTable_16 ?_
  refine lv_iload_n hx hb dX1_decisiveByTable_19 rfl (lv_at hl 3 rfl) ?_
  refine nv_iald (f := (g 0)) (i := m0) (n := 8) hx hb hK hP 4 0 rfl rfl (by omega) (by decide) dX1_decisiveByTable_20 ?_
  refine lv_isub hx hb dX1_decisiveByTable_21 ?_
  refine va_mmax hx hb (hml.trans hl.1.symm) hown (hts _ q1145) (hts _ q734) (hts _ q39) (hts _ q735) (Nat.le_of_ble_eq_true rfl) (Nat.le_of_ble_eq_true rfl) (Nat.le_of_ble_eq_true rfl) (Nat.le_of_ble_eq_true rfl) dX1_decisiveByTable_22 ?_
  refine tp_i (mx0 (a := quo g) (b := g 0 m0) (isub_t (nI_toInt (by omega)) (nI_toInt (by omega)) (by omega) (by omega)) (by omega)) ?_
  refine lv_iload_n hx hb dX1_decisiveByTable_25 rfl (lv_at hl 0 rfl) ?_
  refine lv_iconst (v := nI 1) hx hb dX1_decisiveByTable_26 (by decide) ?_
  refine nv_isub hx hb (by omega) dX1_decisiveByTable_27 ?_
  refine run_i (S := Unit) (run_V (As := [.int (nI (quo g - g 0 m0)), .int (nI ((quo g) - 1))]) (rest := []) (bs := [grC E b so gw_1, stC E a g]) (cb := [grC E b so gw_1]) hx hb hml hown hts hK hZ hA (c_X1_countBetween l E _ b so gw_1 (quo g - g 0 m0) ((quo g) - 1) (by omega) (by omega)) l_X1_54 rfl ⟨⟨rfl, rfl⟩, Nat.le_of_ble_eq_true rfl, Nat.le_of_ble_eq_true rfl⟩ 5 rfl [0] rfl (by decide) rfl hP hD hS hl.1 rfl (Nat.le_of_ble_eq_true rfl) dX1_decisiveByTable_28 ⟨Nat.zero_le _, Nat.zero_le _⟩) hA hP hD hS (isC := [0]) rfl [1] [1, 0] (br := [stC E a g]) (bs2 := fun _ => [grC E b so gw_1, stC E a g]) rfl (by decide) (fun _ => rfl) (by decide) (fun r u H locs hw hP hD hS => ?_)
  subst hw
  exact hret _ _ (nI (sm (fun k => gw_1 ((quo g - g 0 m0) + k)) (((quo g) - 1) + 1 - (quo g - g 0 m0)))) (so, gw_1) _ _ hP hD hS rfl (by rw [← pow_tab hI hm]; exact congrArg nI (sm_cong (fun k hk => hgw_2 _ (by omega)))) dX1_decisiveByTable_31
