abbrev rm_J9_floorMod_7cf53 : Room := { frames := 0, cells := 0, slots := 0, locals := 0 }
set_option maxHeartbeats 4000000 in
set_option maxRecDepth 100000 in
theorem c_J9_floorMod_7cf53 (l : Launch) (E : EE) (sz : Nat) (x0 : Int32) (X0 : Int) (hx0 : x0.toInt = X0) (h1 : -1073741824 < X0) (h2 : X0 < 1073741824) (n1 : Nat) (h3 : 0 < n1) (h4 : n1 < 1073741824) : MI l yJ9_floorMod_7cf53 cJ9_floorMod_7cf53 3 .int rm_J9_floorMod_7cf53 [.int x0, .int (nI n1)] E sz [] (fun (r : Int32) (_ : Unit) => r = nI (X0 % (n1 : Int)).toNat) (fun _ => []) 0 0 := by
  refine mi_goF (by decide +kernel) (Nat.le_of_ble_eq_true rfl) ?_
  intro p e s m below meth c A Q ls hx hb hml hown hts hK hZ hA hsz hP hD hl hret
  have hS : va_S A s.heap s.heap [] := va_S.rf
  have hl : lv_has ls 3 [(0, .int x0), (1, .int (nI n1))] := hl
  skip
  have hem := Int.emod_nonneg X0 (show (n1 : Int) ≠ 0 by omega)
  have hel := Int.emod_lt_of_pos X0 (show (0 : Int) < (n1 : Int) by omega)
  have htm := Int.tmod_eq_emod (a := X0) (b := (n1 : Int))
  have htl := Int.lt_tmod_of_pos X0 (show (0 : Int) < (n1 : Int) by omega)
  have htu := Int.tmod_lt_of_pos X0 (show (0 : Int) < (n1 : Int) by omega)
  have hdv := @Int.emod_eq_zero_of_dvd (n1 : Int) X0
  refine lv_iload_n hx hb dJ9_floorMod_7cf53_0 rfl (lv_at hl 0 rfl) ?_
  refine lv_iload_n hx hb dJ9_floorMod_7cf53_1 rfl (lv_at hl 1 rfl) ?_
  refine lv_irem hx hb dJ9_floorMod_7cf53_2 (nI_ne0 (by omega) (by omega)) ?_
  refine lv_istore_n (lv' := [(2, .int (x0 - x0 / nI n1 * nI n1)), (0, .int x0), (1, .int (nI n1))]) hx hb dJ9_floorMod_7cf53_3 rfl hl (by decide) rfl (fun ls hl => ?_)
  refine lv_iload_n hx hb dJ9_floorMod_7cf53_4 rfl (lv_at hl 1 rfl) ?_
  refine lv_iload_n hx hb dJ9_floorMod_7cf53_5 rfl (lv_at hl 2 rfl) ?_
  refine lv_ixor hx hb dJ9_floorMod_7cf53_6 ?_
  refine nv_if_ge (X := (x0 ^^^ nI n1).toInt) hx hb rfl (tgt := 18) dJ9_floorMod_7cf53_7 (by decide) (fun c_1 => ?_) (fun c_1 => ?_)
  · skip
    have hs : 0 ≤ X0 := by rw [← hx0]; exact (msb_xor_n (by omega)).mp c_1
    refine lv_iload_n hx hb dJ9_floorMod_7cf53_18 rfl (lv_at hl 0 rfl) ?_
    exact hret _ _ (x0 - x0 / nI n1 * nI n1) () _ _ hP hD hS rfl (eq_nI (irem_t hx0 (nI_toInt (by omega)) (by omega) (by omega) (by omega) (by omega)) (by split at htm <;> omega) (by omega)) dJ9_floorMod_7cf53_19
  · skip
    have hs : X0 < 0 := by rw [← hx0]; exact Int.not_le.mp (fun q => absurd ((msb_xor_n (n := n1) (by omega)).mpr q) (by omega))
    refine lv_iload_n hx hb dJ9_floorMod_7cf53_10 rfl (lv_at hl 0 rfl) ?_
    refine nv_if_eq (X := X0.tmod (n1 : Int)) hx hb (irem_t hx0 (nI_toInt (by omega)) (by omega) (by omega) (by omega) (by omega)) (tgt := 18) dJ9_floorMod_7cf53_11 (by decide) (fun c_2 => ?_) (fun c_2 => ?_)
    · skip
      refine lv_iload_n hx hb dJ9_floorMod_7cf53_18 rfl (lv_at hl 0 rfl) ?_
      exact hret _ _ (x0 - x0 / nI n1 * nI n1) () _ _ hP hD hS rfl (eq_nI (irem_t hx0 (nI_toInt (by omega)) (by omega) (by omega) (by omega) (by omega)) (by split at htm <;> omega) (by omega)) dJ9_floorMod_7cf53_19
    · skip
      refine lv_iload_n hx hb dJ9_floorMod_7cf53_14 rfl (lv_at hl 0 rfl) ?_
      refine lv_iload_n hx hb dJ9_floorMod_7cf53_15 rfl (lv_at hl 2 rfl) ?_
      refine lv_iadd hx hb dJ9_floorMod_7cf53_16 ?_
      exact hret _ _ (x0 - x0 / nI n1 * nI n1 + nI n1) () _ _ hP hD hS rfl (eq_nI (iadd_t (irem_t hx0 (nI_toInt (by omega)) (by omega) (by omega) (by omega) (by omega)) (nI_toInt (by omega)) (by omega) (by omega)) (by split at htm <;> omega) (by omega)) dJ9_floorMod_7cf53_17
abbrev rm_X4_dueByPattern : Room := { frames := 1, cells := 0, slots := 0, locals := 22 }
set_option maxHeartbeats 4000000 in
set_option maxRecDepth 100000 in
theorem c_X4_dueByPattern (l : Launch) (E : EE) (sz : Nat) (a : Nat → Nat) (g : GG) (B : Nat) (hI : IB B g) (m0 : Nat) (hm : m0 < g 8 0) : ML l yX4_dueByPattern cX4_dueByPattern 6 rm_X4_dueByPattern [.ref (a 0), .int (nI m0)] E sz [stC E a g] (fun (r : Int64) (_ : Unit) => r = lN (dlk g m0 60)) (fun _ => [stC E a g]) 0 0 := by
  refine ml_go (by decide) (Nat.le_of_ble_eq_true rfl) ?_
  intro p e s m below meth c A Q ls hx hb hml hown hts hK hZ hA hsz hP hD hl hret
  have hS : va_S A s.heap s.heap [] := va_S.rf
  have hl : lv_has ls 6 [(0, .ref (a 0)), (1, .int (nI m0))] := hl
  skip
  have hmc := hI.mc
  have hbu := hI.bud
  have hmb := hI.mem hm
  have hfm := fmd_lt (g := g) (m := m0) (by omega)
  refine lv_aload_n hx hb dX4_dueByPattern_0 rfl (lv_at hl 0 rfl) ?_
  refine va_get (D := E.1) (ci := 8) (v := .ref (a 2)) (C := RX4) (T := TX4) (N := 16) hx hb hts inX4 hown hK hP 0 rfl rfl 1 (by decide) (hts _ q70) (fun _ h9 => h9) rfl dX4_dueByPattern_1 ?_
  refine lv_iload_n hx hb dX4_dueByPattern_4 rfl (lv_at hl 1 rfl) ?_
  refine nv_iald (f := (g 1)) (i := m0) (n := 8) hx hb hK hP 2 0 rfl rfl (by omega) (by decide) dX4_dueByPattern_5 ?_
  refine lv_istore_n (lv' := [(2, .int (nI (g 1 m0))), (0, .ref (a 0)), (1, .int (nI m0))]) hx hb dX4_dueByPattern_6 rfl hl (by decide) rfl (fun ls hl => ?_)
  refine lv_iload_n hx hb dX4_dueByPattern_7 rfl (lv_at hl 0 rfl) ?_
  refine nv_if_gt (X := ((g 1 m0 : Nat) : Int)) hx hb (nI_toInt (by omega)) (tgt := 13) dX4_dueByPattern_8 (by decide) (fun c_1 => ?_) (fun c_1 => ?_)
  · skip
    refine lv_lconst (v := lN 1) hx hb dX4_dueByPattern_13 (by decide) ?_
    refine lv_aload_n hx hb dX4_dueByPattern_14 rfl (lv_at hl 1 rfl) ?_
    refine va_get (D := E.1) (ci := 8) (v := .ref (a 3)) (C := RX4) (T := TX4) (N := 16) hx hb hts inX4 hown hK hP 0 rfl rfl 2 (by decide) (hts _ q72) (fun _ h9 => h9) rfl dX4_dueByPattern_15 ?_
    refine lv_iload_n hx hb dX4_dueByPattern_18 rfl (lv_at hl 2 rfl) ?_
    refine nv_iald (f := (g 2)) (i := m0) (n := 8) hx hb hK hP 3 0 rfl rfl (by omega) (by decide) dX4_dueByPattern_19 ?_
    refine lv_aload_n hx hb dX4_dueByPattern_20 rfl (lv_at hl 1 rfl) ?_
    refine va_get (D := E.1) (ci := 8) (v := .int (nI (g 8 1))) (C := RX4) (T := TX4) (N := 16) hx hb hts inX4 hown hK hP 0 rfl rfl 10 (by decide) (hts _ q91) (fun _ h9 => h9) rfl dX4_dueByPattern_21 ?_
    refine lv_isub hx hb dX4_dueByPattern_24 ?_
    refine lv_iconst (v := nI 1) hx hb dX4_dueByPattern_25 (by decide) ?_
    refine lv_isub hx hb dX4_dueByPattern_26 ?_
    refine lv_iload_n hx hb dX4_dueByPattern_27 rfl (lv_at hl 0 rfl) ?_
    refine run_i (S := Unit) (run_S (As := [.int (nI (g 2 m0) - nI (g 8 1) - nI 1), .int (nI (g 1 m0))]) (rest := [.long (lN 1)]) (bs := [stC E a g]) (cb := []) hx hb hml hown hts hK hZ hA (c_J9_floorMod_7cf53 l E _ (nI (g 2 m0) - nI (g 8 1) - nI 1) ((g 2 m0 : Int) - (g 8 1 : Int) - 1) (isub_t (isub_t (nI_toInt (by omega)) (nI_toInt (by omega)) (by omega) (by omega)) (nI_toInt (by omega)) (by omega) (by omega)) (by omega) (by omega) (g 1 m0) (by omega) (by omega)) l_X4_96 rfl ⟨⟨rfl, rfl⟩, Nat.le_of_ble_eq_true rfl, Nat.le_of_ble_eq_true rfl⟩ [] rfl (by decide) hP hD hS hl.1 rfl (Nat.le_of_ble_eq_true rfl) dX4_dueByPattern_28 ⟨Nat.zero_le _, Nat.zero_le _⟩) hA hP hD hS (isC := []) rfl [0] [0] (br := [stC E a g]) (bs2 := fun _ => [stC E a g]) rfl (by decide) (fun _ => rfl) (by decide) (fun r u H locs hw hP hD hS => ?_)
    subst hw
    refine nv_lshl hx hb (by show fmd g m0 < 64; omega) dX4_dueByPattern_31 ?_
    refine lv_lstore_n (lv' := [(3, .long (lN (1 * 2 ^ (fmd g m0)))), (2, .int (nI (g 1 m0))), (0, .ref (a 0)), (1, .int (nI m0))]) hx hb dX4_dueByPattern_32 rfl hl (by decide) rfl (fun ls hl => ?_)
    refine lv_iconst (v := nI 0) hx hb dX4_dueByPattern_33 (by decide) ?_
    refine lv_istore (lv' := [(5, .int (nI 0)), (3, .long (lN (1 * 2 ^ (fmd g m0)))), (2, .int (nI (g 1 m0))), (0, .ref (a 0)), (1, .int (nI m0))]) hx hb dX4_dueByPattern_34 hl (by decide) rfl (fun ls hl => ?_)
    have loop36 : ∀ (n : Nat) (d : Nat), (d ≤ 5) → 5 - d < n → ∀ (H : Heap) (locs : List Loc) (ls : Array Slot), va_P E.1 vwCl ([stC E a g] : List va_W).flatten H → va_D A ([stC E a g] : List va_W).flatten → va_S A s.heap H locs → lv_has ls 6 [(0, .ref (a 0)), (1, .int (nI m0)), (2, .int (nI (g 1 m0 * 2 ^ d))), (3, .long (lN (pat (fmd g m0) (g 1 m0) d))), (5, .int (nI d))] → W p l e rm_X4_dueByPattern s m ([.ref (a 0), .int (nI m0)] : List Value).toArray below meth c H locs 0 0 Q (F0 m 36 ls []) := by
      intro n
      induction n with
      | zero => intro d hd hn; exact absurd hn (Nat.not_lt_zero _)
      | succ n ih =>
        intro d hd hn H locs ls hP hD hS hl
        refine lv_iload hx hb dX4_dueByPattern_36 (lv_at hl 4 rfl) ?_
        refine lv_iconst (v := nI 5) hx hb dX4_dueByPattern_38 (by decide) ?_
        refine nv_icmp_ge (X := ((d : Nat) : Int)) (Y := ((5 : Nat) : Int)) hx hb (nI_toInt (by omega)) (nI_toInt (by omega)) (tgt := 64) dX4_dueByPattern_39 (by decide) (fun c_2 => ?_) (fun c_2 => ?_)
        · skip
          have hcov : 60 ≤ g 1 m0 * 2 ^ d := by rw [show d = 5 by omega]; omega
          refine lv_lload_n hx hb dX4_dueByPattern_64 rfl (lv_at hl 3 rfl) ?_
          refine lv_ldc2 hx hb hown (hts _ q1251) dX4_dueByPattern_65 ?_
          refine tp_l (show (1152921504606846975 : Int64) = lN (2 ^ 60 - 1) from by decide +kernel) ?_
          refine nv_land hx hb (pat_lt (by omega)) (by decide) dX4_dueByPattern_68 ?_
          exact hret _ _ (lN (pat (fmd g m0) (g 1 m0) d &&& (2 ^ 60 - 1))) () _ _ hP hD hS (by rw [← pat_dlk (by omega) (by omega) hcov]) dX4_dueByPattern_69
        · skip
          have hpw : g 1 m0 * 2 ^ d ≤ 12 * 32 := Nat.mul_le_mul (by omega) (Nat.pow_le_pow_right (n := 2) (by decide) (show d ≤ 5 by omega))
          refine lv_iload_n hx hb dX4_dueByPattern_42 rfl (lv_at hl 2 rfl) ?_
          refine lv_bipush (v := nI 60) hx hb dX4_dueByPattern_43 (by decide) ?_
          refine nv_icmp_ge (X := ((g 1 m0 * 2 ^ d : Nat) : Int)) (Y := ((60 : Nat) : Int)) hx hb (nI_toInt (by omega)) (nI_toInt (by omega)) (tgt := 64) dX4_dueByPattern_45 (by decide) (fun c_3 => ?_) (fun c_3 => ?_)
          · skip
            have hcov : 60 ≤ g 1 m0 * 2 ^ d := by omega
            refine lv_lload_n hx hb dX4_dueByPattern_64 rfl (lv_at hl 3 rfl) ?_
            refine lv_ldc2 hx hb hown (hts _ q1251) dX4_dueByPattern_65 ?_
            refine tp_l (show (1152921504606846975 : Int64) = lN (2 ^ 60 - 1) from by decide +kernel) ?_
            refine nv_land hx hb (pat_lt (by omega)) (by decide) dX4_dueByPattern_68 ?_
            exact hret _ _ (lN (pat (fmd g m0) (g 1 m0) d &&& (2 ^ 60 - 1))) () _ _ hP hD hS (by rw [← pat_dlk (by omega) (by omega) hcov]) dX4_dueByPattern_69
          · skip
            refine lv_lload_n hx hb dX4_dueByPattern_48 rfl (lv_at hl 3 rfl) ?_
            refine lv_lload_n hx hb dX4_dueByPattern_49 rfl (lv_at hl 3 rfl) ?_
            refine lv_iload_n hx hb dX4_dueByPattern_50 rfl (lv_at hl 2 rfl) ?_
            refine nv_lshl hx hb (by omega) dX4_dueByPattern_51 ?_
            refine tp_l (wb_mod _) ?_
            refine nv_lor hx hb (pat_lt (by omega)) (Nat.mod_lt _ (by decide)) dX4_dueByPattern_52 ?_
            refine lv_lstore_n (lv' := [(3, .long (lN (pat (fmd g m0) (g 1 m0) d ||| ((pat (fmd g m0) (g 1 m0) d * 2 ^ (g 1 m0 * 2 ^ d)) % 2 ^ 64)))), (0, .ref (a 0)), (1, .int (nI m0)), (2, .int (nI (g 1 m0 * 2 ^ d))), (5, .int (nI d))]) hx hb dX4_dueByPattern_53 rfl hl (by decide) rfl (fun ls hl => ?_)
            refine lv_iload_n hx hb dX4_dueByPattern_54 rfl (lv_at hl 3 rfl) ?_
            refine lv_iconst (v := nI 2) hx hb dX4_dueByPattern_55 (by decide) ?_
            refine nv_imul hx hb dX4_dueByPattern_56 ?_
            refine lv_istore_n (lv' := [(2, .int (nI ((g 1 m0 * 2 ^ d) * 2))), (3, .long (lN (pat (fmd g m0) (g 1 m0) d ||| ((pat (fmd g m0) (g 1 m0) d * 2 ^ (g 1 m0 * 2 ^ d)) % 2 ^ 64)))), (0, .ref (a 0)), (1, .int (nI m0)), (5, .int (nI d))]) hx hb dX4_dueByPattern_57 rfl hl (by decide) rfl (fun ls hl => ?_)
            refine lv_iinc (v := nI (d + 1)) (lv' := [(5, .int (nI (d + 1))), (2, .int (nI ((g 1 m0 * 2 ^ d) * 2))), (3, .long (lN (pat (fmd g m0) (g 1 m0) d ||| ((pat (fmd g m0) (g 1 m0) d * 2 ^ (g 1 m0 * 2 ^ d)) % 2 ^ 64)))), (0, .ref (a 0)), (1, .int (nI m0))]) hx hb dX4_dueByPattern_58 hl (k := 4) rfl (nI_add d 1) (by decide) rfl (fun ls hl => ?_)
            rw [show (pat (fmd g m0) (g 1 m0) d ||| ((pat (fmd g m0) (g 1 m0) d * 2 ^ (g 1 m0 * 2 ^ d)) % 2 ^ 64)) = pat (fmd g m0) (g 1 m0) (d + 1) from rfl] at hl
            rw [show (g 1 m0 * 2 ^ d) * 2 = g 1 m0 * 2 ^ (d + 1) from by rw [Nat.pow_succ, Nat.mul_assoc]] at hl
            refine lv_goto (tgt := 36) hx hb dX4_dueByPattern_61 (by decide) ?_
            exact ih (d + 1) (by omega) (by omega) _ _ _ hP hD hS (lv_sub hl [3, 4, 1, 2, 0] rfl)
    have hl : lv_has ls 6 [(5, .int (nI 0)), (3, .long (lN (1 * 2 ^ fmd g m0))), (2, .int (nI (g 1 m0 * 2 ^ 0))), (0, .ref (a 0)), (1, .int (nI m0))] := by rw [Nat.pow_zero, Nat.mul_one]; exact hl
    exact loop36 _ 0 (by omega) (Nat.lt_succ_self _) _ _ _ hP hD hS (lv_sub hl [3, 4, 2, 1, 0] rfl)
  · exact absurd c_1 (by omega)
abbrev rm_X4_isInFavour : Room := { frames := 1, cells := 0, slots := 0, locals := 22 }
set_option maxHeartbeats 4000000 in
set_option maxRecDepth 100000 in
theorem c_X4_isInFavour (l : Launch) (E : EE) (sz : Nat) (a : Nat → Nat) (g : GG) (m0 t0 k0 : Nat) (hm : m0 < 8) (h1 : g 3 m0 ≤ 11) (h2 : t0 ≤ 11) (h3 : k0 ≤ 6) : MI l yX4_isInFavour cX4_isInFavour 4 .boolean rm_X4_isInFavour [.ref (a 0), .int (nI m0), .int (nI t0), .int (nI k0)] E sz [stC E a g] (fun (r : Int32) (_ : Unit) => r = bI (inF g m0 t0 k0)) (fun _ => [stC E a g]) 0 0 := by
  refine mi_go (by decide) (Nat.le_of_ble_eq_true rfl) ?_
  intro p e s m below meth c A Q ls hx hb hml hown hts hK hZ hA hsz hP hD hl hret
  have hS : va_S A s.heap s.heap [] := va_S.rf
  have hl : lv_has ls 4 [(0, .ref (a 0)), (1, .int (nI m0)), (2, .int (nI t0)), (3, .int (nI k0))] := hl
  skip
  have hap := ap_le h1 h2
  refine lv_aload_n hx hb dX4_isInFavour_0 rfl (lv_at hl 0 rfl) ?_
  refine va_get (D := E.1) (ci := 8) (v := .ref (a 4)) (C := RX4) (T := TX4) (N := 16) hx hb hts inX4 hown hK hP 0 rfl rfl 3 (by decide) (hts _ q74) (fun _ h9 => h9) rfl dX4_isInFavour_1 ?_
  refine lv_iload_n hx hb dX4_isInFavour_4 rfl (lv_at hl 1 rfl) ?_
  refine nv_iald (f := (g 3)) (i := m0) (n := 8) hx hb hK hP 4 0 rfl rfl (by omega) (by decide) dX4_isInFavour_5 ?_
  refine lv_iload_n hx hb dX4_isInFavour_6 rfl (lv_at hl 2 rfl) ?_
  refine run_i (S := Unit) (run_SN (As := [.int (nI (g 3 m0)), .int (nI t0)]) (rest := []) (bs := [stC E a g]) (cb := []) hx hb hml hown hts hK hZ hA (c_X5_stepsBetween l E _ (g 3 m0) t0 (by omega) (by omega)) (n := 2) (w0 := List.mem_of_getElem? (i := 6) rfl) ⟨⟨q587, q22, q588⟩, by decide +kernel⟩ rfl ⟨⟨rfl, rfl⟩, Nat.le_of_ble_eq_true rfl, Nat.le_of_ble_eq_true rfl⟩ [] rfl (by decide) hP hD hS hl.1 rfl (Nat.le_of_ble_eq_true rfl) dX4_isInFavour_7 ⟨Nat.zero_le _, Nat.zero_le _⟩) hA hP hD hS (isC := []) rfl [0] [0] (br := [stC E a g]) (bs2 := fun _ => [stC E a g]) rfl (by decide) (fun _ => rfl) (by decide) (fun r u H locs hw hP hD hS => ?_)
  subst hw
  refine lv_iload_n hx hb dX4_isInFavour_10 rfl (lv_at hl 3 rfl) ?_
  refine nv_icmp_gt (X := ((ap (g 3 m0) t0 : Nat) : Int)) (Y := ((k0 : Nat) : Int)) hx hb (nI_toInt (by omega)) (nI_toInt (by omega)) (tgt := 18) dX4_isInFavour_11 (by decide) (fun c_1 => ?_) (fun c_1 => ?_)
  · skip
    refine lv_iconst (v := nI 0) hx hb dX4_isInFavour_18 (by decide) ?_
    exact hret _ _ (nI 0) () _ _ hP hD hS (by decide) (bf_of (by omega)) dX4_isInFavour_19
  · skip
    refine lv_iconst (v := nI 1) hx hb dX4_isInFavour_14 (by decide) ?_
    refine lv_goto (tgt := 19) hx hb dX4_isInFavour_15 (by decide) ?_
    exact hret _ _ (nI 1) () _ _ hP hD hS (by decide) (bt_of (by omega)) dX4_isInFavour_19
abbrev rm_X4_sharesFor : Room := { frames := 2, cells := 0, slots := 0, locals := 45 }
set_option maxHeartbeats 4000000 in
set_option maxRecDepth 100000 in
theorem c_X4_sharesFor (l : Launch) (E : EE) (sz : Nat) (a : Nat → Nat) (g : GG) (B : Nat) (hI : IB B g) (t0 k0 : Nat) (h2 : t0 ≤ 11) (h3 : k0 ≤ 6) : MI l yX4_sharesFor cX4_sharesFor 5 .int rm_X4_sharesFor [.ref (a 0), .int (nI t0), .int (nI k0)] E sz [stC E a g] (fun (r : Int32) (_ : Unit) => r = nI (favN g t0 k0)) (fun _ => [stC E a g]) 0 0 := by
  refine mi_go (by decide) (Nat.le_of_ble_eq_true rfl) ?_
  intro p e s m below meth c A Q ls hx hb hml hown hts hK hZ hA hsz hP hD hl hret
  have hS : va_S A s.heap s.heap [] := va_S.rf
  have hl : lv_has ls 5 [(0, .ref (a 0)), (1, .int (nI t0)), (2, .int (nI k0))] := hl
  skip
  have hmc := hI.mc
  have hbu := hI.bud
  refine lv_iconst (v := nI 0) hx hb dX4_sharesFor_0 (by decide) ?_
  refine lv_istore_n (lv' := [(3, .int (nI 0)), (0, .ref (a 0)), (1, .int (nI t0)), (2, .int (nI k0))]) hx hb dX4_sharesFor_1 rfl hl (by decide) rfl (fun ls hl => ?_)
  refine lv_iconst (v := nI 0) hx hb dX4_sharesFor_2 (by decide) ?_
  refine lv_istore (lv' := [(4, .int (nI 0)), (3, .int (nI 0)), (0, .ref (a 0)), (1, .int (nI t0)), (2, .int (nI k0))]) hx hb dX4_sharesFor_3 hl (by decide) rfl (fun ls hl => ?_)
  have loop5 : ∀ (n : Nat) (i : Nat), (i ≤ g 8 0) → g 8 0 - i < n → ∀ (H : Heap) (locs : List Loc) (ls : Array Slot), va_P E.1 vwCl ([stC E a g] : List va_W).flatten H → va_D A ([stC E a g] : List va_W).flatten → va_S A s.heap H locs → lv_has ls 5 [(0, .ref (a 0)), (1, .int (nI t0)), (2, .int (nI k0)), (3, .int (nI (sm (fun m => if inF g m t0 k0 then g 0 m else 0) i))), (4, .int (nI i))] → W p l e rm_X4_sharesFor s m ([.ref (a 0), .int (nI t0), .int (nI k0)] : List Value).toArray below meth c H locs 0 0 Q (F0 m 5 ls []) := by
    intro n
    induction n with
    | zero => intro i hi hn; exact absurd hn (Nat.not_lt_zero _)
    | succ n ih =>
      intro i hi hn H locs ls hP hD hS hl
      refine lv_iload hx hb dX4_sharesFor_5 (lv_at hl 4 rfl) ?_
      refine lv_aload_n hx hb dX4_sharesFor_7 rfl (lv_at hl 0 rfl) ?_
      refine va_get (D := E.1) (ci := 8) (v := .int (nI (g 8 0))) (C := RX4) (T := TX4) (N := 16) hx hb hts inX4 hown hK hP 0 rfl rfl 8 (by decide) (hts _ q85) (fun _ h9 => h9) rfl dX4_sharesFor_8 ?_
      refine nv_icmp_ge (X := ((i : Nat) : Int)) (Y := ((g 8 0 : Nat) : Int)) hx hb (nI_toInt (by omega)) (nI_toInt (by omega)) (tgt := 41) dX4_sharesFor_11 (by decide) (fun c_1 => ?_) (fun c_1 => ?_)
      · skip
        refine lv_iload_n hx hb dX4_sharesFor_41 rfl (lv_at hl 3 rfl) ?_
        exact hret _ _ (nI (sm (fun m => if inF g m t0 k0 then g 0 m else 0) i)) () _ _ hP hD hS rfl (by rw [show i = g 8 0 by omega]; rfl) dX4_sharesFor_42
      · skip
        have hmb := hI.mem (m := i) (by omega)
        have hq3 : g 3 i ≤ 11 := hmb.2.2.1
        refine lv_aload_n hx hb dX4_sharesFor_14 rfl (lv_at hl 0 rfl) ?_
        refine lv_iload hx hb dX4_sharesFor_15 (lv_at hl 4 rfl) ?_
        refine lv_iload_n hx hb dX4_sharesFor_17 rfl (lv_at hl 1 rfl) ?_
        refine lv_iload_n hx hb dX4_sharesFor_18 rfl (lv_at hl 2 rfl) ?_
        refine run_i (S := Unit) (run_V (As := [.int (nI i), .int (nI t0), .int (nI k0)]) (rest := []) (bs := [stC E a g]) (cb := [stC E a g]) hx hb hml hown hts hK hZ hA (c_X4_isInFavour l E _ a g i t0 k0 (by omega) hq3 (by omega) (by omega)) l_X4_108 rfl ⟨⟨rfl, rfl⟩, Nat.le_of_ble_eq_true rfl, Nat.le_of_ble_eq_true rfl⟩ 8 rfl [0] rfl (by decide) rfl hP hD hS hl.1 rfl (Nat.le_of_ble_eq_true rfl) dX4_sharesFor_19 ⟨Nat.zero_le _, Nat.zero_le _⟩) hA hP hD hS (isC := [0]) rfl [] [0] (br := []) (bs2 := fun _ => [stC E a g]) rfl (by decide) (fun _ => rfl) (by decide) (fun r u H locs hw hP hD hS => ?_)
        subst hw
        refine bv_if_eq hx hb (tgt := 35) dX4_sharesFor_22 (by decide) (fun c_2 => ?_) (fun c_2 => ?_)
        · skip
          rw [show sm (fun m => if inF g m t0 k0 then g 0 m else 0) i = sm (fun m => if inF g m t0 k0 then g 0 m else 0) (i + 1) from sm_if_f (q := fun m => inF g m t0 k0) (f := g 0) c_2] at hl
          refine lv_iinc (v := nI (i + 1)) (lv' := [(4, .int (nI (i + 1))), (0, .ref (a 0)), (1, .int (nI t0)), (2, .int (nI k0)), (3, .int (nI (sm (fun m => if inF g m t0 k0 then g 0 m else 0) (i + 1))))]) hx hb dX4_sharesFor_35 hl (k := 4) rfl (nI_add i 1) (by decide) rfl (fun ls hl => ?_)
          refine lv_goto (tgt := 5) hx hb dX4_sharesFor_38 (by decide) ?_
          exact ih (i + 1) (by omega) (by omega) _ _ _ hP hD hS (lv_sub hl [1, 2, 3, 4, 0] rfl)
        · skip
          have hif := c_2
          refine lv_iload_n hx hb dX4_sharesFor_25 rfl (lv_at hl 3 rfl) ?_
          refine lv_aload_n hx hb dX4_sharesFor_26 rfl (lv_at hl 0 rfl) ?_
          refine va_get (D := E.1) (ci := 8) (v := .ref (a 1)) (C := RX4) (T := TX4) (N := 16) hx hb hts inX4 hown hK hP 0 rfl rfl 0 (by decide) (hts _ q66) (fun _ h9 => h9) rfl dX4_sharesFor_27 ?_
          refine lv_iload hx hb dX4_sharesFor_30 (lv_at hl 4 rfl) ?_
          refine nv_iald (f := (g 0)) (i := i) (n := 8) hx hb hK hP 1 0 rfl rfl (by omega) (by decide) dX4_sharesFor_32 ?_
          refine nv_iadd hx hb dX4_sharesFor_33 ?_
          refine lv_istore_n (lv' := [(3, .int (nI (sm (fun m => if inF g m t0 k0 then g 0 m else 0) i + (g 0 i)))), (0, .ref (a 0)), (1, .int (nI t0)), (2, .int (nI k0)), (4, .int (nI i))]) hx hb dX4_sharesFor_34 rfl hl (by decide) rfl (fun ls hl => ?_)
          rw [show sm (fun m => if inF g m t0 k0 then g 0 m else 0) i + (g 0 i) = sm (fun m => if inF g m t0 k0 then g 0 m else 0) (i + 1) from sm_if_t (q := fun m => inF g m t0 k0) (f := g 0) hif] at hl
          refine lv_iinc (v := nI (i + 1)) (lv' := [(4, .int (nI (i + 1))), (3, .int (nI (sm (fun m => if inF g m t0 k0 then g 0 m else 0) (i + 1)))), (0, .ref (a 0)), (1, .int (nI t0)), (2, .int (nI k0))]) hx hb dX4_sharesFor_35 hl (k := 4) rfl (nI_add i 1) (by decide) rfl (fun ls hl => ?_)
          refine lv_goto (tgt := 5) hx hb dX4_sharesFor_38 (by decide) ?_
          exact ih (i + 1) (by omega) (by omega) _ _ _ hP hD hS (lv_sub hl [2, 3, 4, 1, 0] rfl)
  exact loop5 _ 0 (by omega) (Nat.lt_succ_self _) _ _ _ hP hD hS (lv_sub hl [2, 3, 4, 1, 0] rfl)
abbrev rm_X4_decide : Room := { frames := 3, cells := 0, slots := 0, locals := 69 }
set_option maxHeartbeats 4000000 in
set_option maxRecDepth 100000 in
theorem c_X4_decide (l : Launch) (E : EE) (sz : Nat) (a : Nat → Nat) (g : GG) (B : Nat) (hI : IB B g) (t0 k0 : Nat) (h2 : t0 ≤ 11) (h3 : k0 ≤ 6) : MI l yX4_decide cX4_decide 4 .boolean rm_X4_decide [.ref (a 0), .int (nI t0), .int (nI k0)] E sz [stC E a g] (fun (r : Int32) (_ : Unit) => r = bI (decide (quo g ≤ favN g t0 k0))) (fun _ => [stC E a (voteG g t0 k0)]) 0 0 := by
  refine mi_go (by decide) (Nat.le_of_ble_eq_true rfl) ?_
  intro p e s m below meth c A Q ls hx hb hml hown hts hK hZ hA hsz hP hD hl hret
  have hS : va_S A s.heap s.heap [] := va_S.rf
  have hl : lv_has ls 4 [(0, .ref (a 0)), (1, .int (nI t0)), (2, .int (nI k0))] := hl
  skip
  have hmc := hI.mc
  have hbu := hI.bud
  have hfv : favN g t0 k0 ≤ 50 * g 8 0 := fav_le hI (Nat.le_refl _)
  have hsh : allSh g ≤ 50 * g 8 0 := hI.shs (Nat.le_refl _)
  have hqu : quo g = allSh g / 2 + 1 := rfl
  refine lv_aload_n hx hb dX4_decide_0 rfl (lv_at hl 0 rfl) ?_
  refine lv_iload_n hx hb dX4_decide_1 rfl (lv_at hl 1 rfl) ?_
  refine lv_iload_n hx hb dX4_decide_2 rfl (lv_at hl 2 rfl) ?_
  refine run_i (S := Unit) (run_V (As := [.int (nI t0), .int (nI k0)]) (rest := []) (bs := [stC E a g]) (cb := [stC E a g]) hx hb hml hown hts hK hZ hA (c_X4_sharesFor l E _ a g _ hI t0 k0 (by omega) (by omega)) l_X4_101 rfl ⟨⟨rfl, rfl⟩, Nat.le_of_ble_eq_true rfl, Nat.le_of_ble_eq_true rfl⟩ 8 rfl [0] rfl (by decide) rfl hP hD hS hl.1 rfl (Nat.le_of_ble_eq_true rfl) dX4_decide_3 ⟨Nat.zero_le _, Nat.zero_le _⟩) hA hP hD hS (isC := [0]) rfl [] [0] (br := []) (bs2 := fun _ => [stC E a g]) rfl (by decide) (fun _ => rfl) (by decide) (fun r u H locs hw hP hD hS => ?_)
  subst hw
  refine lv_aload_n hx hb dX4_decide_6 rfl (lv_at hl 0 rfl) ?_
  refine run_i (S := Unit) (run_V (As := []) (rest := [.int (nI (favN g t0 k0))]) (bs := [stC E a g]) (cb := [stC E a g]) hx hb hml hown hts hK hZ hA (c_X4_neededShares l E _ a g  _ hI) l_X4_104 rfl ⟨⟨rfl, rfl⟩, Nat.le_of_ble_eq_true rfl, Nat.le_of_ble_eq_true rfl⟩ 8 rfl [0] rfl (by decide) rfl hP hD hS hl.1 rfl (Nat.le_of_ble_eq_true rfl) dX4_decide_7 ⟨Nat.zero_le _, Nat.zero_le _⟩) hA hP hD hS (isC := [0]) rfl [] [0] (br := []) (bs2 := fun _ => [stC E a g]) rfl (by decide) (fun _ => rfl) (by decide) (fun r u H locs hw hP hD hS => ?_)
  subst hw
  refine nv_icmp_ge (X := ((favN g t0 k0 : Nat) : Int)) (Y := ((quo g : Nat) : Int)) hx hb (nI_toInt (by omega)) (nI_toInt (by omega)) (tgt := 15) dX4_decide_10 (by decide) (fun c_1 => ?_) (fun c_1 => ?_)
  · skip
    have hca := c_1
    refine lv_aload_n hx hb dX4_decide_15 rfl (lv_at hl 0 rfl) ?_
    refine lv_iload_n hx hb dX4_decide_16 rfl (lv_at hl 1 rfl) ?_
    refine va_put (D := E.1) (ci := 8) (v := .int (nI t0)) (ty := .int) (C := RX4) (T := TX4) (N := 16) hx hb hts inX4 tyX4 tyX4_ok nmX4 hown hK hP hD hS 0 rfl rfl 12 (by decide) (hts _ q96) (fun _ h9 => h9) rfl (by decide +kernel) rfl rfl (Nat.le_of_ble_eq_true rfl) dX4_decide_17 (fun H locs hP hD hS => ?_)
    have hP : va_P E.1 vwCl ([stC E a (up2 g 8 3 t0)] : List va_W).flatten H := hP
    have hD : va_D A ([stC E a (up2 g 8 3 t0)] : List va_W).flatten := hD
    refine lv_iconst (v := nI 0) hx hb dX4_decide_20 (by decide) ?_
    refine lv_istore_n (lv' := [(3, .int (nI 0)), (0, .ref (a 0)), (1, .int (nI t0)), (2, .int (nI k0))]) hx hb dX4_decide_21 rfl hl (by decide) rfl (fun ls hl => ?_)
    have loop22 : ∀ (n : Nat) (i : Nat), (i ≤ g 8 0) → g 8 0 - i < n → ∀ (H : Heap) (locs : List Loc) (ls : Array Slot), va_P E.1 vwCl ([stC E a (upr (up2 g 8 3 t0) 6 (fl (g 6) (disN g t0 k0) i))] : List va_W).flatten H → va_D A ([stC E a (upr (up2 g 8 3 t0) 6 (fl (g 6) (disN g t0 k0) i))] : List va_W).flatten → va_S A s.heap H locs → lv_has ls 4 [(0, .ref (a 0)), (1, .int (nI t0)), (2, .int (nI k0)), (3, .int (nI i))] → W p l e rm_X4_decide s m ([.ref (a 0), .int (nI t0), .int (nI k0)] : List Value).toArray below meth c H locs 0 0 Q (F0 m 22 ls []) := by
      intro n
      induction n with
      | zero => intro i hi hn; exact absurd hn (Nat.not_lt_zero _)
      | succ n ih =>
        intro i hi hn H locs ls hP hD hS hl
        refine lv_iload_n hx hb dX4_decide_22 rfl (lv_at hl 3 rfl) ?_
        refine lv_aload_n hx hb dX4_decide_23 rfl (lv_at hl 0 rfl) ?_
        refine va_get (D := E.1) (ci := 8) (v := .int (nI (g 8 0))) (C := RX4) (T := TX4) (N := 16) hx hb hts inX4 hown hK hP 0 rfl rfl 8 (by decide) (hts _ q85) (fun _ h9 => h9) rfl dX4_decide_24 ?_
        refine nv_icmp_ge (X := ((i : Nat) : Int)) (Y := ((g 8 0 : Nat) : Int)) hx hb (nI_toInt (by omega)) (nI_toInt (by omega)) (tgt := 56) dX4_decide_27 (by decide) (fun c_2 => ?_) (fun c_2 => ?_)
        · skip
          refine lv_iconst (v := nI 1) hx hb dX4_decide_56 (by decide) ?_
          have hgE : (upr (up2 g 8 3 t0) 6 (fl (g 6) (disN g t0 k0) i)) = (voteG g t0 k0) := by rw [show i = g 8 0 by omega]; exact (if_neg (by omega)).symm
          rw [hgE] at hP hD; clear hgE
          exact hret _ _ (nI 1) () _ _ hP hD hS (by decide) (bt_of (by omega)) dX4_decide_57
        · skip
          have hmb := hI.mem (m := i) (by omega)
          have hq3 : g 3 i ≤ 11 := hmb.2.2.1
          refine lv_aload_n hx hb dX4_decide_30 rfl (lv_at hl 0 rfl) ?_
          refine lv_iload_n hx hb dX4_decide_31 rfl (lv_at hl 3 rfl) ?_
          refine lv_iload_n hx hb dX4_decide_32 rfl (lv_at hl 1 rfl) ?_
          refine lv_iload_n hx hb dX4_decide_33 rfl (lv_at hl 2 rfl) ?_
          refine run_i (S := Unit) (run_V (As := [.int (nI i), .int (nI t0), .int (nI k0)]) (rest := []) (bs := [stC E a (upr (up2 g 8 3 t0) 6 (fl (g 6) (disN g t0 k0) i))]) (cb := [stC E a (upr (up2 g 8 3 t0) 6 (fl (g 6) (disN g t0 k0) i))]) hx hb hml hown hts hK hZ hA (c_X4_isInFavour l E _ a (upr (up2 g 8 3 t0) 6 (fl (g 6) (disN g t0 k0) i)) i t0 k0 (by omega) hq3 (by omega) (by omega)) l_X4_108 rfl ⟨⟨rfl, rfl⟩, Nat.le_of_ble_eq_true rfl, Nat.le_of_ble_eq_true rfl⟩ 8 rfl [0] rfl (by decide) rfl hP hD hS hl.1 rfl (Nat.le_of_ble_eq_true rfl) dX4_decide_34 ⟨Nat.zero_le _, Nat.zero_le _⟩) hA hP hD hS (isC := [0]) rfl [] [0] (br := []) (bs2 := fun _ => [stC E a (upr (up2 g 8 3 t0) 6 (fl (g 6) (disN g t0 k0) i))]) rfl (by decide) (fun _ => rfl) (by decide) (fun r u H locs hw hP hD hS => ?_)
          subst hw
          refine bv_if_ne hx hb (tgt := 50) dX4_decide_37 (by decide) (fun c_3 => ?_) (fun c_3 => ?_)
          · skip
            have hif : inF g i t0 k0 = true := c_3
            have hgE : (upr (up2 g 8 3 t0) 6 (fl (g 6) (disN g t0 k0) i)) = (upr (up2 g 8 3 t0) 6 (fl (g 6) (disN g t0 k0) (i + 1))) := by rw [fl_same (show disN g t0 k0 i = g 6 i from if_pos hif)]
            rw [hgE] at hP hD; clear hgE
            refine lv_iinc (v := nI (i + 1)) (lv' := [(3, .int (nI (i + 1))), (0, .ref (a 0)), (1, .int (nI t0)), (2, .int (nI k0))]) hx hb dX4_decide_50 hl (k := 3) rfl (nI_add i 1) (by decide) rfl (fun ls hl => ?_)
            refine lv_goto (tgt := 22) hx hb dX4_decide_53 (by decide) ?_
            exact ih (i + 1) (by omega) (by omega) _ _ _ hP hD hS (lv_sub hl [1, 2, 3, 0] rfl)
          · skip
            have hif : inF g i t0 k0 = false := c_3
            refine lv_aload_n hx hb dX4_decide_40 rfl (lv_at hl 0 rfl) ?_
            refine va_get (D := E.1) (ci := 8) (v := .ref (a 7)) (C := RX4) (T := TX4) (N := 16) hx hb hts inX4 hown hK hP 0 rfl rfl 6 (by decide) (hts _ q81) (fun _ h9 => h9) rfl dX4_decide_41 ?_
            refine lv_iload_n hx hb dX4_decide_44 rfl (lv_at hl 3 rfl) ?_
            refine lv_dup2_11 hx hb dX4_decide_45 rfl rfl ?_
            refine nv_iald (f := (fl (g 6) (disN g t0 k0) i)) (i := i) (n := 8) hx hb hK hP 7 0 rfl rfl (by omega) (by decide) dX4_decide_46 ?_
            refine tp_i (congrArg nI fl_at) ?_
            refine lv_iconst (v := nI 1) hx hb dX4_decide_47 (by decide) ?_
            refine nv_iadd hx hb dX4_decide_48 ?_
            refine nv_iast (f := (fl (g 6) (disN g t0 k0) i)) (i := i) (v := g 6 i + 1) (n := 8) hx hb hK hP hD hS 7 0 rfl rfl (by omega) (by decide) dX4_decide_49 (fun H locs hP hD hS => ?_)
            have hP : va_P E.1 vwCl ([stC E a (up2 (upr (up2 g 8 3 t0) 6 (fl (g 6) (disN g t0 k0) i)) 6 i (g 6 i + 1))] : List va_W).flatten H := hP
            have hD : va_D A ([stC E a (up2 (upr (up2 g 8 3 t0) 6 (fl (g 6) (disN g t0 k0) i)) 6 i (g 6 i + 1))] : List va_W).flatten := hD
            have hgE : (up2 (upr (up2 g 8 3 t0) 6 (fl (g 6) (disN g t0 k0) i)) 6 i (g 6 i + 1)) = (upr (up2 g 8 3 t0) 6 (fl (g 6) (disN g t0 k0) (i + 1))) := upr_up2.trans (by rw [fl_step (show g 6 i + 1 = disN g t0 k0 i from (if_neg (by rw [hif]; decide)).symm)])
            rw [hgE] at hP hD; clear hgE
            refine lv_iinc (v := nI (i + 1)) (lv' := [(3, .int (nI (i + 1))), (0, .ref (a 0)), (1, .int (nI t0)), (2, .int (nI k0))]) hx hb dX4_decide_50 hl (k := 3) rfl (nI_add i 1) (by decide) rfl (fun ls hl => ?_)
            refine lv_goto (tgt := 22) hx hb dX4_decide_53 (by decide) ?_
            exact ih (i + 1) (by omega) (by omega) _ _ _ hP hD hS (lv_sub hl [1, 2, 3, 0] rfl)
    rw [show (up2 g 8 3 t0) = upr (up2 g 8 3 t0) 6 (fl (g 6) (disN g t0 k0) 0) from by rw [fl_0]; exact (upr_id (g := up2 g 8 3 t0) (w := 6)).symm] at hP hD
    exact loop22 _ 0 (by omega) (Nat.lt_succ_self _) _ _ _ hP hD hS (lv_sub hl [1, 2, 3, 0] rfl)
  · skip
    have hca := c_1
    refine lv_iconst (v := nI 0) hx hb dX4_decide_13 (by decide) ?_
    have hgE : g = (voteG g t0 k0) := (if_pos (by omega)).symm
    rw [hgE] at hP hD; clear hgE
    exact hret _ _ (nI 0) () _ _ hP hD hS (by decide) (bf_of (by omega)) dX4_decide_14
abbrev rm_X4_isAhead : Room := { frames := 0, cells := 0, slots := 0, locals := 0 }
set_option maxHeartbeats 4000000 in
set_option maxRecDepth 100000 in
theorem c_X4_isAhead (l : Launch) (E : EE) (sz : Nat) (a : Nat → Nat) (g : GG) (B : Nat) (hI : IB B g) (m0 n0 : Nat) (hm : m0 < g 8 0) (hn : n0 < g 8 0) : MI l yX4_isAhead cX4_isAhead 3 .boolean rm_X4_isAhead [.ref (a 0), .int (nI m0), .int (nI n0)] E sz [stC E a g] (fun (r : Int32) (_ : Unit) => r = bI (ahd g m0 n0)) (fun _ => [stC E a g]) 0 0 := by
  refine mi_go (by decide) (Nat.le_of_ble_eq_true rfl) ?_
  intro p e s m below meth c A Q ls hx hb hml hown hts hK hZ hA hsz hP hD hl hret
  have hS : va_S A s.heap s.heap [] := va_S.rf
  have hl : lv_has ls 3 [(0, .ref (a 0)), (1, .int (nI m0)), (2, .int (nI n0))] := hl
  skip
  have hmc := hI.mc
  have hbu := hI.bud
  have hm1 := hI.mem hm
  have hm2 := hI.mem hn
  have hp1 := hI.pu (m := m0) (by omega)
  have hp2 := hI.pu (m := n0) (by omega)
  refine lv_aload_n hx hb dX4_isAhead_0 rfl (lv_at hl 0 rfl) ?_
  refine va_get (D := E.1) (ci := 8) (v := .ref (a 1)) (C := RX4) (T := TX4) (N := 16) hx hb hts inX4 hown hK hP 0 rfl rfl 0 (by decide) (hts _ q66) (fun _ h9 => h9) rfl dX4_isAhead_1 ?_
  refine lv_iload_n hx hb dX4_isAhead_4 rfl (lv_at hl 1 rfl) ?_
  refine nv_iald (f := (g 0)) (i := m0) (n := 8) hx hb hK hP 1 0 rfl rfl (by omega) (by decide) dX4_isAhead_5 ?_
  refine lv_aload_n hx hb dX4_isAhead_6 rfl (lv_at hl 0 rfl) ?_
  refine va_get (D := E.1) (ci := 8) (v := .ref (a 1)) (C := RX4) (T := TX4) (N := 16) hx hb hts inX4 hown hK hP 0 rfl rfl 0 (by decide) (hts _ q66) (fun _ h9 => h9) rfl dX4_isAhead_7 ?_
  refine lv_iload_n hx hb dX4_isAhead_10 rfl (lv_at hl 2 rfl) ?_
  refine nv_iald (f := (g 0)) (i := n0) (n := 8) hx hb hK hP 1 0 rfl rfl (by omega) (by decide) dX4_isAhead_11 ?_
  refine nv_icmp_eq (X := ((g 0 m0 : Nat) : Int)) (Y := ((g 0 n0 : Nat) : Int)) hx hb (nI_toInt (by omega)) (nI_toInt (by omega)) (tgt := 36) dX4_isAhead_12 (by decide) (fun c_1 => ?_) (fun c_1 => ?_)
  · skip
    refine lv_aload_n hx hb dX4_isAhead_36 rfl (lv_at hl 0 rfl) ?_
    refine va_get (D := E.1) (ci := 8) (v := .ref (a 6)) (C := RX4) (T := TX4) (N := 16) hx hb hts inX4 hown hK hP 0 rfl rfl 5 (by decide) (hts _ q78) (fun _ h9 => h9) rfl dX4_isAhead_37 ?_
    refine lv_iload_n hx hb dX4_isAhead_40 rfl (lv_at hl 1 rfl) ?_
    refine nv_iald (f := (g 5)) (i := m0) (n := 8) hx hb hK hP 6 0 rfl rfl (by omega) (by decide) dX4_isAhead_41 ?_
    refine lv_aload_n hx hb dX4_isAhead_42 rfl (lv_at hl 0 rfl) ?_
    refine va_get (D := E.1) (ci := 8) (v := .ref (a 6)) (C := RX4) (T := TX4) (N := 16) hx hb hts inX4 hown hK hP 0 rfl rfl 5 (by decide) (hts _ q78) (fun _ h9 => h9) rfl dX4_isAhead_43 ?_
    refine lv_iload_n hx hb dX4_isAhead_46 rfl (lv_at hl 2 rfl) ?_
    refine nv_iald (f := (g 5)) (i := n0) (n := 8) hx hb hK hP 6 0 rfl rfl (by omega) (by decide) dX4_isAhead_47 ?_
    refine nv_icmp_eq (X := ((g 5 m0 : Nat) : Int)) (Y := ((g 5 n0 : Nat) : Int)) hx hb (nI_toInt (by omega)) (nI_toInt (by omega)) (tgt := 72) dX4_isAhead_48 (by decide) (fun c_2 => ?_) (fun c_2 => ?_)
    · skip
      refine lv_iload_n hx hb dX4_isAhead_72 rfl (lv_at hl 1 rfl) ?_
      refine lv_iload_n hx hb dX4_isAhead_73 rfl (lv_at hl 2 rfl) ?_
      refine nv_icmp_ge (X := ((m0 : Nat) : Int)) (Y := ((n0 : Nat) : Int)) hx hb (nI_toInt (by omega)) (nI_toInt (by omega)) (tgt := 81) dX4_isAhead_74 (by decide) (fun c_3 => ?_) (fun c_3 => ?_)
      · skip
        refine lv_iconst (v := nI 0) hx hb dX4_isAhead_81 (by decide) ?_
        exact hret _ _ (nI 0) () _ _ hP hD hS (by decide) (by unfold ahd; rw [if_neg (by omega), if_neg (by omega)]; exact (bf_of (by omega))) dX4_isAhead_82
      · skip
        refine lv_iconst (v := nI 1) hx hb dX4_isAhead_77 (by decide) ?_
        refine lv_goto (tgt := 82) hx hb dX4_isAhead_78 (by decide) ?_
        exact hret _ _ (nI 1) () _ _ hP hD hS (by decide) (by unfold ahd; rw [if_neg (by omega), if_neg (by omega)]; exact (bt_of (by omega))) dX4_isAhead_82
    · skip
      refine lv_aload_n hx hb dX4_isAhead_51 rfl (lv_at hl 0 rfl) ?_
      refine va_get (D := E.1) (ci := 8) (v := .ref (a 6)) (C := RX4) (T := TX4) (N := 16) hx hb hts inX4 hown hK hP 0 rfl rfl 5 (by decide) (hts _ q78) (fun _ h9 => h9) rfl dX4_isAhead_52 ?_
      refine lv_iload_n hx hb dX4_isAhead_55 rfl (lv_at hl 1 rfl) ?_
      refine nv_iald (f := (g 5)) (i := m0) (n := 8) hx hb hK hP 6 0 rfl rfl (by omega) (by decide) dX4_isAhead_56 ?_
      refine lv_aload_n hx hb dX4_isAhead_57 rfl (lv_at hl 0 rfl) ?_
      refine va_get (D := E.1) (ci := 8) (v := .ref (a 6)) (C := RX4) (T := TX4) (N := 16) hx hb hts inX4 hown hK hP 0 rfl rfl 5 (by decide) (hts _ q78) (fun _ h9 => h9) rfl dX4_isAhead_58 ?_
      refine lv_iload_n hx hb dX4_isAhead_61 rfl (lv_at hl 2 rfl) ?_
      refine nv_iald (f := (g 5)) (i := n0) (n := 8) hx hb hK hP 6 0 rfl rfl (by omega) (by decide) dX4_isAhead_62 ?_
      refine nv_icmp_le (X := ((g 5 m0 : Nat) : Int)) (Y := ((g 5 n0 : Nat) : Int)) hx hb (nI_toInt (by omega)) (nI_toInt (by omega)) (tgt := 70) dX4_isAhead_63 (by decide) (fun c_4 => ?_) (fun c_4 => ?_)
      · skip
        refine lv_iconst (v := nI 0) hx hb dX4_isAhead_70 (by decide) ?_
        exact hret _ _ (nI 0) () _ _ hP hD hS (by decide) (by unfold ahd; rw [if_neg (by omega), if_pos (by omega)]; exact (bf_of (by omega))) dX4_isAhead_71
      · skip
        refine lv_iconst (v := nI 1) hx hb dX4_isAhead_66 (by decide) ?_
        refine lv_goto (tgt := 71) hx hb dX4_isAhead_67 (by decide) ?_
        exact hret _ _ (nI 1) () _ _ hP hD hS (by decide) (by unfold ahd; rw [if_neg (by omega), if_pos (by omega)]; exact (bt_of (by omega))) dX4_isAhead_71
  · skip
    refine lv_aload_n hx hb dX4_isAhead_15 rfl (lv_at hl 0 rfl) ?_
    refine va_get (D := E.1) (ci := 8) (v := .ref (a 1)) (C := RX4) (T := TX4) (N := 16) hx hb hts inX4 hown hK hP 0 rfl rfl 0 (by decide) (hts _ q66) (fun _ h9 => h9) rfl dX4_isAhead_16 ?_
    refine lv_iload_n hx hb dX4_isAhead_19 rfl (lv_at hl 1 rfl) ?_
    refine nv_iald (f := (g 0)) (i := m0) (n := 8) hx hb hK hP 1 0 rfl rfl (by omega) (by decide) dX4_isAhead_20 ?_
    refine lv_aload_n hx hb dX4_isAhead_21 rfl (lv_at hl 0 rfl) ?_
    refine va_get (D := E.1) (ci := 8) (v := .ref (a 1)) (C := RX4) (T := TX4) (N := 16) hx hb hts inX4 hown hK hP 0 rfl rfl 0 (by decide) (hts _ q66) (fun _ h9 => h9) rfl dX4_isAhead_22 ?_
    refine lv_iload_n hx hb dX4_isAhead_25 rfl (lv_at hl 2 rfl) ?_
    refine nv_iald (f := (g 0)) (i := n0) (n := 8) hx hb hK hP 1 0 rfl rfl (by omega) (by decide) dX4_isAhead_26 ?_
    refine nv_icmp_le (X := ((g 0 m0 : Nat) : Int)) (Y := ((g 0 n0 : Nat) : Int)) hx hb (nI_toInt (by omega)) (nI_toInt (by omega)) (tgt := 34) dX4_isAhead_27 (by decide) (fun c_5 => ?_) (fun c_5 => ?_)
    · skip
      refine lv_iconst (v := nI 0) hx hb dX4_isAhead_34 (by decide) ?_
      exact hret _ _ (nI 0) () _ _ hP hD hS (by decide) (by unfold ahd; rw [if_pos (by omega)]; exact (bf_of (by omega))) dX4_isAhead_35
    · skip
      refine lv_iconst (v := nI 1) hx hb dX4_isAhead_30 (by decide) ?_
      refine lv_goto (tgt := 35) hx hb dX4_isAhead_31 (by decide) ?_
      exact hret _ _ (nI 1) () _ _ hP hD hS (by decide) (by unfold ahd; rw [if_pos (by omega)]; exact (bt_of (by omega))) dX4_isAhead_35
abbrev rm_X4_membersAhead : Room := { frames := 1, cells := 0, slots := 0, locals := 22 }
set_option maxHeartbeats 4000000 in
set_option maxRecDepth 100000 in
theorem c_X4_membersAhead (l : Launch) (E : EE) (sz : Nat) (a : Nat → Nat) (g : GG) (B : Nat) (hI : IB B g) (m0 : Nat) (hm : m0 < g 8 0) : MI l yX4_membersAhead cX4_membersAhead 4 .int rm_X4_membersAhead [.ref (a 0), .int (nI m0)] E sz [stC E a g] (fun (r : Int32) (_ : Unit) => r = nI (mAh g m0)) (fun _ => [stC E a g]) 0 0 := by
  refine mi_go (by decide) (Nat.le_of_ble_eq_true rfl) ?_
  intro p e s m below meth c A Q ls hx hb hml hown hts hK hZ hA hsz hP hD hl hret
  have hS : va_S A s.heap s.heap [] := va_S.rf
  have hl : lv_has ls 4 [(0, .ref (a 0)), (1, .int (nI m0))] := hl
  skip
  have hmc := hI.mc
  have hbu := hI.bud
  refine lv_iconst (v := nI 0) hx hb dX4_membersAhead_0 (by decide) ?_
  refine lv_istore_n (lv' := [(2, .int (nI 0)), (0, .ref (a 0)), (1, .int (nI m0))]) hx hb dX4_membersAhead_1 rfl hl (by decide) rfl (fun ls hl => ?_)
  refine lv_iconst (v := nI 0) hx hb dX4_membersAhead_2 (by decide) ?_
  refine lv_istore_n (lv' := [(3, .int (nI 0)), (2, .int (nI 0)), (0, .ref (a 0)), (1, .int (nI m0))]) hx hb dX4_membersAhead_3 rfl hl (by decide) rfl (fun ls hl => ?_)
  have loop4 : ∀ (n : Nat) (i : Nat), (i ≤ g 8 0) → g 8 0 - i < n → ∀ (H : Heap) (locs : List Loc) (ls : Array Slot), va_P E.1 vwCl ([stC E a g] : List va_W).flatten H → va_D A ([stC E a g] : List va_W).flatten → va_S A s.heap H locs → lv_has ls 4 [(0, .ref (a 0)), (1, .int (nI m0)), (2, .int (nI (sm (fun o => if ahd g o m0 then 1 else 0) i))), (3, .int (nI i))] → W p l e rm_X4_membersAhead s m ([.ref (a 0), .int (nI m0)] : List Value).toArray below meth c H locs 0 0 Q (F0 m 4 ls []) := by
    intro n
    induction n with
    | zero => intro i hi hn; exact absurd hn (Nat.not_lt_zero _)
    | succ n ih =>
      intro i hi hn H locs ls hP hD hS hl
      refine lv_iload_n hx hb dX4_membersAhead_4 rfl (lv_at hl 3 rfl) ?_
      refine lv_aload_n hx hb dX4_membersAhead_5 rfl (lv_at hl 0 rfl) ?_
      refine va_get (D := E.1) (ci := 8) (v := .int (nI (g 8 0))) (C := RX4) (T := TX4) (N := 16) hx hb hts inX4 hown hK hP 0 rfl rfl 8 (by decide) (hts _ q85) (fun _ h9 => h9) rfl dX4_membersAhead_6 ?_
      refine nv_icmp_ge (X := ((i : Nat) : Int)) (Y := ((g 8 0 : Nat) : Int)) hx hb (nI_toInt (by omega)) (nI_toInt (by omega)) (tgt := 30) dX4_membersAhead_9 (by decide) (fun c_1 => ?_) (fun c_1 => ?_)
      · skip
        refine lv_iload_n hx hb dX4_membersAhead_30 rfl (lv_at hl 2 rfl) ?_
        exact hret _ _ (nI (sm (fun o => if ahd g o m0 then 1 else 0) i)) () _ _ hP hD hS rfl (by rw [show i = g 8 0 by omega]; rfl) dX4_membersAhead_31
      · skip
        refine lv_aload_n hx hb dX4_membersAhead_12 rfl (lv_at hl 0 rfl) ?_
        refine lv_iload_n hx hb dX4_membersAhead_13 rfl (lv_at hl 3 rfl) ?_
        refine lv_iload_n hx hb dX4_membersAhead_14 rfl (lv_at hl 1 rfl) ?_
        refine run_i (S := Unit) (run_V (As := [.int (nI i), .int (nI m0)]) (rest := []) (bs := [stC E a g]) (cb := [stC E a g]) hx hb hml hown hts hK hZ hA (c_X4_isAhead l E _ a g _ hI i m0 (by omega) (by omega)) l_X4_118 rfl ⟨⟨rfl, rfl⟩, Nat.le_of_ble_eq_true rfl, Nat.le_of_ble_eq_true rfl⟩ 8 rfl [0] rfl (by decide) rfl hP hD hS hl.1 rfl (Nat.le_of_ble_eq_true rfl) dX4_membersAhead_15 ⟨Nat.zero_le _, Nat.zero_le _⟩) hA hP hD hS (isC := [0]) rfl [] [0] (br := []) (bs2 := fun _ => [stC E a g]) rfl (by decide) (fun _ => rfl) (by decide) (fun r u H locs hw hP hD hS => ?_)
        subst hw
        refine bv_if_eq hx hb (tgt := 24) dX4_membersAhead_18 (by decide) (fun c_2 => ?_) (fun c_2 => ?_)
        · skip
          rw [show sm (fun o => if ahd g o m0 then 1 else 0) i = sm (fun o => if ahd g o m0 then 1 else 0) (i + 1) from sm_if_f (q := fun o => ahd g o m0) (f := fun _ => 1) c_2] at hl
          refine lv_iinc (v := nI (i + 1)) (lv' := [(3, .int (nI (i + 1))), (0, .ref (a 0)), (1, .int (nI m0)), (2, .int (nI (sm (fun o => if ahd g o m0 then 1 else 0) (i + 1))))]) hx hb dX4_membersAhead_24 hl (k := 3) rfl (nI_add i 1) (by decide) rfl (fun ls hl => ?_)
          refine lv_goto (tgt := 4) hx hb dX4_membersAhead_27 (by decide) ?_
          exact ih (i + 1) (by omega) (by omega) _ _ _ hP hD hS (lv_sub hl [1, 2, 3, 0] rfl)
        · skip
          have hif := c_2
          refine lv_iinc (v := nI (sm (fun o => if ahd g o m0 then 1 else 0) i + 1)) (lv' := [(2, .int (nI (sm (fun o => if ahd g o m0 then 1 else 0) i + 1))), (0, .ref (a 0)), (1, .int (nI m0)), (3, .int (nI i))]) hx hb dX4_membersAhead_21 hl (k := 2) rfl (nI_add (sm (fun o => if ahd g o m0 then 1 else 0) i) 1) (by decide) rfl (fun ls hl => ?_)
          rw [show sm (fun o => if ahd g o m0 then 1 else 0) i + 1 = sm (fun o => if ahd g o m0 then 1 else 0) (i + 1) from sm_if_t (q := fun o => ahd g o m0) (f := fun _ => 1) hif] at hl
          refine lv_iinc (v := nI (i + 1)) (lv' := [(3, .int (nI (i + 1))), (2, .int (nI (sm (fun o => if ahd g o m0 then 1 else 0) (i + 1)))), (0, .ref (a 0)), (1, .int (nI m0))]) hx hb dX4_membersAhead_24 hl (k := 3) rfl (nI_add i 1) (by decide) rfl (fun ls hl => ?_)
          refine lv_goto (tgt := 4) hx hb dX4_membersAhead_27 (by decide) ?_
          exact ih (i + 1) (by omega) (by omega) _ _ _ hP hD hS (lv_sub hl [2, 3, 1, 0] rfl)
  exact loop4 _ 0 (by omega) (Nat.lt_succ_self _) _ _ _ hP hD hS (lv_sub hl [2, 3, 1, 0] rfl)
