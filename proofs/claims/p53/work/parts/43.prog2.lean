theorem upn_id {f : Nat → Nat} {k : Nat} : upn f k (f k) = f := by funext j; unfold upn; split <;> first | rfl | (rename_i e9; rw [e9])
abbrev rm_X3_readNumber : Room := { frames := 1, cells := 0, slots := 0, locals := 20 }
set_option maxHeartbeats 4000000 in
set_option maxRecDepth 100000 in
theorem c_X3_readNumber (l : Launch) (E : EE) (sz : Nat) (a : Nat → Nat) (q : Nat → Nat) (F : GG) (n0 : Nat) (hn : n0 ≤ 2) (h0 : q 0 ≤ 60) (h2 : q 2 ≤ q 0) (ho : ∀ j, F 0 j < 65536)  : MI l yX3_readNumber cX3_readNumber 4 .int rm_X3_readNumber [.ref (a 0), .int (nI n0)] E sz [prC E a q F] (fun (r : Int32) (_ : Unit) => r = nI (digR (F 0) (q 0) n0 (q 2) 0 0).2.1) (fun _ => [prC E a (upn q 2 (digR (F 0) (q 0) n0 (q 2) 0 0).1) F]) 0 0 := by
  refine mi_go (by decide) (Nat.le_of_ble_eq_true rfl) ?_
  intro p e s m below meth c A Q ls hx hb hml hown hts hK hZ hA hsz hP hD hl hret
  have hS : va_S A s.heap s.heap [] := va_S.rf
  have hl : lv_has ls 4 [(0, .ref (a 0)), (1, .int (nI n0))] := hl
  skip
  refine lv_iconst (v := nI 0) hx hb dX3_readNumber_0 (by decide) ?_
  refine lv_istore_n (lv' := [(2, .int (nI 0)), (0, .ref (a 0)), (1, .int (nI n0))]) hx hb dX3_readNumber_1 rfl hl (by decide) rfl (fun ls hl => ?_)
  refine lv_iconst (v := nI 0) hx hb dX3_readNumber_2 (by decide) ?_
  refine lv_istore_n (lv' := [(3, .int (nI 0)), (2, .int (nI 0)), (0, .ref (a 0)), (1, .int (nI n0))]) hx hb dX3_readNumber_3 rfl hl (by decide) rfl (fun ls hl => ?_)
  have loop4 : ∀ (n : Nat) (sp : Nat) (nn : Nat) (d : Nat), (sp ≤ q 0) → (d ≤ n0) → (nn + 1 ≤ 10 ^ d) → ((digR (F 0) (q 0) n0 (q 2) 0 0) = digR (F 0) (q 0) (n0 - d) sp nn d) → n0 - d < n → ∀ (H : Heap) (locs : List Loc) (ls : Array Slot), va_P E.1 vwCl ([prC E a (upn q 2 sp) F] : List va_W).flatten H → va_D A ([prC E a (upn q 2 sp) F] : List va_W).flatten → va_S A s.heap H locs → lv_has ls 4 [(0, .ref (a 0)), (1, .int (nI n0)), (2, .int (nI nn)), (3, .int (nI d))] → W p l e rm_X3_readNumber s m ([.ref (a 0), .int (nI n0)] : List Value).toArray below meth c H locs 0 0 Q (F0 m 4 ls []) := by
    intro n4
    induction n4 with
    | zero => intro sp nn d hsp hd hnn heq hn4; exact absurd hn4 (Nat.not_lt_zero _)
    | succ n4 ih4 =>
      intro sp nn d hsp hd hnn heq hn4 H locs ls hP hD hS hl
      refine lv_iload_n hx hb dX3_readNumber_4 rfl (lv_at hl 3 rfl) ?_
      refine lv_iload_n hx hb dX3_readNumber_5 rfl (lv_at hl 1 rfl) ?_
      refine nv_icmp_ge (X := ((d : Nat) : Int)) (Y := ((n0 : Nat) : Int)) hx hb (nI_toInt (by omega)) (nI_toInt (by omega)) (tgt := 50) dX3_readNumber_6 (by decide) (fun c_1 => ?_) (fun c_1 => ?_)
      · skip
        have hfn : (digR (F 0) (q 0) n0 (q 2) 0 0) = (sp, nn, d) := by rw [heq]; exact (by rw [show n0 - d = 0 by omega]; rfl)
        refine lv_iload_n hx hb dX3_readNumber_50 rfl (lv_at hl 2 rfl) ?_
        have hmE : prC E a (upn q 2 sp) F = prC E a (upn q 2 (digR (F 0) (q 0) n0 (q 2) 0 0).1) F := by rw [hfn]
        rw [hmE] at hP hD; clear hmE
        exact hret _ _ (nI nn) () _ _ hP hD hS rfl (by rw [hfn]) dX3_readNumber_51
      · skip
        have hp10 : (10 : Nat) ^ d ≤ 10 ^ 2 := Nat.pow_le_pow_right (by decide) (by omega)
        have hos := ho sp
        refine lv_aload_n hx hb dX3_readNumber_9 rfl (lv_at hl 0 rfl) ?_
        refine run_i (S := Unit) (run_V (As := []) (rest := []) (bs := [prC E a (upn q 2 sp) F]) (cb := [prC E a (upn q 2 sp) F]) hx hb hml hown hts hK hZ hA (c_X3_seesDigit l E _ a (upn q 2 sp) F (show q 0 ≤ 60 by omega) (show sp ≤ q 0 by omega) ho) l_X3_75 rfl ⟨⟨rfl, rfl⟩, Nat.le_of_ble_eq_true rfl, Nat.le_of_ble_eq_true rfl⟩ 7 rfl [0] rfl (by decide) rfl hP hD hS hl.1 rfl (Nat.le_of_ble_eq_true rfl) dX3_readNumber_10 ⟨Nat.zero_le _, Nat.zero_le _⟩) hA hP hD hS (isC := [0]) rfl [] [0] (br := []) (bs2 := fun _ => [prC E a (upn q 2 sp) F]) rfl (by decide) (fun _ => rfl) (by decide) (fun r u H locs hw hP hD hS => ?_)
        have hw : r = bI (decide (sp < q 0 ∧ 48 ≤ (F 0) sp ∧ (F 0) sp ≤ 57)) := hw
        subst hw
        refine bv_if_eq hx hb (tgt := 50) dX3_readNumber_13 (by decide) (fun c_2 => ?_) (fun c_2 => ?_)
        · skip
          have hin := of_decide_eq_false c_2
          have hfn : (digR (F 0) (q 0) n0 (q 2) 0 0) = (sp, nn, d) := by rw [heq]; exact digR_f hin
          refine lv_iload_n hx hb dX3_readNumber_50 rfl (lv_at hl 2 rfl) ?_
          have hmE : prC E a (upn q 2 sp) F = prC E a (upn q 2 (digR (F 0) (q 0) n0 (q 2) 0 0).1) F := by rw [hfn]
          rw [hmE] at hP hD; clear hmE
          exact hret _ _ (nI nn) () _ _ hP hD hS rfl (by rw [hfn]) dX3_readNumber_51
        · skip
          have hdg := of_decide_eq_true c_2
          refine lv_iload_n hx hb dX3_readNumber_16 rfl (lv_at hl 2 rfl) ?_
          refine lv_bipush (v := nI 10) hx hb dX3_readNumber_17 (by decide) ?_
          refine nv_imul hx hb dX3_readNumber_19 ?_
          refine lv_aload_n hx hb dX3_readNumber_20 rfl (lv_at hl 0 rfl) ?_
          refine va_get (D := E.1) (ci := 7) (v := .ref (a 1)) (C := RX3) (T := TX3) (N := 6) hx hb hts inX3 hown hK hP 0 rfl rfl 0 (by decide) (hts _ q191) (fun _ h9 => h9) rfl dX3_readNumber_21 ?_
          refine lv_aload_n hx hb dX3_readNumber_24 rfl (lv_at hl 0 rfl) ?_
          refine va_get (D := E.1) (ci := 7) (v := .int (nI sp)) (C := RX3) (T := TX3) (N := 6) hx hb hts inX3 hown hK hP 0 rfl rfl 5 (by decide) (hts _ q197) (fun _ h9 => h9) rfl dX3_readNumber_25 ?_
          refine nv_cald (f := (F 0)) (i := sp) (n := 60) hx hb hK hP 1 1 rfl rfl (by omega) (by decide) dX3_readNumber_28 ?_
          refine lv_bipush (v := nI 48) hx hb dX3_readNumber_29 (by decide) ?_
          refine nv_isub hx hb (by omega) dX3_readNumber_31 ?_
          refine nv_iadd hx hb dX3_readNumber_32 ?_
          refine lv_istore_n (lv' := [(2, .int (nI (nn * 10 + (((F 0) sp) - 48)))), (0, .ref (a 0)), (1, .int (nI n0)), (3, .int (nI d))]) hx hb dX3_readNumber_33 rfl hl (by decide) rfl (fun ls hl => ?_)
          refine lv_aload_n hx hb dX3_readNumber_34 rfl (lv_at hl 1 rfl) ?_
          refine lv_dup hx hb dX3_readNumber_35 rfl ?_
          refine va_get (D := E.1) (ci := 7) (v := .int (nI sp)) (C := RX3) (T := TX3) (N := 6) hx hb hts inX3 hown hK hP 0 rfl rfl 5 (by decide) (hts _ q197) (fun _ h9 => h9) rfl dX3_readNumber_36 ?_
          refine lv_iconst (v := nI 1) hx hb dX3_readNumber_39 (by decide) ?_
          refine nv_iadd hx hb dX3_readNumber_40 ?_
          refine va_put (D := E.1) (ci := 7) (v := .int (nI (sp + 1))) (ty := .int) (C := RX3) (T := TX3) (N := 6) hx hb hts inX3 tyX3 tyX3_ok nmX3 hown hK hP hD hS 0 rfl rfl 5 (by decide) (hts _ q197) (fun _ h9 => h9) rfl (by decide +kernel) rfl rfl (Nat.le_of_ble_eq_true rfl) dX3_readNumber_41 (fun H locs hP hD hS => ?_)
          have hP : va_P E.1 vwCl ([prC E a (upn (upn q 2 sp) 2 (sp + 1)) F] : List va_W).flatten H := hP
          have hD : va_D A ([prC E a (upn (upn q 2 sp) 2 (sp + 1)) F] : List va_W).flatten := hD
          have hmE : prC E a (upn (upn q 2 sp) 2 (sp + 1)) F = prC E a (upn q 2 (sp + 1)) F := by rw [upn_upn]
          rw [hmE] at hP hD; clear hmE
          refine lv_iinc (v := nI (d + 1)) (lv' := [(3, .int (nI (d + 1))), (2, .int (nI (nn * 10 + (((F 0) sp) - 48)))), (0, .ref (a 0)), (1, .int (nI n0))]) hx hb dX3_readNumber_44 hl (k := 3) rfl (nI_add d 1) (by decide) rfl (fun ls hl => ?_)
          refine lv_goto (tgt := 4) hx hb dX3_readNumber_47 (by decide) ?_
          exact ih4 (sp + 1) (nn * 10 + (((F 0) sp) - 48)) (d + 1) (by omega) (by omega) (by rw [Nat.pow_succ]; omega) (by rw [heq, show n0 - d = (n0 - (d + 1)) + 1 by omega, digR_t hdg, show 10 * nn + F 0 sp - 48 = nn * 10 + (F 0 sp - 48) by omega]) (by omega) _ _ _ hP hD hS (lv_sub hl [2, 3, 1, 0] rfl)
  rw [show prC E a q F = prC E a (upn q 2 (q 2)) F from by rw [upn_id]] at hP hD
  exact loop4 _ (q 2) 0 0 (by omega) (by omega) (by decide) rfl (Nat.lt_succ_self _) _ _ _ hP hD hS (lv_sub hl [2, 3, 1, 0] rfl)
