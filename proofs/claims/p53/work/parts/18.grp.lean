abbrev rm_X1_addUpGroups : Room := { frames := 0, cells := 0, slots := 0, locals := 0 }
set_option maxHeartbeats 4000000 in
set_option maxRecDepth 100000 in
theorem c_X1_addUpGroups (l : Launch) (E : EE) (sz : Nat) (b : Nat → Nat) (so gw : Nat → Nat) (a : Nat → Nat) (g : GG) (B : Nat) (hI : IB B g)  : MI l yX1_addUpGroups cX1_addUpGroups 5 .int rm_X1_addUpGroups [.ref (b 0), .ref (a 0)] E sz [grC E b so gw, stC E a g] (fun (r : Int32) (u : Nat → Nat) => r = nI (2 ^ g 8 0) ∧ ∀ q, q < 2 ^ g 8 0 → u q = sG g q) (fun u => [grC E b u gw, stC E a g]) 0 0 := by
  refine mi_go (by decide) (Nat.le_of_ble_eq_true rfl) ?_
  intro p e s m below meth c A Q ls hx hb hml hown hts hK hZ hA hsz hP hD hl hret
  have hS : va_S A s.heap s.heap [] := va_S.rf
  have hl : lv_has ls 5 [(0, .ref (b 0)), (1, .ref (a 0))] := hl
  skip
  have hmc := hI.mc
  have hbu := hI.bud
  have hsh : allSh g ≤ 50 * g 8 0 := hI.shs (Nat.le_refl _)
  have hqd : quo g = allSh g / 2 + 1 := rfl
  have h256 := p256' hI (Nat.le_refl (g 8 0))
  refine lv_aload_n hx hb dX1_addUpGroups_0 rfl (lv_at hl 0 rfl) ?_
  refine va_get (D := E.1) (ci := 5) (v := .ref (b 1)) (C := RX1) (T := TX1) (N := 2) hx hb hts inX1 hown hK hP 0 rfl rfl 0 (by decide) (hts _ q178) (fun _ h9 => h9) rfl dX1_addUpGroups_1 ?_
  refine lv_iconst (v := nI 0) hx hb dX1_addUpGroups_4 (by decide) ?_
  refine lv_iconst (v := nI 0) hx hb dX1_addUpGroups_5 (by decide) ?_
  refine nv_iast (f := so) (i := 0) (v := 0) (n := 256) hx hb hK hP hD hS 1 0 rfl rfl (by omega) (by decide) dX1_addUpGroups_6 (fun H locs hP hD hS => ?_)
  have hP : va_P E.1 vwCl ([grC E b (upn so 0 0) gw, stC E a g] : List va_W).flatten H := hP
  have hD : va_D A ([grC E b (upn so 0 0) gw, stC E a g] : List va_W).flatten := hD
  refine lv_iconst (v := nI 1) hx hb dX1_addUpGroups_7 (by decide) ?_
  refine lv_istore_n (lv' := [(2, .int (nI 1)), (0, .ref (b 0)), (1, .ref (a 0))]) hx hb dX1_addUpGroups_8 rfl hl (by decide) rfl (fun ls hl => ?_)
  refine lv_iconst (v := nI 0) hx hb dX1_addUpGroups_9 (by decide) ?_
  refine lv_istore_n (lv' := [(3, .int (nI 0)), (2, .int (nI 1)), (0, .ref (b 0)), (1, .ref (a 0))]) hx hb dX1_addUpGroups_10 rfl hl (by decide) rfl (fun ls hl => ?_)
  have loop11 : ∀ (n : Nat) (i : Nat) (so1 : Nat → Nat), (i ≤ g 8 0) → (∀ q, q < 2 ^ i → so1 q = sgi g i q) → g 8 0 - i < n → ∀ (H : Heap) (locs : List Loc) (ls : Array Slot), va_P E.1 vwCl ([grC E b so1 gw, stC E a g] : List va_W).flatten H → va_D A ([grC E b so1 gw, stC E a g] : List va_W).flatten → va_S A s.heap H locs → lv_has ls 5 [(0, .ref (b 0)), (1, .ref (a 0)), (2, .int (nI (2 ^ i))), (3, .int (nI i))] → W p l e rm_X1_addUpGroups s m ([.ref (b 0), .ref (a 0)] : List Value).toArray below meth c H locs 0 0 Q (F0 m 11 ls []) := by
    intro n11
    induction n11 with
    | zero => intro i so1 hi hso hn11; exact absurd hn11 (Nat.not_lt_zero _)
    | succ n11 ih11 =>
      intro i so1 hi hso hn11 H locs ls hP hD hS hl
      refine lv_iload_n hx hb dX1_addUpGroups_11 rfl (lv_at hl 3 rfl) ?_
      refine lv_aload_n hx hb dX1_addUpGroups_12 rfl (lv_at hl 1 rfl) ?_
      refine va_get (D := E.1) (ci := 8) (v := .int (nI (g 8 0))) (C := RX4) (T := TX4) (N := 16) hx hb hts inX4 hown hK hP 3 rfl rfl 8 (by decide) (hts _ q87) (fun _ h9 => h9) rfl dX1_addUpGroups_13 ?_
      refine nv_icmp_ge (X := ((i : Nat) : Int)) (Y := ((g 8 0 : Nat) : Int)) hx hb (nI_toInt (by omega)) (nI_toInt (by omega)) (tgt := 67) dX1_addUpGroups_16 (by decide) (fun c_1 => ?_) (fun c_1 => ?_)
      · skip
        have hl : lv_has ls 5 [(0, .ref (b 0)), (1, .ref (a 0)), (2, .int (nI (2 ^ g 8 0))), (3, .int (nI i))] := by rw [show 2 ^ g 8 0 = 2 ^ i from by rw [show i = g 8 0 by omega]]; exact hl
        refine lv_iload_n hx hb dX1_addUpGroups_67 rfl (lv_at hl 2 rfl) ?_
        exact hret _ _ (nI (2 ^ g 8 0)) so1 _ _ hP hD hS rfl ⟨rfl, fun q hq => by rw [hso q (by rw [show i = g 8 0 by omega]; exact hq), show i = g 8 0 by omega]; rfl⟩ dX1_addUpGroups_68
      · skip
        have hmb := hI.mem (m := i) (by omega)
        have h2i := p256 hI (i := i) (by omega)
        refine lv_iconst (v := nI 0) hx hb dX1_addUpGroups_19 (by decide) ?_
        refine lv_istore (lv' := [(4, .int (nI 0)), (0, .ref (b 0)), (1, .ref (a 0)), (2, .int (nI (2 ^ i))), (3, .int (nI i))]) hx hb dX1_addUpGroups_20 hl (by decide) rfl (fun ls hl => ?_)
        have loop22 : ∀ (n : Nat) (k : Nat) (so2 : Nat → Nat), (k ≤ 2 ^ i) → (∀ q, q < 2 ^ i → so2 q = sgi g i q) → (∀ q, q < k → so2 (2 ^ i + q) = sgi g (i + 1) (2 ^ i + q)) → 2 ^ i - k < n → ∀ (H : Heap) (locs : List Loc) (ls : Array Slot), va_P E.1 vwCl ([grC E b so2 gw, stC E a g] : List va_W).flatten H → va_D A ([grC E b so2 gw, stC E a g] : List va_W).flatten → va_S A s.heap H locs → lv_has ls 5 [(0, .ref (b 0)), (1, .ref (a 0)), (2, .int (nI (2 ^ i))), (3, .int (nI i)), (4, .int (nI k))] → W p l e rm_X1_addUpGroups s m ([.ref (b 0), .ref (a 0)] : List Value).toArray below meth c H locs 0 0 Q (F0 m 22 ls []) := by
          intro n22
          induction n22 with
          | zero => intro k so2 hk hs1 hs2 hn22; exact absurd hn22 (Nat.not_lt_zero _)
          | succ n22 ih22 =>
            intro k so2 hk hs1 hs2 hn22 H locs ls hP hD hS hl
            refine lv_iload hx hb dX1_addUpGroups_22 (lv_at hl 4 rfl) ?_
            refine lv_iload_n hx hb dX1_addUpGroups_24 rfl (lv_at hl 2 rfl) ?_
            refine nv_icmp_ge (X := ((k : Nat) : Int)) (Y := ((2 ^ i : Nat) : Int)) hx hb (nI_toInt (by omega)) (nI_toInt (by omega)) (tgt := 57) dX1_addUpGroups_25 (by decide) (fun c_2 => ?_) (fun c_2 => ?_)
            · skip
              have hsn : ∀ q, q < 2 ^ (i + 1) → so2 q = sgi g (i + 1) q := fun q hq => by
                rw [Nat.pow_succ] at hq
                rcases Nat.lt_or_ge q (2 ^ i) with z | z
                · rw [sgi_lo z]; exact hs1 q z
                · have := hs2 (q - 2 ^ i) (by omega)
                  rw [show 2 ^ i + (q - 2 ^ i) = q by omega] at this
                  exact this
              refine lv_iload_n hx hb dX1_addUpGroups_57 rfl (lv_at hl 2 rfl) ?_
              refine lv_iconst (v := nI 2) hx hb dX1_addUpGroups_58 (by decide) ?_
              refine nv_imul hx hb dX1_addUpGroups_59 ?_
              refine lv_istore_n (lv' := [(2, .int (nI ((2 ^ i) * 2))), (0, .ref (b 0)), (1, .ref (a 0)), (3, .int (nI i)), (4, .int (nI k))]) hx hb dX1_addUpGroups_60 rfl hl (by decide) rfl (fun ls hl => ?_)
              have hl : lv_has ls 5 [(2, .int (nI (2 ^ (i + 1)))), (0, .ref (b 0)), (1, .ref (a 0)), (3, .int (nI i)), (4, .int (nI k))] := by rw [show 2 ^ (i + 1) = (2 ^ i) * 2 from rfl]; exact hl
              refine lv_iinc (v := nI (i + 1)) (lv' := [(3, .int (nI (i + 1))), (2, .int (nI (2 ^ (i + 1)))), (0, .ref (b 0)), (1, .ref (a 0)), (4, .int (nI k))]) hx hb dX1_addUpGroups_61 hl (k := 3) rfl (nI_add i 1) (by decide) rfl (fun ls hl => ?_)
              refine lv_goto (tgt := 11) hx hb dX1_addUpGroups_64 (by decide) ?_
              exact ih11 (i + 1) so2 (by omega) hsn (by omega) _ _ _ hP hD hS (lv_sub hl [2, 3, 1, 0] rfl)
            · skip
              refine lv_aload_n hx hb dX1_addUpGroups_28 rfl (lv_at hl 0 rfl) ?_
              refine va_get (D := E.1) (ci := 5) (v := .ref (b 1)) (C := RX1) (T := TX1) (N := 2) hx hb hts inX1 hown hK hP 0 rfl rfl 0 (by decide) (hts _ q178) (fun _ h9 => h9) rfl dX1_addUpGroups_29 ?_
              refine lv_iload_n hx hb dX1_addUpGroups_32 rfl (lv_at hl 2 rfl) ?_
              refine lv_iload hx hb dX1_addUpGroups_33 (lv_at hl 4 rfl) ?_
              refine nv_iadd hx hb dX1_addUpGroups_35 ?_
              refine lv_aload_n hx hb dX1_addUpGroups_36 rfl (lv_at hl 0 rfl) ?_
              refine va_get (D := E.1) (ci := 5) (v := .ref (b 1)) (C := RX1) (T := TX1) (N := 2) hx hb hts inX1 hown hK hP 0 rfl rfl 0 (by decide) (hts _ q178) (fun _ h9 => h9) rfl dX1_addUpGroups_37 ?_
              refine lv_iload hx hb dX1_addUpGroups_40 (lv_at hl 4 rfl) ?_
              refine nv_iald (f := so2) (i := k) (n := 256) hx hb hK hP 1 0 rfl rfl (by omega) (by decide) dX1_addUpGroups_42 ?_
              refine lv_aload_n hx hb dX1_addUpGroups_43 rfl (lv_at hl 1 rfl) ?_
              refine va_get (D := E.1) (ci := 8) (v := .ref (a 1)) (C := RX4) (T := TX4) (N := 16) hx hb hts inX4 hown hK hP 3 rfl rfl 0 (by decide) (hts _ q67) (fun _ h9 => h9) rfl dX1_addUpGroups_44 ?_
              refine lv_iload_n hx hb dX1_addUpGroups_47 rfl (lv_at hl 3 rfl) ?_
              refine nv_iald (f := (g 0)) (i := i) (n := 8) hx hb hK hP 4 0 rfl rfl (by omega) (by decide) dX1_addUpGroups_48 ?_
              refine nv_iadd hx hb dX1_addUpGroups_49 ?_
              refine nv_iast (f := so2) (i := 2 ^ i + k) (v := so2 k + (g 0 i)) (n := 256) hx hb hK hP hD hS 1 0 rfl rfl (by omega) (by decide) dX1_addUpGroups_50 (fun H locs hP hD hS => ?_)
              have hP : va_P E.1 vwCl ([grC E b (upn so2 (2 ^ i + k) (so2 k + (g 0 i))) gw, stC E a g] : List va_W).flatten H := hP
              have hD : va_D A ([grC E b (upn so2 (2 ^ i + k) (so2 k + (g 0 i))) gw, stC E a g] : List va_W).flatten := hD
              refine lv_iinc (v := nI (k + 1)) (lv' := [(4, .int (nI (k + 1))), (0, .ref (b 0)), (1, .ref (a 0)), (2, .int (nI (2 ^ i))), (3, .int (nI i))]) hx hb dX1_addUpGroups_51 hl (k := 4) rfl (nI_add k 1) (by decide) rfl (fun ls hl => ?_)
              refine lv_goto (tgt := 22) hx hb dX1_addUpGroups_54 (by decide) ?_
              exact ih22 (k + 1) (upn so2 (2 ^ i + k) (so2 k + (g 0 i))) (by omega) (fun q hq => by rw [upn_n (by omega)]; exact hs1 q hq) (fun q hq => by rcases Nat.lt_or_ge q k with z | z; rw [upn_n (by omega)]; exact hs2 q z; rw [show q = k by omega, upn_s, sgi_hi (by omega), hs1 k (by omega)]) (by omega) _ _ _ hP hD hS (lv_sub hl [1, 2, 3, 4, 0] rfl)
        exact loop22 _ 0 so1 (Nat.zero_le _) hso (fun q hq => absurd hq (Nat.not_lt_zero _)) (Nat.lt_succ_self _) _ _ _ hP hD hS (lv_sub hl [1, 2, 3, 4, 0] rfl)
  exact loop11 _ 0 (upn so 0 0) (by omega) (fun q hq => by rw [show q = 0 by omega, upn_s]; rfl) (Nat.lt_succ_self _) _ _ _ hP hD hS (lv_sub hl [2, 3, 1, 0] rfl)
abbrev rm_X1_winningByTrying : Room := { frames := 2, cells := 0, slots := 0, locals := 42 }
set_option maxHeartbeats 4000000 in
set_option maxRecDepth 100000 in
theorem c_X1_winningByTrying (l : Launch) (E : EE) (sz : Nat) (b : Nat → Nat) (so gw : Nat → Nat) (a : Nat → Nat) (g : GG) (B : Nat) (hI : IB B g)  : MI l yX1_winningByTrying cX1_winningByTrying 6 .int rm_X1_winningByTrying [.ref (b 0), .ref (a 0)] E sz [grC E b so gw, stC E a g] (fun (r : Int32) (u : (Nat → Nat) × (Nat → Nat)) => r = nI (winN g)) (fun u => [grC E b u.1 u.2, stC E a g]) 0 0 := by
  refine mi_go (by decide) (Nat.le_of_ble_eq_true rfl) ?_
  intro p e s m below meth c A Q ls hx hb hml hown hts hK hZ hA hsz hP hD hl hret
  have hS : va_S A s.heap s.heap [] := va_S.rf
  have hl : lv_has ls 6 [(0, .ref (b 0)), (1, .ref (a 0))] := hl
  skip
  have hmc := hI.mc
  have hbu := hI.bud
  have hsh : allSh g ≤ 50 * g 8 0 := hI.shs (Nat.le_refl _)
  have hqd : quo g = allSh g / 2 + 1 := rfl
  have h256 := p256' hI (Nat.le_refl (g 8 0))
  refine lv_aload_n hx hb dX1_winningByTrying_0 rfl (lv_at hl 1 rfl) ?_
  refine run_i (S := Unit) (run_V (As := []) (rest := []) (bs := [grC E b so gw, stC E a g]) (cb := [stC E a g]) hx hb hml hown hts hK hZ hA (c_X4_neededShares l E _ a g  _ hI) l_X1_18 rfl ⟨⟨rfl, rfl⟩, Nat.le_of_ble_eq_true rfl, Nat.le_of_ble_eq_true rfl⟩ 8 rfl [1] rfl (by decide) rfl hP hD hS hl.1 rfl (Nat.le_of_ble_eq_true rfl) dX1_winningByTrying_1 ⟨Nat.zero_le _, Nat.zero_le _⟩) hA hP hD hS (isC := [1]) rfl [0] [0, 1] (br := [grC E b so gw]) (bs2 := fun _ => [grC E b so gw, stC E a g]) rfl (by decide) (fun _ => rfl) (by decide) (fun r u H locs hw hP hD hS => ?_)
  subst hw
  refine lv_istore_n (lv' := [(2, .int (nI (quo g))), (0, .ref (b 0)), (1, .ref (a 0))]) hx hb dX1_winningByTrying_4 rfl hl (by decide) rfl (fun ls hl => ?_)
  refine lv_aload_n hx hb dX1_winningByTrying_5 rfl (lv_at hl 1 rfl) ?_
  refine lv_aload_n hx hb dX1_winningByTrying_6 rfl (lv_at hl 2 rfl) ?_
  refine run_i (S := Nat → Nat) (run_V (As := [.ref (a 0)]) (rest := []) (bs := [grC E b so gw, stC E a g]) (cb := [grC E b so gw, stC E a g]) hx hb hml hown hts hK hZ hA (c_X1_addUpGroups l E _ b so gw a g _ hI  ) l_X1_24 rfl ⟨⟨rfl, rfl⟩, Nat.le_of_ble_eq_true rfl, Nat.le_of_ble_eq_true rfl⟩ 5 rfl [0, 1] rfl (by decide) rfl hP hD hS hl.1 rfl (Nat.le_of_ble_eq_true rfl) dX1_winningByTrying_7 ⟨Nat.zero_le _, Nat.zero_le _⟩) hA hP hD hS (isC := [0, 1]) rfl [] [0, 1] (br := []) (bs2 := fun u => [grC E b u gw, stC E a g]) rfl (by decide) (fun _ => rfl) (by decide) (fun r so_1 H locs hw hP hD hS => ?_)
  obtain ⟨rfl, hso_2⟩ := hw
  refine lv_istore_n (lv' := [(3, .int (nI (2 ^ g 8 0))), (2, .int (nI (quo g))), (0, .ref (b 0)), (1, .ref (a 0))]) hx hb dX1_winningByTrying_10 rfl hl (by decide) rfl (fun ls hl => ?_)
  refine lv_iconst (v := nI 0) hx hb dX1_winningByTrying_11 (by decide) ?_
  refine lv_istore (lv' := [(4, .int (nI 0)), (3, .int (nI (2 ^ g 8 0))), (2, .int (nI (quo g))), (0, .ref (b 0)), (1, .ref (a 0))]) hx hb dX1_winningByTrying_12 hl (by decide) rfl (fun ls hl => ?_)
  refine lv_iconst (v := nI 0) hx hb dX1_winningByTrying_14 (by decide) ?_
  refine lv_istore (lv' := [(5, .int (nI 0)), (4, .int (nI 0)), (3, .int (nI (2 ^ g 8 0))), (2, .int (nI (quo g))), (0, .ref (b 0)), (1, .ref (a 0))]) hx hb dX1_winningByTrying_15 hl (by decide) rfl (fun ls hl => ?_)
  have loop17 : ∀ (n : Nat) (i : Nat), (i ≤ 2 ^ g 8 0) → 2 ^ g 8 0 - i < n → ∀ (H : Heap) (locs : List Loc) (ls : Array Slot), va_P E.1 vwCl ([grC E b so_1 gw, stC E a g] : List va_W).flatten H → va_D A ([grC E b so_1 gw, stC E a g] : List va_W).flatten → va_S A s.heap H locs → lv_has ls 6 [(0, .ref (b 0)), (1, .ref (a 0)), (2, .int (nI (quo g))), (3, .int (nI (2 ^ g 8 0))), (4, .int (nI (sm (fun q => if wnB g q then 1 else 0) i))), (5, .int (nI i))] → W p l e rm_X1_winningByTrying s m ([.ref (b 0), .ref (a 0)] : List Value).toArray below meth c H locs 0 0 Q (F0 m 17 ls []) := by
    intro n17
    induction n17 with
    | zero => intro i hi hn17; exact absurd hn17 (Nat.not_lt_zero _)
    | succ n17 ih17 =>
      intro i hi hn17 H locs ls hP hD hS hl
      refine lv_iload hx hb dX1_winningByTrying_17 (lv_at hl 5 rfl) ?_
      refine lv_iload_n hx hb dX1_winningByTrying_19 rfl (lv_at hl 3 rfl) ?_
      refine nv_icmp_ge (X := ((i : Nat) : Int)) (Y := ((2 ^ g 8 0 : Nat) : Int)) hx hb (nI_toInt (by omega)) (nI_toInt (by omega)) (tgt := 43) dX1_winningByTrying_20 (by decide) (fun c_3 => ?_) (fun c_3 => ?_)
      · skip
        refine lv_iload hx hb dX1_winningByTrying_43 (lv_at hl 4 rfl) ?_
        exact hret _ _ (nI (sm (fun q => if wnB g q then 1 else 0) i)) (so_1, gw) _ _ hP hD hS rfl (by rw [show i = 2 ^ g 8 0 by omega]; rfl) dX1_winningByTrying_45
      · skip
        have hsg : sG g i ≤ allSh g := sgi_le
        refine lv_aload_n hx hb dX1_winningByTrying_23 rfl (lv_at hl 0 rfl) ?_
        refine va_get (D := E.1) (ci := 5) (v := .ref (b 1)) (C := RX1) (T := TX1) (N := 2) hx hb hts inX1 hown hK hP 0 rfl rfl 0 (by decide) (hts _ q178) (fun _ h9 => h9) rfl dX1_winningByTrying_24 ?_
        refine lv_iload hx hb dX1_winningByTrying_27 (lv_at hl 5 rfl) ?_
        refine nv_iald (f := so_1) (i := i) (n := 256) hx hb hK hP 1 0 rfl rfl (by omega) (by decide) dX1_winningByTrying_29 ?_
        refine tp_i (congrArg nI (hso_2 i (by omega))) ?_
        refine lv_iload_n hx hb dX1_winningByTrying_30 rfl (lv_at hl 2 rfl) ?_
        refine nv_icmp_lt (X := ((sG g i : Nat) : Int)) (Y := ((quo g : Nat) : Int)) hx hb (nI_toInt (by omega)) (nI_toInt (by omega)) (tgt := 37) dX1_winningByTrying_31 (by decide) (fun c_4 => ?_) (fun c_4 => ?_)
        · skip
          rw [show sm (fun q => if wnB g q then 1 else 0) i = sm (fun q => if wnB g q then 1 else 0) (i + 1) from sm_if_f (q := wnB g) (f := fun _ => 1) (decide_eq_false (by omega))] at hl
          refine lv_iinc (v := nI (i + 1)) (lv' := [(5, .int (nI (i + 1))), (0, .ref (b 0)), (1, .ref (a 0)), (2, .int (nI (quo g))), (3, .int (nI (2 ^ g 8 0))), (4, .int (nI (sm (fun q => if wnB g q then 1 else 0) (i + 1))))]) hx hb dX1_winningByTrying_37 hl (k := 5) rfl (nI_add i 1) (by decide) rfl (fun ls hl => ?_)
          refine lv_goto (tgt := 17) hx hb dX1_winningByTrying_40 (by decide) ?_
          exact ih17 (i + 1) (by omega) (by omega) _ _ _ hP hD hS (lv_sub hl [1, 2, 3, 4, 5, 0] rfl)
        · skip
          have hwn : wnB g i = true := decide_eq_true (by omega)
          refine lv_iinc (v := nI (sm (fun q => if wnB g q then 1 else 0) i + 1)) (lv' := [(4, .int (nI (sm (fun q => if wnB g q then 1 else 0) i + 1))), (0, .ref (b 0)), (1, .ref (a 0)), (2, .int (nI (quo g))), (3, .int (nI (2 ^ g 8 0))), (5, .int (nI i))]) hx hb dX1_winningByTrying_34 hl (k := 4) rfl (nI_add (sm (fun q => if wnB g q then 1 else 0) i) 1) (by decide) rfl (fun ls hl => ?_)
          rw [show sm (fun q => if wnB g q then 1 else 0) i + 1 = sm (fun q => if wnB g q then 1 else 0) (i + 1) from sm_if_t (q := wnB g) (f := fun _ => 1) hwn] at hl
          refine lv_iinc (v := nI (i + 1)) (lv' := [(5, .int (nI (i + 1))), (4, .int (nI (sm (fun q => if wnB g q then 1 else 0) (i + 1)))), (0, .ref (b 0)), (1, .ref (a 0)), (2, .int (nI (quo g))), (3, .int (nI (2 ^ g 8 0)))]) hx hb dX1_winningByTrying_37 hl (k := 5) rfl (nI_add i 1) (by decide) rfl (fun ls hl => ?_)
          refine lv_goto (tgt := 17) hx hb dX1_winningByTrying_40 (by decide) ?_
          exact ih17 (i + 1) (by omega) (by omega) _ _ _ hP hD hS (lv_sub hl [2, 3, 4, 5, 1, 0] rfl)
  exact loop17 _ 0 (Nat.zero_le _) (Nat.lt_succ_self _) _ _ _ hP hD hS (lv_sub hl [4, 5, 3, 2, 1, 0] rfl)
abbrev rm_X1_decisiveByTrying : Room := { frames := 2, cells := 0, slots := 0, locals := 42 }
set_option maxHeartbeats 4000000 in
set_option maxRecDepth 100000 in
theorem c_X1_decisiveByTrying (l : Launch) (E : EE) (sz : Nat) (b : Nat → Nat) (so gw : Nat → Nat) (a : Nat → Nat) (g : GG) (B : Nat) (hI : IB B g) (m0 : Nat) (hm : m0 < g 8 0) : MI l yX1_decisiveByTrying cX1_decisiveByTrying 8 .int rm_X1_decisiveByTrying [.ref (b 0), .ref (a 0), .int (nI m0)] E sz [grC E b so gw, stC E a g] (fun (r : Int32) (u : (Nat → Nat) × (Nat → Nat)) => r = nI (powN g m0)) (fun u => [grC E b u.1 u.2, stC E a g]) 0 0 := by
  refine mi_go (by decide) (Nat.le_of_ble_eq_true rfl) ?_
  intro p e s m below meth c A Q ls hx hb hml hown hts hK hZ hA hsz hP hD hl hret
  have hS : va_S A s.heap s.heap [] := va_S.rf
  have hl : lv_has ls 8 [(0, .ref (b 0)), (1, .ref (a 0)), (2, .int (nI m0))] := hl
  skip
  have hmc := hI.mc
  have hbu := hI.bud
  have hsh : allSh g ≤ 50 * g 8 0 := hI.shs (Nat.le_refl _)
  have hqd : quo g = allSh g / 2 + 1 := rfl
  have h256 := p256' hI (Nat.le_refl (g 8 0))
  have hmb := hI.mem hm
  refine lv_aload_n hx hb dX1_decisiveByTrying_0 rfl (lv_at hl 1 rfl) ?_
  refine run_i (S := Unit) (run_V (As := []) (rest := []) (bs := [grC E b so gw, stC E a g]) (cb := [stC E a g]) hx hb hml hown hts hK hZ hA (c_X4_neededShares l E _ a g  _ hI) l_X1_18 rfl ⟨⟨rfl, rfl⟩, Nat.le_of_ble_eq_true rfl, Nat.le_of_ble_eq_true rfl⟩ 8 rfl [1] rfl (by decide) rfl hP hD hS hl.1 rfl (Nat.le_of_ble_eq_true rfl) dX1_decisiveByTrying_1 ⟨Nat.zero_le _, Nat.zero_le _⟩) hA hP hD hS (isC := [1]) rfl [0] [0, 1] (br := [grC E b so gw]) (bs2 := fun _ => [grC E b so gw, stC E a g]) rfl (by decide) (fun _ => rfl) (by decide) (fun r u H locs hw hP hD hS => ?_)
  subst hw
  refine lv_istore_n (lv' := [(3, .int (nI (quo g))), (0, .ref (b 0)), (1, .ref (a 0)), (2, .int (nI m0))]) hx hb dX1_decisiveByTrying_4 rfl hl (by decide) rfl (fun ls hl => ?_)
  refine lv_aload_n hx hb dX1_decisiveByTrying_5 rfl (lv_at hl 1 rfl) ?_
  refine lv_aload_n hx hb dX1_decisiveByTrying_6 rfl (lv_at hl 2 rfl) ?_
  refine run_i (S := Nat → Nat) (run_V (As := [.ref (a 0)]) (rest := []) (bs := [grC E b so gw, stC E a g]) (cb := [grC E b so gw, stC E a g]) hx hb hml hown hts hK hZ hA (c_X1_addUpGroups l E _ b so gw a g _ hI  ) l_X1_24 rfl ⟨⟨rfl, rfl⟩, Nat.le_of_ble_eq_true rfl, Nat.le_of_ble_eq_true rfl⟩ 5 rfl [0, 1] rfl (by decide) rfl hP hD hS hl.1 rfl (Nat.le_of_ble_eq_true rfl) dX1_decisiveByTrying_7 ⟨Nat.zero_le _, Nat.zero_le _⟩) hA hP hD hS (isC := [0, 1]) rfl [] [0, 1] (br := []) (bs2 := fun u => [grC E b u gw, stC E a g]) rfl (by decide) (fun _ => rfl) (by decide) (fun r so_1 H locs hw hP hD hS => ?_)
  obtain ⟨rfl, hso_2⟩ := hw
  refine lv_istore (lv' := [(4, .int (nI (2 ^ g 8 0))), (3, .int (nI (quo g))), (0, .ref (b 0)), (1, .ref (a 0)), (2, .int (nI m0))]) hx hb dX1_decisiveByTrying_10 hl (by decide) rfl (fun ls hl => ?_)
  refine lv_iconst (v := nI 0) hx hb dX1_decisiveByTrying_12 (by decide) ?_
  refine lv_istore (lv' := [(5, .int (nI 0)), (4, .int (nI (2 ^ g 8 0))), (3, .int (nI (quo g))), (0, .ref (b 0)), (1, .ref (a 0)), (2, .int (nI m0))]) hx hb dX1_decisiveByTrying_13 hl (by decide) rfl (fun ls hl => ?_)
  refine lv_iconst (v := nI 0) hx hb dX1_decisiveByTrying_15 (by decide) ?_
  refine lv_istore (lv' := [(6, .int (nI 0)), (5, .int (nI 0)), (4, .int (nI (2 ^ g 8 0))), (3, .int (nI (quo g))), (0, .ref (b 0)), (1, .ref (a 0)), (2, .int (nI m0))]) hx hb dX1_decisiveByTrying_16 hl (by decide) rfl (fun ls hl => ?_)
  have loop18 : ∀ (n : Nat) (i : Nat), (i ≤ 2 ^ g 8 0) → 2 ^ g 8 0 - i < n → ∀ (H : Heap) (locs : List Loc) (ls : Array Slot), va_P E.1 vwCl ([grC E b so_1 gw, stC E a g] : List va_W).flatten H → va_D A ([grC E b so_1 gw, stC E a g] : List va_W).flatten → va_S A s.heap H locs → lv_has ls 8 [(0, .ref (b 0)), (1, .ref (a 0)), (2, .int (nI m0)), (3, .int (nI (quo g))), (4, .int (nI (2 ^ g 8 0))), (5, .int (nI (sm (fun q => if dcB g m0 q then 1 else 0) i))), (6, .int (nI i))] → W p l e rm_X1_decisiveByTrying s m ([.ref (b 0), .ref (a 0), .int (nI m0)] : List Value).toArray below meth c H locs 0 0 Q (F0 m 18 ls []) := by
    intro n18
    induction n18 with
    | zero => intro i hi hn18; exact absurd hn18 (Nat.not_lt_zero _)
    | succ n18 ih18 =>
      intro i hi hn18 H locs ls hP hD hS hl
      refine lv_iload hx hb dX1_decisiveByTrying_18 (lv_at hl 6 rfl) ?_
      refine lv_iload hx hb dX1_decisiveByTrying_20 (lv_at hl 4 rfl) ?_
      refine nv_icmp_ge (X := ((i : Nat) : Int)) (Y := ((2 ^ g 8 0 : Nat) : Int)) hx hb (nI_toInt (by omega)) (nI_toInt (by omega)) (tgt := 84) dX1_decisiveByTrying_22 (by decide) (fun c_3 => ?_) (fun c_3 => ?_)
      · skip
        refine lv_iload hx hb dX1_decisiveByTrying_84 (lv_at hl 5 rfl) ?_
        exact hret _ _ (nI (sm (fun q => if dcB g m0 q then 1 else 0) i)) (so_1, gw) _ _ hP hD hS rfl (by rw [show i = 2 ^ g 8 0 by omega]; rfl) dX1_decisiveByTrying_86
      · skip
        have hsg : sG g i ≤ allSh g := sgi_le
        refine lv_iload hx hb dX1_decisiveByTrying_25 (lv_at hl 6 rfl) ?_
        refine lv_iload_n hx hb dX1_decisiveByTrying_27 rfl (lv_at hl 2 rfl) ?_
        refine nv_ishr hx hb (by omega) (by omega) dX1_decisiveByTrying_28 ?_
        refine lv_iconst (v := nI 1) hx hb dX1_decisiveByTrying_29 (by decide) ?_
        refine nv_iand hx hb dX1_decisiveByTrying_30 ?_
        refine tp_i (congrArg nI bit1) ?_
        refine nv_if_eq (X := (((if i.testBit m0 then 1 else 0) : Nat) : Int)) hx hb (nI_toInt (by split <;> omega)) (tgt := 38) dX1_decisiveByTrying_31 (by decide) (fun c_4 => ?_) (fun c_4 => ?_)
        · skip
          have hbt : i.testBit m0 = false := by cases hb9 : i.testBit m0 with | false => rfl | true => rw [hb9] at c_4; exact absurd c_4 (by decide)
          refine lv_iconst (v := nI 0) hx hb dX1_decisiveByTrying_38 (by decide) ?_
          refine lv_istore (lv' := [(7, .int (nI 0)), (0, .ref (b 0)), (1, .ref (a 0)), (2, .int (nI m0)), (3, .int (nI (quo g))), (4, .int (nI (2 ^ g 8 0))), (5, .int (nI (sm (fun q => if dcB g m0 q then 1 else 0) i))), (6, .int (nI i))]) hx hb dX1_decisiveByTrying_39 hl (by decide) rfl (fun ls hl => ?_)
          refine lv_iload hx hb dX1_decisiveByTrying_41 (lv_at hl 0 rfl) ?_
          refine nv_if_ne (X := ((0 : Nat) : Int)) hx hb (nI_toInt (by omega)) (tgt := 78) dX1_decisiveByTrying_43 (by decide) (fun c_5 => ?_) (fun c_5 => ?_)
          · exact absurd c_5 (by omega)
          · skip
            refine lv_aload_n hx hb dX1_decisiveByTrying_46 rfl (lv_at hl 1 rfl) ?_
            refine va_get (D := E.1) (ci := 5) (v := .ref (b 1)) (C := RX1) (T := TX1) (N := 2) hx hb hts inX1 hown hK hP 0 rfl rfl 0 (by decide) (hts _ q178) (fun _ h9 => h9) rfl dX1_decisiveByTrying_47 ?_
            refine lv_iload hx hb dX1_decisiveByTrying_50 (lv_at hl 7 rfl) ?_
            refine nv_iald (f := so_1) (i := i) (n := 256) hx hb hK hP 1 0 rfl rfl (by omega) (by decide) dX1_decisiveByTrying_52 ?_
            refine tp_i (congrArg nI (hso_2 i (by omega))) ?_
            refine lv_iload_n hx hb dX1_decisiveByTrying_53 rfl (lv_at hl 4 rfl) ?_
            refine nv_icmp_ge (X := ((sG g i : Nat) : Int)) (Y := ((quo g : Nat) : Int)) hx hb (nI_toInt (by omega)) (nI_toInt (by omega)) (tgt := 78) dX1_decisiveByTrying_54 (by decide) (fun c_6 => ?_) (fun c_6 => ?_)
            · skip
              rw [show sm (fun q => if dcB g m0 q then 1 else 0) i = sm (fun q => if dcB g m0 q then 1 else 0) (i + 1) from sm_if_f (q := dcB g m0) (f := fun _ => 1) (by unfold dcB; rw [hbt, decide_eq_false (by omega)]; rfl)] at hl
              refine lv_iinc (v := nI (i + 1)) (lv' := [(6, .int (nI (i + 1))), (7, .int (nI 0)), (0, .ref (b 0)), (1, .ref (a 0)), (2, .int (nI m0)), (3, .int (nI (quo g))), (4, .int (nI (2 ^ g 8 0))), (5, .int (nI (sm (fun q => if dcB g m0 q then 1 else 0) (i + 1))))]) hx hb dX1_decisiveByTrying_78 hl (k := 7) rfl (nI_add i 1) (by decide) rfl (fun ls hl => ?_)
              refine lv_goto (tgt := 18) hx hb dX1_decisiveByTrying_81 (by decide) ?_
              exact ih18 (i + 1) (by omega) (by omega) _ _ _ hP hD hS (lv_sub hl [2, 3, 4, 5, 6, 7, 0] rfl)
            · skip
              refine lv_aload_n hx hb dX1_decisiveByTrying_57 rfl (lv_at hl 1 rfl) ?_
              refine va_get (D := E.1) (ci := 5) (v := .ref (b 1)) (C := RX1) (T := TX1) (N := 2) hx hb hts inX1 hown hK hP 0 rfl rfl 0 (by decide) (hts _ q178) (fun _ h9 => h9) rfl dX1_decisiveByTrying_58 ?_
              refine lv_iload hx hb dX1_decisiveByTrying_61 (lv_at hl 7 rfl) ?_
              refine nv_iald (f := so_1) (i := i) (n := 256) hx hb hK hP 1 0 rfl rfl (by omega) (by decide) dX1_decisiveByTrying_63 ?_
              refine tp_i (congrArg nI (hso_2 i (by omega))) ?_
              refine lv_aload_n hx hb dX1_decisiveByTrying_64 rfl (lv_at hl 2 rfl) ?_
              refine va_get (D := E.1) (ci := 8) (v := .ref (a 1)) (C := RX4) (T := TX4) (N := 16) hx hb hts inX4 hown hK hP 3 rfl rfl 0 (by decide) (hts _ q67) (fun _ h9 => h9) rfl dX1_decisiveByTrying_65 ?_
              refine lv_iload_n hx hb dX1_decisiveByTrying_68 rfl (lv_at hl 3 rfl) ?_
              refine nv_iald (f := (g 0)) (i := m0) (n := 8) hx hb hK hP 4 0 rfl rfl (by omega) (by decide) dX1_decisiveByTrying_69 ?_
              refine nv_iadd hx hb dX1_decisiveByTrying_70 ?_
              refine lv_iload_n hx hb dX1_decisiveByTrying_71 rfl (lv_at hl 4 rfl) ?_
              refine nv_icmp_lt (X := ((sG g i + (g 0 m0) : Nat) : Int)) (Y := ((quo g : Nat) : Int)) hx hb (nI_toInt (by omega)) (nI_toInt (by omega)) (tgt := 78) dX1_decisiveByTrying_72 (by decide) (fun c_7 => ?_) (fun c_7 => ?_)
              · skip
                rw [show sm (fun q => if dcB g m0 q then 1 else 0) i = sm (fun q => if dcB g m0 q then 1 else 0) (i + 1) from sm_if_f (q := dcB g m0) (f := fun _ => 1) (by unfold dcB; rw [hbt, decide_eq_false (by omega)]; rfl)] at hl
                refine lv_iinc (v := nI (i + 1)) (lv' := [(6, .int (nI (i + 1))), (7, .int (nI 0)), (0, .ref (b 0)), (1, .ref (a 0)), (2, .int (nI m0)), (3, .int (nI (quo g))), (4, .int (nI (2 ^ g 8 0))), (5, .int (nI (sm (fun q => if dcB g m0 q then 1 else 0) (i + 1))))]) hx hb dX1_decisiveByTrying_78 hl (k := 7) rfl (nI_add i 1) (by decide) rfl (fun ls hl => ?_)
                refine lv_goto (tgt := 18) hx hb dX1_decisiveByTrying_81 (by decide) ?_
                exact ih18 (i + 1) (by omega) (by omega) _ _ _ hP hD hS (lv_sub hl [2, 3, 4, 5, 6, 7, 0] rfl)
              · skip
                have hdc : dcB g m0 i = true := by unfold dcB; rw [hbt, decide_eq_true (by omega)]; rfl
                refine lv_iinc (v := nI (sm (fun q => if dcB g m0 q then 1 else 0) i + 1)) (lv' := [(5, .int (nI (sm (fun q => if dcB g m0 q then 1 else 0) i + 1))), (7, .int (nI 0)), (0, .ref (b 0)), (1, .ref (a 0)), (2, .int (nI m0)), (3, .int (nI (quo g))), (4, .int (nI (2 ^ g 8 0))), (6, .int (nI i))]) hx hb dX1_decisiveByTrying_75 hl (k := 6) rfl (nI_add (sm (fun q => if dcB g m0 q then 1 else 0) i) 1) (by decide) rfl (fun ls hl => ?_)
                rw [show sm (fun q => if dcB g m0 q then 1 else 0) i + 1 = sm (fun q => if dcB g m0 q then 1 else 0) (i + 1) from sm_if_t (q := dcB g m0) (f := fun _ => 1) hdc] at hl
                refine lv_iinc (v := nI (i + 1)) (lv' := [(6, .int (nI (i + 1))), (5, .int (nI (sm (fun q => if dcB g m0 q then 1 else 0) (i + 1)))), (7, .int (nI 0)), (0, .ref (b 0)), (1, .ref (a 0)), (2, .int (nI m0)), (3, .int (nI (quo g))), (4, .int (nI (2 ^ g 8 0)))]) hx hb dX1_decisiveByTrying_78 hl (k := 7) rfl (nI_add i 1) (by decide) rfl (fun ls hl => ?_)
                refine lv_goto (tgt := 18) hx hb dX1_decisiveByTrying_81 (by decide) ?_
                exact ih18 (i + 1) (by omega) (by omega) _ _ _ hP hD hS (lv_sub hl [3, 4, 5, 6, 7, 1, 0] rfl)
        · skip
          have hbt : i.testBit m0 = true := by cases hb9 : i.testBit m0 with | true => rfl | false => rw [hb9] at c_4; exact absurd rfl c_4
          refine lv_iconst (v := nI 1) hx hb dX1_decisiveByTrying_34 (by decide) ?_
          refine lv_goto (tgt := 39) hx hb dX1_decisiveByTrying_35 (by decide) ?_
          refine lv_istore (lv' := [(7, .int (nI 1)), (0, .ref (b 0)), (1, .ref (a 0)), (2, .int (nI m0)), (3, .int (nI (quo g))), (4, .int (nI (2 ^ g 8 0))), (5, .int (nI (sm (fun q => if dcB g m0 q then 1 else 0) i))), (6, .int (nI i))]) hx hb dX1_decisiveByTrying_39 hl (by decide) rfl (fun ls hl => ?_)
          refine lv_iload hx hb dX1_decisiveByTrying_41 (lv_at hl 0 rfl) ?_
          refine nv_if_ne (X := ((1 : Nat) : Int)) hx hb (nI_toInt (by omega)) (tgt := 78) dX1_decisiveByTrying_43 (by decide) (fun c_8 => ?_) (fun c_8 => ?_)
          · skip
            rw [show sm (fun q => if dcB g m0 q then 1 else 0) i = sm (fun q => if dcB g m0 q then 1 else 0) (i + 1) from sm_if_f (q := dcB g m0) (f := fun _ => 1) (by unfold dcB; rw [hbt]; rfl)] at hl
            refine lv_iinc (v := nI (i + 1)) (lv' := [(6, .int (nI (i + 1))), (7, .int (nI 1)), (0, .ref (b 0)), (1, .ref (a 0)), (2, .int (nI m0)), (3, .int (nI (quo g))), (4, .int (nI (2 ^ g 8 0))), (5, .int (nI (sm (fun q => if dcB g m0 q then 1 else 0) (i + 1))))]) hx hb dX1_decisiveByTrying_78 hl (k := 7) rfl (nI_add i 1) (by decide) rfl (fun ls hl => ?_)
            refine lv_goto (tgt := 18) hx hb dX1_decisiveByTrying_81 (by decide) ?_
            exact ih18 (i + 1) (by omega) (by omega) _ _ _ hP hD hS (lv_sub hl [2, 3, 4, 5, 6, 7, 0] rfl)
          · exact absurd c_8 (by omega)
  exact loop18 _ 0 (Nat.zero_le _) (Nat.lt_succ_self _) _ _ _ hP hD hS (lv_sub hl [4, 5, 6, 3, 2, 1, 0] rfl)
abbrev rm_X1_powerOfAll : Room := { frames := 3, cells := 0, slots := 0, locals := 127 }
set_option maxHeartbeats 4000000 in
set_option maxRecDepth 100000 in
theorem c_X1_powerOfAll (l : Launch) (E : EE) (sz : Nat) (b : Nat → Nat) (so gw : Nat → Nat) (a : Nat → Nat) (g : GG) (B : Nat) (hI : IB B g)  : MI l yX1_powerOfAll cX1_powerOfAll 4 .int rm_X1_powerOfAll [.ref (b 0), .ref (a 0)] E sz [grC E b so gw, stC E a g] (fun (r : Int32) (u : (Nat → Nat) × (Nat → Nat)) => r = nI (sm (powN g) (g 8 0))) (fun u => [grC E b u.1 u.2, stC E a g]) 0 0 := by
  refine mi_go (by decide) (Nat.le_of_ble_eq_true rfl) ?_
  intro p e s m below meth c A Q ls hx hb hml hown hts hK hZ hA hsz hP hD hl hret
  have hS : va_S A s.heap s.heap [] := va_S.rf
  have hl : lv_has ls 4 [(0, .ref (b 0)), (1, .ref (a 0))] := hl
  skip
  have hmc := hI.mc
  have hbu := hI.bud
  have hsh : allSh g ≤ 50 * g 8 0 := hI.shs (Nat.le_refl _)
  have hqd : quo g = allSh g / 2 + 1 := rfl
  have h256 := p256' hI (Nat.le_refl (g 8 0))
  refine lv_iconst (v := nI 0) hx hb dX1_powerOfAll_0 (by decide) ?_
  refine lv_istore_n (lv' := [(2, .int (nI 0)), (0, .ref (b 0)), (1, .ref (a 0))]) hx hb dX1_powerOfAll_1 rfl hl (by decide) rfl (fun ls hl => ?_)
  refine lv_iconst (v := nI 0) hx hb dX1_powerOfAll_2 (by decide) ?_
  refine lv_istore_n (lv' := [(3, .int (nI 0)), (2, .int (nI 0)), (0, .ref (b 0)), (1, .ref (a 0))]) hx hb dX1_powerOfAll_3 rfl hl (by decide) rfl (fun ls hl => ?_)
  have loop4 : ∀ (n : Nat) (i : Nat) (so1 : Nat → Nat) (gw1 : Nat → Nat), (i ≤ g 8 0) → g 8 0 - i < n → ∀ (H : Heap) (locs : List Loc) (ls : Array Slot), va_P E.1 vwCl ([grC E b so1 gw1, stC E a g] : List va_W).flatten H → va_D A ([grC E b so1 gw1, stC E a g] : List va_W).flatten → va_S A s.heap H locs → lv_has ls 4 [(0, .ref (b 0)), (1, .ref (a 0)), (2, .int (nI (sm (powN g) i))), (3, .int (nI i))] → W p l e rm_X1_powerOfAll s m ([.ref (b 0), .ref (a 0)] : List Value).toArray below meth c H locs 0 0 Q (F0 m 4 ls []) := by
    intro n4
    induction n4 with
    | zero => intro i so1 gw1 hi hn4; exact absurd hn4 (Nat.not_lt_zero _)
    | succ n4 ih4 =>
      intro i so1 gw1 hi hn4 H locs ls hP hD hS hl
      refine lv_iload_n hx hb dX1_powerOfAll_4 rfl (lv_at hl 3 rfl) ?_
      refine lv_aload_n hx hb dX1_powerOfAll_5 rfl (lv_at hl 1 rfl) ?_
      refine va_get (D := E.1) (ci := 8) (v := .int (nI (g 8 0))) (C := RX4) (T := TX4) (N := 16) hx hb hts inX4 hown hK hP 3 rfl rfl 8 (by decide) (hts _ q87) (fun _ h9 => h9) rfl dX1_powerOfAll_6 ?_
      refine nv_icmp_ge (X := ((i : Nat) : Int)) (Y := ((g 8 0 : Nat) : Int)) hx hb (nI_toInt (by omega)) (nI_toInt (by omega)) (tgt := 27) dX1_powerOfAll_9 (by decide) (fun c_1 => ?_) (fun c_1 => ?_)
      · skip
        refine lv_iload_n hx hb dX1_powerOfAll_27 rfl (lv_at hl 2 rfl) ?_
        exact hret _ _ (nI (sm (powN g) i)) (so1, gw1) _ _ hP hD hS rfl (by rw [show i = g 8 0 by omega]) dX1_powerOfAll_28
      · skip
        refine lv_iload_n hx hb dX1_powerOfAll_12 rfl (lv_at hl 2 rfl) ?_
        refine lv_aload_n hx hb dX1_powerOfAll_13 rfl (lv_at hl 0 rfl) ?_
        refine lv_aload_n hx hb dX1_powerOfAll_14 rfl (lv_at hl 1 rfl) ?_
        refine lv_iload_n hx hb dX1_powerOfAll_15 rfl (lv_at hl 3 rfl) ?_
        refine run_i (S := (Nat → Nat) × (Nat → Nat)) (run_V (As := [.ref (a 0), .int (nI i)]) (rest := [.int (nI (sm (powN g) i))]) (bs := [grC E b so1 gw1, stC E a g]) (cb := [grC E b so1 gw1, stC E a g]) hx hb hml hown hts hK hZ hA (c_X1_decisiveByTrying l E _ b so1 gw1 a g _ hI i (by omega)) l_X1_35 rfl ⟨⟨rfl, rfl⟩, Nat.le_of_ble_eq_true rfl, Nat.le_of_ble_eq_true rfl⟩ 5 rfl [0, 1] rfl (by decide) rfl hP hD hS hl.1 rfl (Nat.le_of_ble_eq_true rfl) dX1_powerOfAll_16 ⟨Nat.zero_le _, Nat.zero_le _⟩) hA hP hD hS (isC := [0, 1]) rfl [] [0, 1] (br := []) (bs2 := fun u => [grC E b u.1 u.2, stC E a g]) rfl (by decide) (fun _ => rfl) (by decide) (fun r u H locs hw hP hD hS => ?_)
        obtain ⟨so_2, gw_3⟩ := u
        subst hw
        have hP : va_P E.1 vwCl ([grC E b so_2 gw_3, stC E a g] : List va_W).flatten H := hP
        have hD : va_D A ([grC E b so_2 gw_3, stC E a g] : List va_W).flatten := hD
        refine nv_iadd hx hb dX1_powerOfAll_19 ?_
        refine lv_istore_n (lv' := [(2, .int (nI (sm (powN g) i + (powN g i)))), (0, .ref (b 0)), (1, .ref (a 0)), (3, .int (nI i))]) hx hb dX1_powerOfAll_20 rfl hl (by decide) rfl (fun ls hl => ?_)
        refine lv_iinc (v := nI (i + 1)) (lv' := [(3, .int (nI (i + 1))), (2, .int (nI (sm (powN g) i + (powN g i)))), (0, .ref (b 0)), (1, .ref (a 0))]) hx hb dX1_powerOfAll_21 hl (k := 3) rfl (nI_add i 1) (by decide) rfl (fun ls hl => ?_)
        refine lv_goto (tgt := 4) hx hb dX1_powerOfAll_24 (by decide) ?_
        exact ih4 (i + 1) so_2 gw_3 (by omega) (by omega) _ _ _ hP hD hS (lv_sub hl [2, 3, 1, 0] rfl)
  exact loop4 _ 0 so gw (by omega) (Nat.lt_succ_self _) _ _ _ hP hD hS (lv_sub hl [2, 3, 1, 0] rfl)
