abbrev rm_X5_firstFailingCommand : Room := { frames := 6, cells := 0, slots := 0, locals := 216 }
set_option maxHeartbeats 4000000 in
set_option maxRecDepth 100000 in
theorem c_X5_firstFailingCommand (l : Launch) (E : EE) (sz : Nat) (x a a2 a3 b d k pa y w : Nat → Nat) (g : GG) (B : Nat) (hI : IB B g) (q : Nat → Nat) (F : GG) (co re : Nat → Nat) (hc : q 1 ≤ 7) (hks : ∀ j, j < q 1 → F 1 j < 7) (hB : B + 420 ≤ 300000) : MI l yX5_firstFailingCommand cX5_firstFailingCommand 2 .int rm_X5_firstFailingCommand [.ref (x 0)] E sz [coC E x a a2 a3 b d k pa y w, stC E a g, prC E pa q F, diC E d co re] (fun (r : Int32) (u : (Nat → Nat) × (Nat → Nat)) => r = if (exN g (tOf (F 2) (F 1)) (q 1)) < q 1 then nI (exN g (tOf (F 2) (F 1)) (q 1)) else nI 0 - 1) (fun u => [coC E x a a2 a3 b d k pa y w, stC E a (exG g (tOf (F 2) (F 1)) (exN g (tOf (F 2) (F 1)) (q 1))), prC E pa q F, diC E d u.1 u.2]) 0 0 := by
  refine mi_go (by decide) (Nat.le_of_ble_eq_true rfl) ?_
  intro p e s m below meth c A Q ls hx hb hml hown hts hK hZ hA hsz hP hD hl hret
  have hS : va_S A s.heap s.heap [] := va_S.rf
  have hl : lv_has ls 2 [(0, .ref (x 0))] := hl
  skip
  have hmc := hI.mc
  have hbu := hI.bud
  refine lv_iconst (v := nI 0) hx hb dX5_firstFailingCommand_0 (by decide) ?_
  refine lv_istore_n (lv' := [(1, .int (nI 0)), (0, .ref (x 0))]) hx hb dX5_firstFailingCommand_1 rfl hl (by decide) rfl (fun ls hl => ?_)
  have loop2 : ∀ (n : Nat) (i : Nat) (co1 : Nat → Nat) (re1 : Nat → Nat), (i ≤ q 1) → (IB (B + 60 * i) (exG g (tOf (F 2) (F 1)) i)) → (∀ j, j < i → exF g (tOf (F 2) (F 1)) j = 0) → q 1 - i < n → ∀ (H : Heap) (locs : List Loc) (ls : Array Slot), va_P E.1 vwCl ([coC E x a a2 a3 b d k pa y w, stC E a (exG g (tOf (F 2) (F 1)) i), prC E pa q F, diC E d co1 re1] : List va_W).flatten H → va_D A ([coC E x a a2 a3 b d k pa y w, stC E a (exG g (tOf (F 2) (F 1)) i), prC E pa q F, diC E d co1 re1] : List va_W).flatten → va_S A s.heap H locs → lv_has ls 2 [(0, .ref (x 0)), (1, .int (nI i))] → W p l e rm_X5_firstFailingCommand s m ([.ref (x 0)] : List Value).toArray below meth c H locs 0 0 Q (F0 m 2 ls []) := by
    intro n2
    induction n2 with
    | zero => intro i co1 re1 hi hI2 hno hn2; exact absurd hn2 (Nat.not_lt_zero _)
    | succ n2 ih2 =>
      intro i co1 re1 hi hI2 hno hn2 H locs ls hP hD hS hl
      refine lv_iload_n hx hb dX5_firstFailingCommand_2 rfl (lv_at hl 1 rfl) ?_
      refine lv_aload_n hx hb dX5_firstFailingCommand_3 rfl (lv_at hl 0 rfl) ?_
      refine va_get (D := E.1) (ci := 9) (v := .ref (pa 0)) (C := RX5) (T := TX5) (N := 11) hx hb hts inX5 hown hK hP 0 rfl rfl 6 (by decide) (hts _ q252) (fun _ h9 => h9) rfl dX5_firstFailingCommand_4 ?_
      refine va_get (D := E.1) (ci := 7) (v := .int (nI (q 1))) (C := RX3) (T := TX3) (N := 6) hx hb hts inX3 hown hK hP 10 rfl rfl 4 (by decide) (hts _ q196) (fun _ h9 => h9) rfl dX5_firstFailingCommand_7 ?_
      refine nv_icmp_ge (X := ((i : Nat) : Int)) (Y := ((q 1 : Nat) : Int)) hx hb (nI_toInt (by omega)) (nI_toInt (by omega)) (tgt := 34) dX5_firstFailingCommand_10 (by decide) (fun c_1 => ?_) (fun c_1 => ?_)
      · skip
        have hfn : (exN g (tOf (F 2) (F 1)) (q 1)) = i := (exN_none (fun j hj => hno j (by omega))).trans (by omega)
        refine lv_iconst (v := -1) hx hb dX5_firstFailingCommand_34 (by decide) ?_
        rw [show stC E a (exG g (tOf (F 2) (F 1)) i) = stC E a (exG g (tOf (F 2) (F 1)) (exN g (tOf (F 2) (F 1)) (q 1))) from by rw [hfn]] at hP hD
        exact hret _ _ (-1 : Int32) (co1, re1) _ _ hP hD hS rfl (by rw [if_neg (by rw [hfn]; omega)]; rfl) dX5_firstFailingCommand_35
      · skip
        refine lv_aload_n hx hb dX5_firstFailingCommand_13 rfl (lv_at hl 0 rfl) ?_
        refine lv_iload_n hx hb dX5_firstFailingCommand_14 rfl (lv_at hl 1 rfl) ?_
        refine run_i (S := Unit) (run_V (As := [.int (nI i)]) (rest := []) (bs := [coC E x a a2 a3 b d k pa y w, stC E a (exG g (tOf (F 2) (F 1)) i), prC E pa q F, diC E d co1 re1]) (cb := [coC E x a a2 a3 b d k pa y w, stC E a (exG g (tOf (F 2) (F 1)) i), prC E pa q F]) hx hb hml hown hts hK hZ hA (c_X5_faultOfCommand l E _ x a a2 a3 b d k pa y w (exG g (tOf (F 2) (F 1)) i) _ hI2 q F i (by omega) (hks _ (by omega))) l_X5_347 rfl ⟨⟨rfl, rfl⟩, Nat.le_of_ble_eq_true rfl, Nat.le_of_ble_eq_true rfl⟩ 9 rfl [0, 1, 2] rfl (by decide) rfl hP hD hS hl.1 rfl (Nat.le_of_ble_eq_true rfl) dX5_firstFailingCommand_15 ⟨Nat.zero_le _, Nat.zero_le _⟩) hA hP hD hS (isC := [0, 1, 2]) rfl [3] [1, 2, 3, 0] (br := [diC E d co1 re1]) (bs2 := fun _ => [coC E x a a2 a3 b d k pa y w, stC E a (exG g (tOf (F 2) (F 1)) i), prC E pa q F, diC E d co1 re1]) rfl (by decide) (fun _ => rfl) (by decide) (fun r u H locs hw hP hD hS => ?_)
        subst hw
        refine nv_if_eq (X := ((doF (exG g (tOf (F 2) (F 1)) i) (sgK (F 1 i)) (F 2 (i * 4 + 0)) (F 2 (i * 4 + 1)) (F 2 (i * 4 + 2)) (F 2 (i * 4 + 3)) : Nat) : Int)) hx hb (nI_toInt (Nat.lt_of_le_of_lt do_4 (by decide))) (tgt := 23) dX5_firstFailingCommand_18 (by decide) (fun c_2 => ?_) (fun c_2 => ?_)
        · skip
          have hf0 : doF (exG g (tOf (F 2) (F 1)) i) (sgK (F 1 i)) (F 2 (i * 4 + 0)) (F 2 (i * 4 + 1)) (F 2 (i * 4 + 2)) (F 2 (i * 4 + 3)) = 0 := by omega
          have hex : exF g (tOf (F 2) (F 1)) i = 0 := (exF_at9 i).1.trans hf0
          have hIn : IB (B + 60 * (i + 1)) (exG g (tOf (F 2) (F 1)) (i + 1)) := by rw [(exF_at9 i).2, show B + 60 * (i + 1) = B + 60 * i + 60 by omega]; exact IB_do hI2 hf0 (by omega)
          refine lv_aload_n hx hb dX5_firstFailingCommand_23 rfl (lv_at hl 0 rfl) ?_
          refine lv_iload_n hx hb dX5_firstFailingCommand_24 rfl (lv_at hl 1 rfl) ?_
          refine run_v (S := (Nat → Nat) × (Nat → Nat)) (run_V (As := [.int (nI i)]) (rest := []) (bs := [coC E x a a2 a3 b d k pa y w, stC E a (exG g (tOf (F 2) (F 1)) i), prC E pa q F, diC E d co1 re1]) (cb := [coC E x a a2 a3 b d k pa y w, stC E a (exG g (tOf (F 2) (F 1)) i), prC E pa q F, diC E d co1 re1]) hx hb hml hown hts hK hZ hA (c_X5_carryOut l E _ x a a2 a3 b d k pa y w (exG g (tOf (F 2) (F 1)) i) _ hI2 q F co1 re1 i (by omega) (hks _ (by omega)) hf0 (by omega)) l_X5_350 rfl ⟨⟨rfl, rfl⟩, Nat.le_of_ble_eq_true rfl, Nat.le_of_ble_eq_true rfl⟩ 9 rfl [0, 1, 2, 3] rfl (by decide) rfl hP hD hS hl.1 rfl (Nat.le_of_ble_eq_true rfl) dX5_firstFailingCommand_25 ⟨Nat.zero_le _, Nat.zero_le _⟩) hA hP hD hS (isC := [0, 1, 2, 3]) rfl [] [0, 1, 2, 3] (br := []) (bs2 := fun u => [coC E x a a2 a3 b d k pa y w, stC E a (doG (exG g (tOf (F 2) (F 1)) i) (sgK (F 1 i)) (F 2 (i * 4 + 0)) (F 2 (i * 4 + 1)) (F 2 (i * 4 + 2)) (F 2 (i * 4 + 3))), prC E pa q F, diC E d u.1 u.2]) rfl (by decide) (fun _ => rfl) (by decide) (fun u H locs hw hP hD hS => ?_)
          obtain ⟨co_3, re_4⟩ := u
          have hP : va_P E.1 vwCl ([coC E x a a2 a3 b d k pa y w, stC E a (doG (exG g (tOf (F 2) (F 1)) i) (sgK (F 1 i)) (F 2 (i * 4 + 0)) (F 2 (i * 4 + 1)) (F 2 (i * 4 + 2)) (F 2 (i * 4 + 3))), prC E pa q F, diC E d co_3 re_4] : List va_W).flatten H := hP
          have hD : va_D A ([coC E x a a2 a3 b d k pa y w, stC E a (doG (exG g (tOf (F 2) (F 1)) i) (sgK (F 1 i)) (F 2 (i * 4 + 0)) (F 2 (i * 4 + 1)) (F 2 (i * 4 + 2)) (F 2 (i * 4 + 3))), prC E pa q F, diC E d co_3 re_4] : List va_W).flatten := hD
          rw [show stC E a (doG (exG g (tOf (F 2) (F 1)) i) (sgK (F 1 i)) (F 2 (i * 4 + 0)) (F 2 (i * 4 + 1)) (F 2 (i * 4 + 2)) (F 2 (i * 4 + 3))) = stC E a (exG g (tOf (F 2) (F 1)) (i + 1)) from by rw [(exF_at9 (g := g) (A := F 2) (K := F 1) i).2]] at hP hD
          refine lv_iinc (v := nI (i + 1)) (lv' := [(1, .int (nI (i + 1))), (0, .ref (x 0))]) hx hb dX5_firstFailingCommand_28 hl (k := 1) rfl (nI_add i 1) (by decide) rfl (fun ls hl => ?_)
          refine lv_goto (tgt := 2) hx hb dX5_firstFailingCommand_31 (by decide) ?_
          exact ih2 (i + 1) co_3 re_4 (by omega) hIn (fun j hj => by rcases Nat.lt_or_ge j i with q3 | q3; exact hno j q3; rw [show j = i by omega]; exact hex) (by omega) _ _ _ hP hD hS (lv_sub hl [1, 0] rfl)
        · skip
          have hfn : (exN g (tOf (F 2) (F 1)) (q 1)) = i := exN_at (by rw [(exF_at9 i).1]; omega) hno (by omega)
          refine lv_iload_n hx hb dX5_firstFailingCommand_21 rfl (lv_at hl 1 rfl) ?_
          rw [show stC E a (exG g (tOf (F 2) (F 1)) i) = stC E a (exG g (tOf (F 2) (F 1)) (exN g (tOf (F 2) (F 1)) (q 1))) from by rw [hfn]] at hP hD
          exact hret _ _ (nI i) (co1, re1) _ _ hP hD hS rfl (by rw [if_pos (by rw [hfn]; omega), hfn]) dX5_firstFailingCommand_22
  rw [show stC E a g = stC E a (exG g (tOf (F 2) (F 1)) 0) from rfl] at hP hD
  exact loop2 _ 0 co re (by omega) hI (fun j hj => absurd hj (Nat.not_lt_zero _)) (Nat.lt_succ_self _) _ _ _ hP hD hS (lv_sub hl [1, 0] rfl)
