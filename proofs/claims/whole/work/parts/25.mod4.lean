abbrev rm_X6_remembers : Room := { frames := 0, cells := 0, slots := 0, locals := 0 }
set_option maxHeartbeats 4000000 in
set_option maxRecDepth 100000 in
theorem c_X6_remembers (l : Launch) (E : EE) (sz : Nat) (b : Nat → Nat) (z : Nat → Nat) (g : GG) (gs : Nat → GG) (ar : GG)  : MV l yX6_remembers cX6_remembers 2 rm_X6_remembers [.ref (b 0)] E sz [moC E b z g gs ar] (fun (_ : Unit) => True) (fun _ => [moC E b (upn z 0 0) g (upa gs 0 g) ar]) 0 0 := by
  refine mv_go (by decide) (Nat.le_of_ble_eq_true rfl) ?_
  intro p e s m below meth c A Q ls hx hb hml hown hts hK hZ hA hsz hP hD hl hret hnm
  have hS : va_S A s.heap s.heap [] := va_S.rf
  have hl : lv_has ls 2 [(0, .ref (b 0))] := hl
  skip
  refine lv_aload_n hx hb dX6_remembers_0 rfl (lv_at hl 0 rfl) ?_
  refine lv_iconst (v := nI 0) hx hb dX6_remembers_1 (by decide) ?_
  refine va_put (D := E.1) (ci := 10) (v := .int (nI 0)) (ty := .int) (C := RX6) (T := TX6) (N := 20) hx hb hts inX6 tyX6 tyX6_ok nmX6 hown hK hP hD hS 0 rfl rfl 0 (by decide) (hts _ q1434) (fun _ h9 => h9) rfl (by decide +kernel) rfl rfl (Nat.le_of_ble_eq_true rfl) dX6_remembers_2 (fun H locs hP hD hS => ?_)
  have hP : va_P E.1 vwCl ([moC E b (upn z 0 0) g gs ar] : List va_W).flatten H := hP
  have hD : va_D A ([moC E b (upn z 0 0) g gs ar] : List va_W).flatten := hD
  refine lv_iconst (v := nI 0) hx hb dX6_remembers_5 (by decide) ?_
  refine lv_istore_n (lv' := [(1, .int (nI 0)), (0, .ref (b 0))]) hx hb dX6_remembers_6 rfl hl (by decide) rfl (fun ls hl => ?_)
  have loop7 : ∀ (n : Nat) (i : Nat), (i ≤ 74) → 74 - i < n → ∀ (H : Heap) (locs : List Loc) (ls : Array Slot), va_P E.1 vwCl ([moR E b (upn z 0 0) (upr (moF g gs ar) 1 (fl (flat (gs 0)) (flat g) i))] : List va_W).flatten H → va_D A ([moR E b (upn z 0 0) (upr (moF g gs ar) 1 (fl (flat (gs 0)) (flat g) i))] : List va_W).flatten → va_S A s.heap H locs → lv_has ls 2 [(0, .ref (b 0)), (1, .int (nI i))] → W p l e rm_X6_remembers s m ([.ref (b 0)] : List Value).toArray below meth c H locs 0 0 Q (F0 m 7 ls []) := by
    intro n7
    induction n7 with
    | zero => intro i hi hn7; exact absurd hn7 (Nat.not_lt_zero _)
    | succ n7 ih7 =>
      intro i hi hn7 H locs ls hP hD hS hl
      refine lv_iload_n hx hb dX6_remembers_7 rfl (lv_at hl 1 rfl) ?_
      refine lv_bipush (v := nI 74) hx hb dX6_remembers_8 (by decide) ?_
      refine nv_icmp_ge (X := ((i : Nat) : Int)) (Y := ((74 : Nat) : Int)) hx hb (nI_toInt (by omega)) (nI_toInt (by omega)) (tgt := 31) dX6_remembers_10 (by decide) (fun c_1 => ?_) (fun c_1 => ?_)
      · skip
        have hP : va_P E.1 vwCl ([moC E b (upn z 0 0) g (upa gs 0 g) ar] : List va_W).flatten H := mo_fr (fun j hj => fl_lo (by omega)) hP
        have hD : va_D A ([moC E b (upn z 0 0) g (upa gs 0 g) ar] : List va_W).flatten := mo_D hD
        exact hret _ _ () _ _ hP hD hS trivial dX6_remembers_31
      · skip
        refine lv_aload_n hx hb dX6_remembers_13 rfl (lv_at hl 0 rfl) ?_
        refine va_get (D := E.1) (ci := 10) (v := .ref (b 2)) (C := RX6) (T := TX6) (N := 20) hx hb hts inX6 hown hK hP 0 rfl rfl 2 (by decide) (hts _ q1436) (fun _ h9 => h9) rfl dX6_remembers_14 ?_
        refine lv_iload_n hx hb dX6_remembers_17 rfl (lv_at hl 1 rfl) ?_
        refine lv_aload_n hx hb dX6_remembers_18 rfl (lv_at hl 0 rfl) ?_
        refine va_get (D := E.1) (ci := 10) (v := .ref (b 1)) (C := RX6) (T := TX6) (N := 20) hx hb hts inX6 hown hK hP 0 rfl rfl 1 (by decide) (hts _ q1435) (fun _ h9 => h9) rfl dX6_remembers_19 ?_
        refine lv_iload_n hx hb dX6_remembers_22 rfl (lv_at hl 1 rfl) ?_
        refine nv_iald (f := (flat g)) (i := i) (n := 74) hx hb hK hP 1 0 rfl rfl (by omega) (by decide) dX6_remembers_23 ?_
        refine nv_iast (f := (fl (flat (gs 0)) (flat g) i)) (i := i) (v := (flat g) i) (n := 74) hx hb hK hP hD hS 2 0 rfl rfl (by omega) (by decide) dX6_remembers_24 (fun H locs hP hD hS => ?_)
        have hP : va_P E.1 vwCl ([moR E b (upn z 0 0) (upr (moF g gs ar) 1 (upn (fl (flat (gs 0)) (flat g) i) i ((flat g) i)))] : List va_W).flatten H := hP
        have hD : va_D A ([moR E b (upn z 0 0) (upr (moF g gs ar) 1 (upn (fl (flat (gs 0)) (flat g) i) i ((flat g) i)))] : List va_W).flatten := hD
        have hmE : moR E b (upn z 0 0) (upr (moF g gs ar) 1 (upn (fl (flat (gs 0)) (flat g) i) i ((flat g) i))) = moR E b (upn z 0 0) (upr (moF g gs ar) 1 (fl (flat (gs 0)) (flat g) (i + 1))) := by rw [fl_step rfl]
        rw [hmE] at hP hD; clear hmE
        refine lv_iinc (v := nI (i + 1)) (lv' := [(1, .int (nI (i + 1))), (0, .ref (b 0))]) hx hb dX6_remembers_25 hl (k := 1) rfl (nI_add i 1) (by decide) rfl (fun ls hl => ?_)
        refine lv_goto (tgt := 7) hx hb dX6_remembers_28 (by decide) ?_
        exact ih7 (i + 1) (by omega) (by omega) _ _ _ hP hD hS (lv_sub hl [1, 0] rfl)
  have hmE : moC E b (upn z 0 0) g gs ar = moR E b (upn z 0 0) (upr (moF g gs ar) 1 (fl (flat (gs 0)) (flat g) 0)) := mo_pre 1 (f' := (flat g))
  rw [hmE] at hP hD; clear hmE
  exact loop7 _ 0 (by omega) (Nat.lt_succ_self _) _ _ _ hP hD hS (lv_sub hl [1, 0] rfl)
abbrev rm_X6_save : Room := { frames := 0, cells := 0, slots := 0, locals := 0 }
set_option maxHeartbeats 4000000 in
set_option maxRecDepth 100000 in
theorem c_X6_save (l : Launch) (E : EE) (sz : Nat) (b : Nat → Nat) (z : Nat → Nat) (g : GG) (gs : Nat → GG) (ar : GG)  : MV l yX6_save cX6_save 2 rm_X6_save [.ref (b 0)] E sz [moC E b z g gs ar] (fun (_ : Unit) => True) (fun _ => [moC E b (upn (upn z 0 0) 2 1) g (upa gs 1 g) ar]) 0 0 := by
  refine mv_go (by decide) (Nat.le_of_ble_eq_true rfl) ?_
  intro p e s m below meth c A Q ls hx hb hml hown hts hK hZ hA hsz hP hD hl hret hnm
  have hS : va_S A s.heap s.heap [] := va_S.rf
  have hl : lv_has ls 2 [(0, .ref (b 0))] := hl
  skip
  refine lv_aload_n hx hb dX6_save_0 rfl (lv_at hl 0 rfl) ?_
  refine lv_iconst (v := nI 0) hx hb dX6_save_1 (by decide) ?_
  refine va_put (D := E.1) (ci := 10) (v := .int (nI 0)) (ty := .int) (C := RX6) (T := TX6) (N := 20) hx hb hts inX6 tyX6 tyX6_ok nmX6 hown hK hP hD hS 0 rfl rfl 0 (by decide) (hts _ q1434) (fun _ h9 => h9) rfl (by decide +kernel) rfl rfl (Nat.le_of_ble_eq_true rfl) dX6_save_2 (fun H locs hP hD hS => ?_)
  have hP : va_P E.1 vwCl ([moC E b (upn z 0 0) g gs ar] : List va_W).flatten H := hP
  have hD : va_D A ([moC E b (upn z 0 0) g gs ar] : List va_W).flatten := hD
  refine lv_iconst (v := nI 0) hx hb dX6_save_5 (by decide) ?_
  refine lv_istore_n (lv' := [(1, .int (nI 0)), (0, .ref (b 0))]) hx hb dX6_save_6 rfl hl (by decide) rfl (fun ls hl => ?_)
  have loop7 : ∀ (n : Nat) (i : Nat), (i ≤ 74) → 74 - i < n → ∀ (H : Heap) (locs : List Loc) (ls : Array Slot), va_P E.1 vwCl ([moR E b (upn z 0 0) (upr (moF g gs ar) 2 (fl (flat (gs 1)) (flat g) i))] : List va_W).flatten H → va_D A ([moR E b (upn z 0 0) (upr (moF g gs ar) 2 (fl (flat (gs 1)) (flat g) i))] : List va_W).flatten → va_S A s.heap H locs → lv_has ls 2 [(0, .ref (b 0)), (1, .int (nI i))] → W p l e rm_X6_save s m ([.ref (b 0)] : List Value).toArray below meth c H locs 0 0 Q (F0 m 7 ls []) := by
    intro n7
    induction n7 with
    | zero => intro i hi hn7; exact absurd hn7 (Nat.not_lt_zero _)
    | succ n7 ih7 =>
      intro i hi hn7 H locs ls hP hD hS hl
      refine lv_iload_n hx hb dX6_save_7 rfl (lv_at hl 1 rfl) ?_
      refine lv_bipush (v := nI 74) hx hb dX6_save_8 (by decide) ?_
      refine nv_icmp_ge (X := ((i : Nat) : Int)) (Y := ((74 : Nat) : Int)) hx hb (nI_toInt (by omega)) (nI_toInt (by omega)) (tgt := 31) dX6_save_10 (by decide) (fun c_1 => ?_) (fun c_1 => ?_)
      · skip
        have hP : va_P E.1 vwCl ([moC E b (upn z 0 0) g (upa gs 1 g) ar] : List va_W).flatten H := mo_sv (fun j hj => fl_lo (by omega)) hP
        have hD : va_D A ([moC E b (upn z 0 0) g (upa gs 1 g) ar] : List va_W).flatten := mo_D hD
        refine lv_aload_n hx hb dX6_save_31 rfl (lv_at hl 0 rfl) ?_
        refine lv_iconst (v := nI 1) hx hb dX6_save_32 (by decide) ?_
        refine va_put (D := E.1) (ci := 10) (v := .int (nI 1)) (ty := .boolean) (C := RX6) (T := TX6) (N := 20) hx hb hts inX6 tyX6 tyX6_ok nmX6 hown hK hP hD hS 0 rfl rfl 7 (by decide) (hts _ q1441) (fun _ h9 => h9) rfl (by decide +kernel) (by decide) rfl (Nat.le_of_ble_eq_true rfl) dX6_save_33 (fun H locs hP hD hS => ?_)
        have hP : va_P E.1 vwCl ([moC E b (upn (upn z 0 0) 2 1) g (upa gs 1 g) ar] : List va_W).flatten H := hP
        have hD : va_D A ([moC E b (upn (upn z 0 0) 2 1) g (upa gs 1 g) ar] : List va_W).flatten := hD
        exact hret _ _ () _ _ hP hD hS trivial dX6_save_36
      · skip
        refine lv_aload_n hx hb dX6_save_13 rfl (lv_at hl 0 rfl) ?_
        refine va_get (D := E.1) (ci := 10) (v := .ref (b 3)) (C := RX6) (T := TX6) (N := 20) hx hb hts inX6 hown hK hP 0 rfl rfl 3 (by decide) (hts _ q1437) (fun _ h9 => h9) rfl dX6_save_14 ?_
        refine lv_iload_n hx hb dX6_save_17 rfl (lv_at hl 1 rfl) ?_
        refine lv_aload_n hx hb dX6_save_18 rfl (lv_at hl 0 rfl) ?_
        refine va_get (D := E.1) (ci := 10) (v := .ref (b 1)) (C := RX6) (T := TX6) (N := 20) hx hb hts inX6 hown hK hP 0 rfl rfl 1 (by decide) (hts _ q1435) (fun _ h9 => h9) rfl dX6_save_19 ?_
        refine lv_iload_n hx hb dX6_save_22 rfl (lv_at hl 1 rfl) ?_
        refine nv_iald (f := (flat g)) (i := i) (n := 74) hx hb hK hP 1 0 rfl rfl (by omega) (by decide) dX6_save_23 ?_
        refine nv_iast (f := (fl (flat (gs 1)) (flat g) i)) (i := i) (v := (flat g) i) (n := 74) hx hb hK hP hD hS 3 0 rfl rfl (by omega) (by decide) dX6_save_24 (fun H locs hP hD hS => ?_)
        have hP : va_P E.1 vwCl ([moR E b (upn z 0 0) (upr (moF g gs ar) 2 (upn (fl (flat (gs 1)) (flat g) i) i ((flat g) i)))] : List va_W).flatten H := hP
        have hD : va_D A ([moR E b (upn z 0 0) (upr (moF g gs ar) 2 (upn (fl (flat (gs 1)) (flat g) i) i ((flat g) i)))] : List va_W).flatten := hD
        have hmE : moR E b (upn z 0 0) (upr (moF g gs ar) 2 (upn (fl (flat (gs 1)) (flat g) i) i ((flat g) i))) = moR E b (upn z 0 0) (upr (moF g gs ar) 2 (fl (flat (gs 1)) (flat g) (i + 1))) := by rw [fl_step rfl]
        rw [hmE] at hP hD; clear hmE
        refine lv_iinc (v := nI (i + 1)) (lv' := [(1, .int (nI (i + 1))), (0, .ref (b 0))]) hx hb dX6_save_25 hl (k := 1) rfl (nI_add i 1) (by decide) rfl (fun ls hl => ?_)
        refine lv_goto (tgt := 7) hx hb dX6_save_28 (by decide) ?_
        exact ih7 (i + 1) (by omega) (by omega) _ _ _ hP hD hS (lv_sub hl [1, 0] rfl)
  have hmE : moC E b (upn z 0 0) g gs ar = moR E b (upn z 0 0) (upr (moF g gs ar) 2 (fl (flat (gs 1)) (flat g) 0)) := mo_pre 2 (f' := (flat g))
  rw [hmE] at hP hD; clear hmE
  exact loop7 _ 0 (by omega) (Nat.lt_succ_self _) _ _ _ hP hD hS (lv_sub hl [1, 0] rfl)
abbrev rm_X6_restore : Room := { frames := 0, cells := 0, slots := 0, locals := 0 }
set_option maxHeartbeats 4000000 in
set_option maxRecDepth 100000 in
theorem c_X6_restore (l : Launch) (E : EE) (sz : Nat) (b : Nat → Nat) (z : Nat → Nat) (g : GG) (gs : Nat → GG) (ar : GG) (h2 : z 2 ≤ 1) : MV l yX6_restore cX6_restore 2 rm_X6_restore [.ref (b 0)] E sz [moC E b z g gs ar] (fun (_ : Unit) => True) (fun _ => [moC E b (if z 2 = 0 then upn z 0 1 else upn (upn z 0 0) 1 0) (if z 2 = 0 then g else gs 1) gs ar]) 0 0 := by
  refine mv_go (by decide) (Nat.le_of_ble_eq_true rfl) ?_
  intro p e s m below meth c A Q ls hx hb hml hown hts hK hZ hA hsz hP hD hl hret hnm
  have hS : va_S A s.heap s.heap [] := va_S.rf
  have hl : lv_has ls 2 [(0, .ref (b 0))] := hl
  skip
  refine lv_aload_n hx hb dX6_restore_0 rfl (lv_at hl 0 rfl) ?_
  refine lv_aload_n hx hb dX6_restore_1 rfl (lv_at hl 0 rfl) ?_
  refine va_get (D := E.1) (ci := 10) (v := .int (nI (z 2))) (C := RX6) (T := TX6) (N := 20) hx hb hts inX6 hown hK hP 0 rfl rfl 7 (by decide) (hts _ q1441) (fun _ h9 => h9) rfl dX6_restore_2 ?_
  refine nv_if_eq (X := ((z 2 : Nat) : Int)) hx hb (nI_toInt (by omega)) (tgt := 12) dX6_restore_5 (by decide) (fun c_1 => ?_) (fun c_1 => ?_)
  · skip
    refine lv_iconst (v := nI 1) hx hb dX6_restore_12 (by decide) ?_
    refine va_put (D := E.1) (ci := 10) (v := .int (nI 1)) (ty := .int) (C := RX6) (T := TX6) (N := 20) hx hb hts inX6 tyX6 tyX6_ok nmX6 hown hK hP hD hS 0 rfl rfl 0 (by decide) (hts _ q1434) (fun _ h9 => h9) rfl (by decide +kernel) rfl rfl (Nat.le_of_ble_eq_true rfl) dX6_restore_13 (fun H locs hP hD hS => ?_)
    have hP : va_P E.1 vwCl ([moC E b (upn z 0 1) g gs ar] : List va_W).flatten H := hP
    have hD : va_D A ([moC E b (upn z 0 1) g gs ar] : List va_W).flatten := hD
    refine lv_aload_n hx hb dX6_restore_16 rfl (lv_at hl 0 rfl) ?_
    refine va_get (D := E.1) (ci := 10) (v := .int (nI 1)) (C := RX6) (T := TX6) (N := 20) hx hb hts inX6 hown hK hP 0 rfl rfl 0 (by decide) (hts _ q1434) (fun _ h9 => h9) rfl dX6_restore_17 ?_
    refine nv_if_le (X := ((1 : Nat) : Int)) hx hb (nI_toInt (by omega)) (tgt := 24) dX6_restore_20 (by decide) (fun c_2 => ?_) (fun c_2 => ?_)
    · exact absurd c_2 (by omega)
    · skip
      have hmE : moC E b (upn z 0 1) g gs ar = moC E b (if z 2 = 0 then upn z 0 1 else upn (upn z 0 0) 1 0) (if z 2 = 0 then g else gs 1) gs ar := by rw [if_pos (by omega), if_pos (by omega)]
      rw [hmE] at hP hD; clear hmE
      exact hret _ _ () _ _ hP hD hS trivial dX6_restore_23
  · skip
    refine lv_iconst (v := nI 0) hx hb dX6_restore_8 (by decide) ?_
    refine lv_goto (tgt := 13) hx hb dX6_restore_9 (by decide) ?_
    refine va_put (D := E.1) (ci := 10) (v := .int (nI 0)) (ty := .int) (C := RX6) (T := TX6) (N := 20) hx hb hts inX6 tyX6 tyX6_ok nmX6 hown hK hP hD hS 0 rfl rfl 0 (by decide) (hts _ q1434) (fun _ h9 => h9) rfl (by decide +kernel) rfl rfl (Nat.le_of_ble_eq_true rfl) dX6_restore_13 (fun H locs hP hD hS => ?_)
    have hP : va_P E.1 vwCl ([moC E b (upn z 0 0) g gs ar] : List va_W).flatten H := hP
    have hD : va_D A ([moC E b (upn z 0 0) g gs ar] : List va_W).flatten := hD
    refine lv_aload_n hx hb dX6_restore_16 rfl (lv_at hl 0 rfl) ?_
    refine va_get (D := E.1) (ci := 10) (v := .int (nI 0)) (C := RX6) (T := TX6) (N := 20) hx hb hts inX6 hown hK hP 0 rfl rfl 0 (by decide) (hts _ q1434) (fun _ h9 => h9) rfl dX6_restore_17 ?_
    refine nv_if_le (X := ((0 : Nat) : Int)) hx hb (nI_toInt (by omega)) (tgt := 24) dX6_restore_20 (by decide) (fun c_3 => ?_) (fun c_3 => ?_)
    · skip
      refine lv_iconst (v := nI 0) hx hb dX6_restore_24 (by decide) ?_
      refine lv_istore_n (lv' := [(1, .int (nI 0)), (0, .ref (b 0))]) hx hb dX6_restore_25 rfl hl (by decide) rfl (fun ls hl => ?_)
      have loop26 : ∀ (n : Nat) (i : Nat), (i ≤ 74) → 74 - i < n → ∀ (H : Heap) (locs : List Loc) (ls : Array Slot), va_P E.1 vwCl ([moR E b (upn z 0 0) (upr (moF g gs ar) 0 (fl (flat g) (flat (gs 1)) i))] : List va_W).flatten H → va_D A ([moR E b (upn z 0 0) (upr (moF g gs ar) 0 (fl (flat g) (flat (gs 1)) i))] : List va_W).flatten → va_S A s.heap H locs → lv_has ls 2 [(0, .ref (b 0)), (1, .int (nI i))] → W p l e rm_X6_restore s m ([.ref (b 0)] : List Value).toArray below meth c H locs 0 0 Q (F0 m 26 ls []) := by
        intro n26
        induction n26 with
        | zero => intro i hi hn26; exact absurd hn26 (Nat.not_lt_zero _)
        | succ n26 ih26 =>
          intro i hi hn26 H locs ls hP hD hS hl
          refine lv_iload_n hx hb dX6_restore_26 rfl (lv_at hl 1 rfl) ?_
          refine lv_bipush (v := nI 74) hx hb dX6_restore_27 (by decide) ?_
          refine nv_icmp_ge (X := ((i : Nat) : Int)) (Y := ((74 : Nat) : Int)) hx hb (nI_toInt (by omega)) (nI_toInt (by omega)) (tgt := 50) dX6_restore_29 (by decide) (fun c_4 => ?_) (fun c_4 => ?_)
          · skip
            have hP : va_P E.1 vwCl ([moC E b (upn z 0 0) (gs 1) gs ar] : List va_W).flatten H := mo_s (fun j hj => fl_lo (by omega)) hP
            have hD : va_D A ([moC E b (upn z 0 0) (gs 1) gs ar] : List va_W).flatten := mo_D hD
            refine lv_aload_n hx hb dX6_restore_50 rfl (lv_at hl 0 rfl) ?_
            refine lv_iconst (v := nI 0) hx hb dX6_restore_51 (by decide) ?_
            refine va_put (D := E.1) (ci := 10) (v := .int (nI 0)) (ty := .int) (C := RX6) (T := TX6) (N := 20) hx hb hts inX6 tyX6 tyX6_ok nmX6 hown hK hP hD hS 0 rfl rfl 6 (by decide) (hts _ q1440) (fun _ h9 => h9) rfl (by decide +kernel) rfl rfl (Nat.le_of_ble_eq_true rfl) dX6_restore_52 (fun H locs hP hD hS => ?_)
            have hP : va_P E.1 vwCl ([moC E b (upn (upn z 0 0) 1 0) (gs 1) gs ar] : List va_W).flatten H := hP
            have hD : va_D A ([moC E b (upn (upn z 0 0) 1 0) (gs 1) gs ar] : List va_W).flatten := hD
            have hmE : moC E b (upn (upn z 0 0) 1 0) (gs 1) gs ar = moC E b (if z 2 = 0 then upn z 0 1 else upn (upn z 0 0) 1 0) (if z 2 = 0 then g else gs 1) gs ar := by rw [if_neg (by omega), if_neg (by omega)]
            rw [hmE] at hP hD; clear hmE
            exact hret _ _ () _ _ hP hD hS trivial dX6_restore_55
          · skip
            refine lv_aload_n hx hb dX6_restore_32 rfl (lv_at hl 0 rfl) ?_
            refine va_get (D := E.1) (ci := 10) (v := .ref (b 1)) (C := RX6) (T := TX6) (N := 20) hx hb hts inX6 hown hK hP 0 rfl rfl 1 (by decide) (hts _ q1435) (fun _ h9 => h9) rfl dX6_restore_33 ?_
            refine lv_iload_n hx hb dX6_restore_36 rfl (lv_at hl 1 rfl) ?_
            refine lv_aload_n hx hb dX6_restore_37 rfl (lv_at hl 0 rfl) ?_
            refine va_get (D := E.1) (ci := 10) (v := .ref (b 3)) (C := RX6) (T := TX6) (N := 20) hx hb hts inX6 hown hK hP 0 rfl rfl 3 (by decide) (hts _ q1437) (fun _ h9 => h9) rfl dX6_restore_38 ?_
            refine lv_iload_n hx hb dX6_restore_41 rfl (lv_at hl 1 rfl) ?_
            refine nv_iald (f := (flat (gs 1))) (i := i) (n := 74) hx hb hK hP 3 0 rfl rfl (by omega) (by decide) dX6_restore_42 ?_
            refine nv_iast (f := (fl (flat g) (flat (gs 1)) i)) (i := i) (v := (flat (gs 1)) i) (n := 74) hx hb hK hP hD hS 1 0 rfl rfl (by omega) (by decide) dX6_restore_43 (fun H locs hP hD hS => ?_)
            have hP : va_P E.1 vwCl ([moR E b (upn z 0 0) (upr (moF g gs ar) 0 (upn (fl (flat g) (flat (gs 1)) i) i ((flat (gs 1)) i)))] : List va_W).flatten H := hP
            have hD : va_D A ([moR E b (upn z 0 0) (upr (moF g gs ar) 0 (upn (fl (flat g) (flat (gs 1)) i) i ((flat (gs 1)) i)))] : List va_W).flatten := hD
            have hmE : moR E b (upn z 0 0) (upr (moF g gs ar) 0 (upn (fl (flat g) (flat (gs 1)) i) i ((flat (gs 1)) i))) = moR E b (upn z 0 0) (upr (moF g gs ar) 0 (fl (flat g) (flat (gs 1)) (i + 1))) := by rw [fl_step rfl]
            rw [hmE] at hP hD; clear hmE
            refine lv_iinc (v := nI (i + 1)) (lv' := [(1, .int (nI (i + 1))), (0, .ref (b 0))]) hx hb dX6_restore_44 hl (k := 1) rfl (nI_add i 1) (by decide) rfl (fun ls hl => ?_)
            refine lv_goto (tgt := 26) hx hb dX6_restore_47 (by decide) ?_
            exact ih26 (i + 1) (by omega) (by omega) _ _ _ hP hD hS (lv_sub hl [1, 0] rfl)
      have hmE : moC E b (upn z 0 0) g gs ar = moR E b (upn z 0 0) (upr (moF g gs ar) 0 (fl (flat g) (flat (gs 1)) 0)) := mo_pre 0 (f' := (flat (gs 1)))
      rw [hmE] at hP hD; clear hmE
      exact loop26 _ 0 (by omega) (Nat.lt_succ_self _) _ _ _ hP hD hS (lv_sub hl [1, 0] rfl)
    · exact absurd c_3 (by omega)
abbrev rm_X6_undo : Room := { frames := 1, cells := 0, slots := 0, locals := 21 }
set_option maxHeartbeats 4000000 in
set_option maxRecDepth 100000 in
theorem c_X6_undo (l : Launch) (E : EE) (sz : Nat) (b : Nat → Nat) (z : Nat → Nat) (g : GG) (gs : Nat → GG) (ar : GG) (hk : z 1 ≤ 8) : MI l yX6_undo cX6_undo 2 .int rm_X6_undo [.ref (b 0)] E sz [moC E b z g gs ar] (fun (r : Int32) (_ : Unit) => r = nI (z 1 - 1)) (fun _ => [moC E b (if z 1 = 0 then upn z 0 1 else upn (upn z 0 0) 1 (z 1 - 1)) (if z 1 = 0 then g else gs (3 + (z 1 - 1))) gs ar]) 0 0 := by
  refine mi_go (by decide) (Nat.le_of_ble_eq_true rfl) ?_
  intro p e s m below meth c A Q ls hx hb hml hown hts hK hZ hA hsz hP hD hl hret
  have hS : va_S A s.heap s.heap [] := va_S.rf
  have hl : lv_has ls 2 [(0, .ref (b 0))] := hl
  skip
  refine lv_aload_n hx hb dX6_undo_0 rfl (lv_at hl 0 rfl) ?_
  refine lv_iconst (v := nI 0) hx hb dX6_undo_1 (by decide) ?_
  refine va_put (D := E.1) (ci := 10) (v := .int (nI 0)) (ty := .int) (C := RX6) (T := TX6) (N := 20) hx hb hts inX6 tyX6 tyX6_ok nmX6 hown hK hP hD hS 0 rfl rfl 0 (by decide) (hts _ q1434) (fun _ h9 => h9) rfl (by decide +kernel) rfl rfl (Nat.le_of_ble_eq_true rfl) dX6_undo_2 (fun H locs hP hD hS => ?_)
  have hP : va_P E.1 vwCl ([moC E b (upn z 0 0) g gs ar] : List va_W).flatten H := hP
  have hD : va_D A ([moC E b (upn z 0 0) g gs ar] : List va_W).flatten := hD
  refine lv_aload_n hx hb dX6_undo_5 rfl (lv_at hl 0 rfl) ?_
  refine va_get (D := E.1) (ci := 10) (v := .int (nI (z 1))) (C := RX6) (T := TX6) (N := 20) hx hb hts inX6 hown hK hP 0 rfl rfl 6 (by decide) (hts _ q1440) (fun _ h9 => h9) rfl dX6_undo_6 ?_
  refine nv_if_ne (X := ((z 1 : Nat) : Int)) hx hb (nI_toInt (by omega)) (tgt := 18) dX6_undo_9 (by decide) (fun c_1 => ?_) (fun c_1 => ?_)
  · skip
    refine lv_aload_n hx hb dX6_undo_18 rfl (lv_at hl 0 rfl) ?_
    refine lv_dup hx hb dX6_undo_19 rfl ?_
    refine va_get (D := E.1) (ci := 10) (v := .int (nI (z 1))) (C := RX6) (T := TX6) (N := 20) hx hb hts inX6 hown hK hP 0 rfl rfl 6 (by decide) (hts _ q1440) (fun _ h9 => h9) rfl dX6_undo_20 ?_
    refine lv_iconst (v := nI 1) hx hb dX6_undo_23 (by decide) ?_
    refine nv_isub hx hb (by omega) dX6_undo_24 ?_
    refine va_put (D := E.1) (ci := 10) (v := .int (nI ((z 1) - 1))) (ty := .int) (C := RX6) (T := TX6) (N := 20) hx hb hts inX6 tyX6 tyX6_ok nmX6 hown hK hP hD hS 0 rfl rfl 6 (by decide) (hts _ q1440) (fun _ h9 => h9) rfl (by decide +kernel) rfl rfl (Nat.le_of_ble_eq_true rfl) dX6_undo_25 (fun H locs hP hD hS => ?_)
    have hP : va_P E.1 vwCl ([moC E b (upn (upn z 0 0) 1 ((z 1) - 1)) g gs ar] : List va_W).flatten H := hP
    have hD : va_D A ([moC E b (upn (upn z 0 0) 1 ((z 1) - 1)) g gs ar] : List va_W).flatten := hD
    refine lv_iconst (v := nI 0) hx hb dX6_undo_28 (by decide) ?_
    refine lv_istore_n (lv' := [(1, .int (nI 0)), (0, .ref (b 0))]) hx hb dX6_undo_29 rfl hl (by decide) rfl (fun ls hl => ?_)
    have loop30 : ∀ (n : Nat) (i : Nat), (i ≤ 74) → 74 - i < n → ∀ (H : Heap) (locs : List Loc) (ls : Array Slot), va_P E.1 vwCl ([moR E b (upn (upn z 0 0) 1 ((z 1) - 1)) (upr (moF g gs ar) 0 (fl (flat g) (flat (gs (3 + (z 1 - 1)))) i))] : List va_W).flatten H → va_D A ([moR E b (upn (upn z 0 0) 1 ((z 1) - 1)) (upr (moF g gs ar) 0 (fl (flat g) (flat (gs (3 + (z 1 - 1)))) i))] : List va_W).flatten → va_S A s.heap H locs → lv_has ls 2 [(0, .ref (b 0)), (1, .int (nI i))] → W p l e rm_X6_undo s m ([.ref (b 0)] : List Value).toArray below meth c H locs 0 0 Q (F0 m 30 ls []) := by
      intro n30
      induction n30 with
      | zero => intro i hi hn30; exact absurd hn30 (Nat.not_lt_zero _)
      | succ n30 ih30 =>
        intro i hi hn30 H locs ls hP hD hS hl
        refine lv_iload_n hx hb dX6_undo_30 rfl (lv_at hl 1 rfl) ?_
        refine lv_bipush (v := nI 74) hx hb dX6_undo_31 (by decide) ?_
        refine nv_icmp_ge (X := ((i : Nat) : Int)) (Y := ((74 : Nat) : Int)) hx hb (nI_toInt (by omega)) (nI_toInt (by omega)) (tgt := 62) dX6_undo_33 (by decide) (fun c_2 => ?_) (fun c_2 => ?_)
        · skip
          have hP : va_P E.1 vwCl ([moC E b (upn (upn z 0 0) 1 ((z 1) - 1)) (gs (3 + (z 1 - 1))) gs ar] : List va_W).flatten H := mo_s (fun j hj => fl_lo (by omega)) hP
          have hD : va_D A ([moC E b (upn (upn z 0 0) 1 ((z 1) - 1)) (gs (3 + (z 1 - 1))) gs ar] : List va_W).flatten := mo_D hD
          refine lv_aload_n hx hb dX6_undo_62 rfl (lv_at hl 0 rfl) ?_
          refine va_get (D := E.1) (ci := 10) (v := .int (nI ((z 1) - 1))) (C := RX6) (T := TX6) (N := 20) hx hb hts inX6 hown hK hP 0 rfl rfl 6 (by decide) (hts _ q1440) (fun _ h9 => h9) rfl dX6_undo_63 ?_
          have hmE : moC E b (upn (upn z 0 0) 1 ((z 1) - 1)) (gs (3 + (z 1 - 1))) gs ar = moC E b (if z 1 = 0 then upn z 0 1 else upn (upn z 0 0) 1 (z 1 - 1)) (if z 1 = 0 then g else gs (3 + (z 1 - 1))) gs ar := by rw [if_neg (by omega), if_neg (by omega)]
          rw [hmE] at hP hD; clear hmE
          exact hret _ _ (nI ((z 1) - 1)) () _ _ hP hD hS rfl rfl dX6_undo_66
        · skip
          refine lv_aload_n hx hb dX6_undo_36 rfl (lv_at hl 0 rfl) ?_
          refine va_get (D := E.1) (ci := 10) (v := .ref (b 1)) (C := RX6) (T := TX6) (N := 20) hx hb hts inX6 hown hK hP 0 rfl rfl 1 (by decide) (hts _ q1435) (fun _ h9 => h9) rfl dX6_undo_37 ?_
          refine lv_iload_n hx hb dX6_undo_40 rfl (lv_at hl 1 rfl) ?_
          refine lv_aload_n hx hb dX6_undo_41 rfl (lv_at hl 0 rfl) ?_
          refine va_get (D := E.1) (ci := 10) (v := .ref (b 4)) (C := RX6) (T := TX6) (N := 20) hx hb hts inX6 hown hK hP 0 rfl rfl 4 (by decide) (hts _ q1438) (fun _ h9 => h9) rfl dX6_undo_42 ?_
          refine lv_bipush (v := nI 74) hx hb dX6_undo_45 (by decide) ?_
          refine lv_aload_n hx hb dX6_undo_47 rfl (lv_at hl 0 rfl) ?_
          refine va_get (D := E.1) (ci := 10) (v := .int (nI ((z 1) - 1))) (C := RX6) (T := TX6) (N := 20) hx hb hts inX6 hown hK hP 0 rfl rfl 6 (by decide) (hts _ q1440) (fun _ h9 => h9) rfl dX6_undo_48 ?_
          refine nv_imul hx hb dX6_undo_51 ?_
          refine lv_iload_n hx hb dX6_undo_52 rfl (lv_at hl 1 rfl) ?_
          refine nv_iadd hx hb dX6_undo_53 ?_
          refine nv_iald (f := (hfl gs)) (i := (74 * ((z 1) - 1)) + i) (n := 592) hx hb hK hP 4 0 rfl rfl (by omega) (by decide) dX6_undo_54 ?_
          refine tp_i (congrArg nI (hfl_at (by omega))) ?_
          refine nv_iast (f := (fl (flat g) (flat (gs (3 + (z 1 - 1)))) i)) (i := i) (v := (flat (gs (3 + (z 1 - 1)))) i) (n := 74) hx hb hK hP hD hS 1 0 rfl rfl (by omega) (by decide) dX6_undo_55 (fun H locs hP hD hS => ?_)
          have hP : va_P E.1 vwCl ([moR E b (upn (upn z 0 0) 1 ((z 1) - 1)) (upr (moF g gs ar) 0 (upn (fl (flat g) (flat (gs (3 + (z 1 - 1)))) i) i ((flat (gs (3 + (z 1 - 1)))) i)))] : List va_W).flatten H := hP
          have hD : va_D A ([moR E b (upn (upn z 0 0) 1 ((z 1) - 1)) (upr (moF g gs ar) 0 (upn (fl (flat g) (flat (gs (3 + (z 1 - 1)))) i) i ((flat (gs (3 + (z 1 - 1)))) i)))] : List va_W).flatten := hD
          have hmE : moR E b (upn (upn z 0 0) 1 ((z 1) - 1)) (upr (moF g gs ar) 0 (upn (fl (flat g) (flat (gs (3 + (z 1 - 1)))) i) i ((flat (gs (3 + (z 1 - 1)))) i))) = moR E b (upn (upn z 0 0) 1 ((z 1) - 1)) (upr (moF g gs ar) 0 (fl (flat g) (flat (gs (3 + (z 1 - 1)))) (i + 1))) := by rw [fl_step rfl]
          rw [hmE] at hP hD; clear hmE
          refine lv_iinc (v := nI (i + 1)) (lv' := [(1, .int (nI (i + 1))), (0, .ref (b 0))]) hx hb dX6_undo_56 hl (k := 1) rfl (nI_add i 1) (by decide) rfl (fun ls hl => ?_)
          refine lv_goto (tgt := 30) hx hb dX6_undo_59 (by decide) ?_
          exact ih30 (i + 1) (by omega) (by omega) _ _ _ hP hD hS (lv_sub hl [1, 0] rfl)
    have hmE : moC E b (upn (upn z 0 0) 1 ((z 1) - 1)) g gs ar = moR E b (upn (upn z 0 0) 1 ((z 1) - 1)) (upr (moF g gs ar) 0 (fl (flat g) (flat (gs (3 + (z 1 - 1)))) 0)) := mo_pre 0 (f' := (flat (gs (3 + (z 1 - 1)))))
    rw [hmE] at hP hD; clear hmE
    exact loop30 _ 0 (by omega) (Nat.lt_succ_self _) _ _ _ hP hD hS (lv_sub hl [1, 0] rfl)
  · skip
    refine lv_aload_n hx hb dX6_undo_12 rfl (lv_at hl 0 rfl) ?_
    refine lv_iconst (v := nI 1) hx hb dX6_undo_13 (by decide) ?_
    refine run_i (S := Unit) (run_V (As := [.int (nI 1)]) (rest := []) (bs := [moC E b (upn z 0 0) g gs ar]) (cb := [moC E b (upn z 0 0) g gs ar]) hx hb hml hown hts hK hZ hA (c_X6_fails l E _ b (upn z 0 0) g gs ar  1 ) l_X6_54 rfl ⟨⟨rfl, rfl⟩, Nat.le_of_ble_eq_true rfl, Nat.le_of_ble_eq_true rfl⟩ 10 rfl [0] rfl (by decide) rfl hP hD hS hl.1 rfl (Nat.le_of_ble_eq_true rfl) dX6_undo_14 ⟨Nat.zero_le _, Nat.zero_le _⟩) hA hP hD hS (isC := [0]) rfl [] [0] (br := []) (bs2 := fun _ => [moC E b (upn (upn z 0 0) 0 1) g gs ar]) rfl (by decide) (fun _ => rfl) (by decide) (fun r u H locs hw hP hD hS => ?_)
    subst hw
    have hmE : moC E b (upn (upn z 0 0) 0 1) g gs ar = moC E b (if z 1 = 0 then upn z 0 1 else upn (upn z 0 0) 1 (z 1 - 1)) (if z 1 = 0 then g else gs (3 + (z 1 - 1))) gs ar := by rw [if_pos (by omega), if_pos (by omega)]; congr 1; funext j; unfold upn; split <;> rfl
    rw [hmE] at hP hD; clear hmE
    exact hret _ _ (nI 0) () _ _ hP hD hS rfl (by rw [show z 1 - 1 = 0 by omega]) dX6_undo_17
abbrev rm_X6_changed : Room := { frames := 0, cells := 0, slots := 0, locals := 0 }
set_option maxHeartbeats 4000000 in
set_option maxRecDepth 100000 in
theorem c_X6_changed (l : Launch) (E : EE) (sz : Nat) (b : Nat → Nat) (z : Nat → Nat) (g : GG) (gs : Nat → GG) (ar : GG) (n0 : Nat) (hk : z 1 ≤ 8) : MI l yX6_changed cX6_changed 3 .int rm_X6_changed [.ref (b 0), .int (nI n0)] E sz [moC E b z g gs ar] (fun (r : Int32) (_ : Unit) => r = nI n0) (fun _ => [moC E b (upn z 1 (chK (z 1))) g (chS (z 1) gs) ar]) 0 0 := by
  refine mi_go (by decide) (Nat.le_of_ble_eq_true rfl) ?_
  intro p e s m below meth c A Q ls hx hb hml hown hts hK hZ hA hsz hP hD hl hret
  have hS : va_S A s.heap s.heap [] := va_S.rf
  have hl : lv_has ls 3 [(0, .ref (b 0)), (1, .int (nI n0))] := hl
  skip
  refine lv_aload_n hx hb dX6_changed_0 rfl (lv_at hl 0 rfl) ?_
  refine va_get (D := E.1) (ci := 10) (v := .int (nI (z 1))) (C := RX6) (T := TX6) (N := 20) hx hb hts inX6 hown hK hP 0 rfl rfl 6 (by decide) (hts _ q1440) (fun _ h9 => h9) rfl dX6_changed_1 ?_
  refine lv_bipush (v := nI 8) hx hb dX6_changed_4 (by decide) ?_
  refine nv_icmp_ne (X := ((z 1 : Nat) : Int)) (Y := ((8 : Nat) : Int)) hx hb (nI_toInt (by omega)) (nI_toInt (by omega)) (tgt := 42) dX6_changed_6 (by decide) (fun c_1 => ?_) (fun c_1 => ?_)
  · skip
    refine lv_aload_n hx hb dX6_changed_42 rfl (lv_at hl 0 rfl) ?_
    refine lv_dup hx hb dX6_changed_43 rfl ?_
    refine va_get (D := E.1) (ci := 10) (v := .int (nI (z 1))) (C := RX6) (T := TX6) (N := 20) hx hb hts inX6 hown hK hP 0 rfl rfl 6 (by decide) (hts _ q1440) (fun _ h9 => h9) rfl dX6_changed_44 ?_
    refine lv_iconst (v := nI 1) hx hb dX6_changed_47 (by decide) ?_
    refine nv_iadd hx hb dX6_changed_48 ?_
    refine va_put (D := E.1) (ci := 10) (v := .int (nI (z 1 + 1))) (ty := .int) (C := RX6) (T := TX6) (N := 20) hx hb hts inX6 tyX6 tyX6_ok nmX6 hown hK hP hD hS 0 rfl rfl 6 (by decide) (hts _ q1440) (fun _ h9 => h9) rfl (by decide +kernel) rfl rfl (Nat.le_of_ble_eq_true rfl) dX6_changed_49 (fun H locs hP hD hS => ?_)
    have hP : va_P E.1 vwCl ([moC E b (upn z 1 (z 1 + 1)) g gs ar] : List va_W).flatten H := hP
    have hD : va_D A ([moC E b (upn z 1 (z 1 + 1)) g gs ar] : List va_W).flatten := hD
    refine lv_iconst (v := nI 0) hx hb dX6_changed_52 (by decide) ?_
    refine lv_istore_n (lv' := [(2, .int (nI 0)), (0, .ref (b 0)), (1, .int (nI n0))]) hx hb dX6_changed_53 rfl hl (by decide) rfl (fun ls hl => ?_)
    have loop54 : ∀ (n : Nat) (i : Nat), (i ≤ 74) → 74 - i < n → ∀ (H : Heap) (locs : List Loc) (ls : Array Slot), va_P E.1 vwCl ([moR E b (upn z 1 (z 1 + 1)) (upr (moF g gs ar) 3 (hput (hfl gs) (flat (gs 0)) (z 1 + 1 - 1) i))] : List va_W).flatten H → va_D A ([moR E b (upn z 1 (z 1 + 1)) (upr (moF g gs ar) 3 (hput (hfl gs) (flat (gs 0)) (z 1 + 1 - 1) i))] : List va_W).flatten → va_S A s.heap H locs → lv_has ls 3 [(0, .ref (b 0)), (1, .int (nI n0)), (2, .int (nI i))] → W p l e rm_X6_changed s m ([.ref (b 0), .int (nI n0)] : List Value).toArray below meth c H locs 0 0 Q (F0 m 54 ls []) := by
      intro n54
      induction n54 with
      | zero => intro i hi hn54; exact absurd hn54 (Nat.not_lt_zero _)
      | succ n54 ih54 =>
        intro i hi hn54 H locs ls hP hD hS hl
        refine lv_iload_n hx hb dX6_changed_54 rfl (lv_at hl 2 rfl) ?_
        refine lv_bipush (v := nI 74) hx hb dX6_changed_55 (by decide) ?_
        refine nv_icmp_ge (X := ((i : Nat) : Int)) (Y := ((74 : Nat) : Int)) hx hb (nI_toInt (by omega)) (nI_toInt (by omega)) (tgt := 88) dX6_changed_57 (by decide) (fun c_2 => ?_) (fun c_2 => ?_)
        · skip
          have hmE : moR E b (upn z 1 (z 1 + 1)) (upr (moF g gs ar) 3 (hput (hfl gs) (flat (gs 0)) (z 1 + 1 - 1) i)) = moC E b (upn z 1 (chK (z 1))) g (chS (z 1) gs) ar := by rw [show i = 74 by omega, hput_74, moF_3 (fun k hk => by unfold upa; exact if_neg (by omega))]; exact chg_more (by omega)
          rw [hmE] at hP hD; clear hmE
          refine lv_iload_n hx hb dX6_changed_88 rfl (lv_at hl 1 rfl) ?_
          exact hret _ _ (nI n0) () _ _ hP hD hS rfl rfl dX6_changed_89
        · skip
          refine lv_aload_n hx hb dX6_changed_60 rfl (lv_at hl 0 rfl) ?_
          refine va_get (D := E.1) (ci := 10) (v := .ref (b 4)) (C := RX6) (T := TX6) (N := 20) hx hb hts inX6 hown hK hP 0 rfl rfl 4 (by decide) (hts _ q1438) (fun _ h9 => h9) rfl dX6_changed_61 ?_
          refine lv_bipush (v := nI 74) hx hb dX6_changed_64 (by decide) ?_
          refine lv_aload_n hx hb dX6_changed_66 rfl (lv_at hl 0 rfl) ?_
          refine va_get (D := E.1) (ci := 10) (v := .int (nI (z 1 + 1))) (C := RX6) (T := TX6) (N := 20) hx hb hts inX6 hown hK hP 0 rfl rfl 6 (by decide) (hts _ q1440) (fun _ h9 => h9) rfl dX6_changed_67 ?_
          refine lv_iconst (v := nI 1) hx hb dX6_changed_70 (by decide) ?_
          refine nv_isub hx hb (by omega) dX6_changed_71 ?_
          refine nv_imul hx hb dX6_changed_72 ?_
          refine lv_iload_n hx hb dX6_changed_73 rfl (lv_at hl 2 rfl) ?_
          refine nv_iadd hx hb dX6_changed_74 ?_
          refine lv_aload_n hx hb dX6_changed_75 rfl (lv_at hl 0 rfl) ?_
          refine va_get (D := E.1) (ci := 10) (v := .ref (b 2)) (C := RX6) (T := TX6) (N := 20) hx hb hts inX6 hown hK hP 0 rfl rfl 2 (by decide) (hts _ q1436) (fun _ h9 => h9) rfl dX6_changed_76 ?_
          refine lv_iload_n hx hb dX6_changed_79 rfl (lv_at hl 2 rfl) ?_
          refine nv_iald (f := (flat (gs 0))) (i := i) (n := 74) hx hb hK hP 2 0 rfl rfl (by omega) (by decide) dX6_changed_80 ?_
          refine tp_i (show _ = nI ((flat (gs 0)) i) from rfl) ?_
          refine nv_iast (f := (hput (hfl gs) (flat (gs 0)) (z 1 + 1 - 1) i)) (i := (74 * ((z 1 + 1) - 1)) + i) (v := (flat (gs 0)) i) (n := 592) hx hb hK hP hD hS 4 0 rfl rfl (by omega) (by decide) dX6_changed_81 (fun H locs hP hD hS => ?_)
          have hP : va_P E.1 vwCl ([moR E b (upn z 1 (z 1 + 1)) (upr (moF g gs ar) 3 (upn (hput (hfl gs) (flat (gs 0)) (z 1 + 1 - 1) i) ((74 * ((z 1 + 1) - 1)) + i) ((flat (gs 0)) i)))] : List va_W).flatten H := hP
          have hD : va_D A ([moR E b (upn z 1 (z 1 + 1)) (upr (moF g gs ar) 3 (upn (hput (hfl gs) (flat (gs 0)) (z 1 + 1 - 1) i) ((74 * ((z 1 + 1) - 1)) + i) ((flat (gs 0)) i)))] : List va_W).flatten := hD
          have hmE : moR E b (upn z 1 (z 1 + 1)) (upr (moF g gs ar) 3 (upn (hput (hfl gs) (flat (gs 0)) (z 1 + 1 - 1) i) ((74 * ((z 1 + 1) - 1)) + i) ((flat (gs 0)) i))) = moR E b (upn z 1 (z 1 + 1)) (upr (moF g gs ar) 3 (hput (hfl gs) (flat (gs 0)) (z 1 + 1 - 1) (i + 1))) := by rw [hput_s]
          rw [hmE] at hP hD; clear hmE
          refine lv_iinc (v := nI (i + 1)) (lv' := [(2, .int (nI (i + 1))), (0, .ref (b 0)), (1, .int (nI n0))]) hx hb dX6_changed_82 hl (k := 2) rfl (nI_add i 1) (by decide) rfl (fun ls hl => ?_)
          refine lv_goto (tgt := 54) hx hb dX6_changed_85 (by decide) ?_
          exact ih54 (i + 1) (by omega) (by omega) _ _ _ hP hD hS (lv_sub hl [1, 2, 0] rfl)
    have hmE : moC E b (upn z 1 (z 1 + 1)) g gs ar = moR E b (upn z 1 (z 1 + 1)) (upr (moF g gs ar) 3 (hput (hfl gs) (flat (gs 0)) (z 1 + 1 - 1) 0)) := by rw [hput_0]; exact congrArg (moR E b _) (upr_id (g := moF g gs ar) (w := 3)).symm
    rw [hmE] at hP hD; clear hmE
    exact loop54 _ 0 (by omega) (Nat.lt_succ_self _) _ _ _ hP hD hS (lv_sub hl [1, 2, 0] rfl)
  · skip
    refine lv_iconst (v := nI 0) hx hb dX6_changed_9 (by decide) ?_
    refine lv_istore_n (lv' := [(2, .int (nI 0)), (0, .ref (b 0)), (1, .int (nI n0))]) hx hb dX6_changed_10 rfl hl (by decide) rfl (fun ls hl => ?_)
    have loop11 : ∀ (n : Nat) (i : Nat), (i ≤ 518) → 518 - i < n → ∀ (H : Heap) (locs : List Loc) (ls : Array Slot), va_P E.1 vwCl ([moR E b z (upr (moF g gs ar) 3 (fl (hfl gs) (fun j => hfl gs (j + 74)) i))] : List va_W).flatten H → va_D A ([moR E b z (upr (moF g gs ar) 3 (fl (hfl gs) (fun j => hfl gs (j + 74)) i))] : List va_W).flatten → va_S A s.heap H locs → lv_has ls 3 [(0, .ref (b 0)), (1, .int (nI n0)), (2, .int (nI i))] → W p l e rm_X6_changed s m ([.ref (b 0), .int (nI n0)] : List Value).toArray below meth c H locs 0 0 Q (F0 m 11 ls []) := by
      intro n11
      induction n11 with
      | zero => intro i hi hn11; exact absurd hn11 (Nat.not_lt_zero _)
      | succ n11 ih11 =>
        intro i hi hn11 H locs ls hP hD hS hl
        refine lv_iload_n hx hb dX6_changed_11 rfl (lv_at hl 2 rfl) ?_
        refine lv_sipush (v := nI 518) hx hb dX6_changed_12 (by decide) ?_
        refine nv_icmp_ge (X := ((i : Nat) : Int)) (Y := ((518 : Nat) : Int)) hx hb (nI_toInt (by omega)) (nI_toInt (by omega)) (tgt := 39) dX6_changed_15 (by decide) (fun c_3 => ?_) (fun c_3 => ?_)
        · skip
          have hmE : moR E b z (upr (moF g gs ar) 3 (fl (hfl gs) (fun j => hfl gs (j + 74)) i)) = moC E b z g (shG gs) ar := by rw [show i = 518 by omega, hfl_shift]; exact congrArg (moR E b z) (moF_3 (fun k hk => if_neg (by omega)))
          rw [hmE] at hP hD; clear hmE
          refine lv_goto (tgt := 52) hx hb dX6_changed_39 (by decide) ?_
          refine lv_iconst (v := nI 0) hx hb dX6_changed_52 (by decide) ?_
          refine lv_istore_n (lv' := [(2, .int (nI 0)), (0, .ref (b 0)), (1, .int (nI n0))]) hx hb dX6_changed_53 rfl hl (by decide) rfl (fun ls hl => ?_)
          have loop54 : ∀ (n : Nat) (i : Nat), (i ≤ 74) → 74 - i < n → ∀ (H : Heap) (locs : List Loc) (ls : Array Slot), va_P E.1 vwCl ([moR E b z (upr (moF g (shG gs) ar) 3 (hput (hfl (shG gs)) (flat (gs 0)) (z 1 - 1) i))] : List va_W).flatten H → va_D A ([moR E b z (upr (moF g (shG gs) ar) 3 (hput (hfl (shG gs)) (flat (gs 0)) (z 1 - 1) i))] : List va_W).flatten → va_S A s.heap H locs → lv_has ls 3 [(0, .ref (b 0)), (1, .int (nI n0)), (2, .int (nI i))] → W p l e rm_X6_changed s m ([.ref (b 0), .int (nI n0)] : List Value).toArray below meth c H locs 0 0 Q (F0 m 54 ls []) := by
            intro n54
            induction n54 with
            | zero => intro i hi hn54; exact absurd hn54 (Nat.not_lt_zero _)
            | succ n54 ih54 =>
              intro i hi hn54 H locs ls hP hD hS hl
              refine lv_iload_n hx hb dX6_changed_54 rfl (lv_at hl 2 rfl) ?_
              refine lv_bipush (v := nI 74) hx hb dX6_changed_55 (by decide) ?_
              refine nv_icmp_ge (X := ((i : Nat) : Int)) (Y := ((74 : Nat) : Int)) hx hb (nI_toInt (by omega)) (nI_toInt (by omega)) (tgt := 88) dX6_changed_57 (by decide) (fun c_4 => ?_) (fun c_4 => ?_)
              · skip
                have hmE : moR E b z (upr (moF g (shG gs) ar) 3 (hput (hfl (shG gs)) (flat (gs 0)) (z 1 - 1) i)) = moC E b (upn z 1 (chK (z 1))) g (chS (z 1) gs) ar := by rw [show i = 74 by omega, hput_74, moF_3 (fun k hk => by unfold upa; exact if_neg (by omega))]; exact chg_full (by omega)
                rw [hmE] at hP hD; clear hmE
                refine lv_iload_n hx hb dX6_changed_88 rfl (lv_at hl 1 rfl) ?_
                exact hret _ _ (nI n0) () _ _ hP hD hS rfl rfl dX6_changed_89
              · skip
                refine lv_aload_n hx hb dX6_changed_60 rfl (lv_at hl 0 rfl) ?_
                refine va_get (D := E.1) (ci := 10) (v := .ref (b 4)) (C := RX6) (T := TX6) (N := 20) hx hb hts inX6 hown hK hP 0 rfl rfl 4 (by decide) (hts _ q1438) (fun _ h9 => h9) rfl dX6_changed_61 ?_
                refine lv_bipush (v := nI 74) hx hb dX6_changed_64 (by decide) ?_
                refine lv_aload_n hx hb dX6_changed_66 rfl (lv_at hl 0 rfl) ?_
                refine va_get (D := E.1) (ci := 10) (v := .int (nI (z 1))) (C := RX6) (T := TX6) (N := 20) hx hb hts inX6 hown hK hP 0 rfl rfl 6 (by decide) (hts _ q1440) (fun _ h9 => h9) rfl dX6_changed_67 ?_
                refine lv_iconst (v := nI 1) hx hb dX6_changed_70 (by decide) ?_
                refine nv_isub hx hb (by omega) dX6_changed_71 ?_
                refine nv_imul hx hb dX6_changed_72 ?_
                refine lv_iload_n hx hb dX6_changed_73 rfl (lv_at hl 2 rfl) ?_
                refine nv_iadd hx hb dX6_changed_74 ?_
                refine lv_aload_n hx hb dX6_changed_75 rfl (lv_at hl 0 rfl) ?_
                refine va_get (D := E.1) (ci := 10) (v := .ref (b 2)) (C := RX6) (T := TX6) (N := 20) hx hb hts inX6 hown hK hP 0 rfl rfl 2 (by decide) (hts _ q1436) (fun _ h9 => h9) rfl dX6_changed_76 ?_
                refine lv_iload_n hx hb dX6_changed_79 rfl (lv_at hl 2 rfl) ?_
                refine nv_iald (f := (flat ((shG gs) 0))) (i := i) (n := 74) hx hb hK hP 2 0 rfl rfl (by omega) (by decide) dX6_changed_80 ?_
                refine tp_i (show _ = nI ((flat (gs 0)) i) from rfl) ?_
                refine nv_iast (f := (hput (hfl (shG gs)) (flat (gs 0)) (z 1 - 1) i)) (i := (74 * ((z 1) - 1)) + i) (v := (flat (gs 0)) i) (n := 592) hx hb hK hP hD hS 4 0 rfl rfl (by omega) (by decide) dX6_changed_81 (fun H locs hP hD hS => ?_)
                have hP : va_P E.1 vwCl ([moR E b z (upr (moF g (shG gs) ar) 3 (upn (hput (hfl (shG gs)) (flat (gs 0)) (z 1 - 1) i) ((74 * ((z 1) - 1)) + i) ((flat (gs 0)) i)))] : List va_W).flatten H := hP
                have hD : va_D A ([moR E b z (upr (moF g (shG gs) ar) 3 (upn (hput (hfl (shG gs)) (flat (gs 0)) (z 1 - 1) i) ((74 * ((z 1) - 1)) + i) ((flat (gs 0)) i)))] : List va_W).flatten := hD
                have hmE : moR E b z (upr (moF g (shG gs) ar) 3 (upn (hput (hfl (shG gs)) (flat (gs 0)) (z 1 - 1) i) ((74 * ((z 1) - 1)) + i) ((flat (gs 0)) i))) = moR E b z (upr (moF g (shG gs) ar) 3 (hput (hfl (shG gs)) (flat (gs 0)) (z 1 - 1) (i + 1))) := by rw [hput_s]
                rw [hmE] at hP hD; clear hmE
                refine lv_iinc (v := nI (i + 1)) (lv' := [(2, .int (nI (i + 1))), (0, .ref (b 0)), (1, .int (nI n0))]) hx hb dX6_changed_82 hl (k := 2) rfl (nI_add i 1) (by decide) rfl (fun ls hl => ?_)
                refine lv_goto (tgt := 54) hx hb dX6_changed_85 (by decide) ?_
                exact ih54 (i + 1) (by omega) (by omega) _ _ _ hP hD hS (lv_sub hl [1, 2, 0] rfl)
          have hmE : moC E b z g (shG gs) ar = moR E b z (upr (moF g (shG gs) ar) 3 (hput (hfl (shG gs)) (flat (gs 0)) (z 1 - 1) 0)) := by rw [hput_0]; exact congrArg (moR E b _) (upr_id (g := moF g (shG gs) ar) (w := 3)).symm
          rw [hmE] at hP hD; clear hmE
          exact loop54 _ 0 (by omega) (Nat.lt_succ_self _) _ _ _ hP hD hS (lv_sub hl [1, 2, 0] rfl)
        · skip
          refine lv_aload_n hx hb dX6_changed_18 rfl (lv_at hl 0 rfl) ?_
          refine va_get (D := E.1) (ci := 10) (v := .ref (b 4)) (C := RX6) (T := TX6) (N := 20) hx hb hts inX6 hown hK hP 0 rfl rfl 4 (by decide) (hts _ q1438) (fun _ h9 => h9) rfl dX6_changed_19 ?_
          refine lv_iload_n hx hb dX6_changed_22 rfl (lv_at hl 2 rfl) ?_
          refine lv_aload_n hx hb dX6_changed_23 rfl (lv_at hl 0 rfl) ?_
          refine va_get (D := E.1) (ci := 10) (v := .ref (b 4)) (C := RX6) (T := TX6) (N := 20) hx hb hts inX6 hown hK hP 0 rfl rfl 4 (by decide) (hts _ q1438) (fun _ h9 => h9) rfl dX6_changed_24 ?_
          refine lv_iload_n hx hb dX6_changed_27 rfl (lv_at hl 2 rfl) ?_
          refine lv_bipush (v := nI 74) hx hb dX6_changed_28 (by decide) ?_
          refine nv_iadd hx hb dX6_changed_30 ?_
          refine nv_iald (f := (fl (hfl gs) (fun j => hfl gs (j + 74)) i)) (i := i + 74) (n := 592) hx hb hK hP 4 0 rfl rfl (by omega) (by decide) dX6_changed_31 ?_
          refine tp_i (congrArg nI (fl_hi (by omega))) ?_
          refine nv_iast (f := (fl (hfl gs) (fun j => hfl gs (j + 74)) i)) (i := i) (v := (hfl gs) (i + 74)) (n := 592) hx hb hK hP hD hS 4 0 rfl rfl (by omega) (by decide) dX6_changed_32 (fun H locs hP hD hS => ?_)
          have hP : va_P E.1 vwCl ([moR E b z (upr (moF g gs ar) 3 (upn (fl (hfl gs) (fun j => hfl gs (j + 74)) i) i ((hfl gs) (i + 74))))] : List va_W).flatten H := hP
          have hD : va_D A ([moR E b z (upr (moF g gs ar) 3 (upn (fl (hfl gs) (fun j => hfl gs (j + 74)) i) i ((hfl gs) (i + 74))))] : List va_W).flatten := hD
          have hmE : moR E b z (upr (moF g gs ar) 3 (upn (fl (hfl gs) (fun j => hfl gs (j + 74)) i) i ((hfl gs) (i + 74)))) = moR E b z (upr (moF g gs ar) 3 (fl (hfl gs) (fun j => hfl gs (j + 74)) (i + 1))) := by rw [fl_step rfl]
          rw [hmE] at hP hD; clear hmE
          refine lv_iinc (v := nI (i + 1)) (lv' := [(2, .int (nI (i + 1))), (0, .ref (b 0)), (1, .int (nI n0))]) hx hb dX6_changed_33 hl (k := 2) rfl (nI_add i 1) (by decide) rfl (fun ls hl => ?_)
          refine lv_goto (tgt := 11) hx hb dX6_changed_36 (by decide) ?_
          exact ih11 (i + 1) (by omega) (by omega) _ _ _ hP hD hS (lv_sub hl [1, 2, 0] rfl)
    have hmE : moC E b z g gs ar = moR E b z (upr (moF g gs ar) 3 (fl (hfl gs) (fun j => hfl gs (j + 74)) 0)) := mo_pre 3 (f' := (fun j => hfl gs (j + 74)))
    rw [hmE] at hP hD; clear hmE
    exact loop11 _ 0 (by omega) (Nat.lt_succ_self _) _ _ _ hP hD hS (lv_sub hl [1, 2, 0] rfl)
