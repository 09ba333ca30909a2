theorem dfX0 : ∀ j, j < 2 → defaultValue (tyX0 j) = vp_V [.null, .null] j := fun j hj => match j, hj with
  | 0, _ => rfl
  | 1, _ => rfl
  | n + 2, h => absurd h (by omega)
theorem dfX1 : ∀ j, j < 2 → defaultValue (tyX1 j) = vp_V [.null, .null] j := fun j hj => match j, hj with
  | 0, _ => rfl
  | 1, _ => rfl
  | n + 2, h => absurd h (by omega)
theorem dfX2 : ∀ j, j < 3 → defaultValue (tyX2 j) = vp_V [.null, .int (nI 0), .int (nI 0)] j := fun j hj => match j, hj with
  | 0, _ => rfl
  | 1, _ => rfl
  | 2, _ => rfl
  | n + 3, h => absurd h (by omega)
theorem dfX3 : ∀ j, j < 6 → defaultValue (tyX3 j) = vp_V [.null, .null, .null, .int (nI 0), .int (nI 0), .int (nI 0)] j := fun j hj => match j, hj with
  | 0, _ => rfl
  | 1, _ => rfl
  | 2, _ => rfl
  | 3, _ => rfl
  | 4, _ => rfl
  | 5, _ => rfl
  | n + 6, h => absurd h (by omega)
theorem dfX4 : ∀ j, j < 16 → defaultValue (tyX4 j) = vp_V [.null, .null, .null, .null, .null, .null, .null, .null, .int (nI 0), .int (nI 0), .int (nI 0), .int (nI 0), .int (nI 0), .int (nI 0), .int (nI 0), .int (nI 0)] j := fun j hj => match j, hj with
  | 0, _ => rfl
  | 1, _ => rfl
  | 2, _ => rfl
  | 3, _ => rfl
  | 4, _ => rfl
  | 5, _ => rfl
  | 6, _ => rfl
  | 7, _ => rfl
  | 8, _ => rfl
  | 9, _ => rfl
  | 10, _ => rfl
  | 11, _ => rfl
  | 12, _ => rfl
  | 13, _ => rfl
  | 14, _ => rfl
  | 15, _ => rfl
  | n + 16, h => absurd h (by omega)
theorem dfJ4 : ∀ j, j < 4 → defaultValue (tyJ4 j) = vp_V [.null, .int (nI 0), .int (nI 0), .int (nI 0)] j := fun j hj => match j, hj with
  | 0, _ => rfl
  | 1, _ => rfl
  | 2, _ => rfl
  | 3, _ => rfl
  | n + 4, h => absurd h (by omega)
theorem dfX5 : ∀ j, j < 11 → defaultValue (tyX5 j) = vp_V [.null, .null, .null, .null, .null, .null, .null, .null, .int (nI 0), .int (nI 0), .int (nI 0)] j := fun j hj => match j, hj with
  | 0, _ => rfl
  | 1, _ => rfl
  | 2, _ => rfl
  | 3, _ => rfl
  | 4, _ => rfl
  | 5, _ => rfl
  | 6, _ => rfl
  | 7, _ => rfl
  | 8, _ => rfl
  | 9, _ => rfl
  | 10, _ => rfl
  | n + 11, h => absurd h (by omega)
theorem flat_0 : flat (fun _ _ => 0) = fun _ => 0 := by funext k; simp [flat]
theorem moC_new {E : EE} {b : Nat → Nat} : moC E b (fun _ => 0) (fun _ _ => 0) (fun _ _ _ => 0) (fun _ _ => 0) = moR E b (fun _ => 0) (fun _ _ => 0) := by
  have h : moF (fun _ _ => 0) (fun _ _ _ => 0) (fun _ _ => 0) = fun _ _ => 0 := by
    funext i j
    unfold moF
    split
    · rw [flat_0]
    · rw [flat_0]
    · rw [flat_0]
    · show flat (fun _ _ => 0) _ = 0; rw [flat_0]
    · rw [flat_0]
    · rfl
    · rfl
    · rfl
  show moR E b _ (moF _ _ _) = _
  rw [h]
abbrev rm_X6_init : Room := { frames := 1, cells := 8, slots := 1308, locals := 30 }
abbrev rm_J5_init_d00df : Room := { frames := 1, cells := 1, slots := 16, locals := 30 }
set_option maxHeartbeats 4000000 in
set_option maxRecDepth 100000 in
theorem c_J5_init_d00df (l : Launch) (E : EE) (sz : Nat) (y : Nat → Nat) : MV l yJ5_init_d00df cJ5_init_d00df 2 rm_J5_init_d00df [.ref (y 0), .int (nI 16)] E sz [([(y 0, .inr (1, [.null, .int (nI 0), .int (nI 0), .int (nI 0)]))] : va_W)] (fun (u : Nat) => True) (fun u => [sbO E y u 0 0, baC E u 16 (fun _ => 0)]) 1 16 := by
  refine mv_go (by decide) (Nat.le_of_ble_eq_true rfl) ?_
  intro p e s m below meth c A Q ls hx hb hml hown hts hK hZ hA hsz hP hD hl hret hnm
  have hS : va_S A s.heap s.heap [] := va_S.rf
  have hl : lv_has ls 2 [(0, .ref (y 0)), (1, .int (nI 16))] := hl
  skip
  have hin : meth.name = "<init>" := (name_of_methodNamed hnm.1 hnm.2).1
  refine lv_aload_n hx hb dJ5_init_d00df_0 rfl (lv_at hl 0 rfl) ?_
  refine W.objInit hx hb hown (hts _ (tg_of 221 (by decide +kernel) (by decide +kernel))) (hts _ q58) (hts _ (tg_of 59 (by decide +kernel) (by decide +kernel))) rfl (by rw [hml]; exact hl.1) rfl dJ5_init_d00df_1 (Nat.le_of_ble_eq_true rfl) (Nat.le_of_ble_eq_true rfl) ?_
  refine W.eq (g2 := F0 m 4 ls []) rfl ?_
  refine va_gets hx hb hZ.2.2.2.2.2.1.1 hS hown (hts _ q222) (fun _ h => h) dJ5_init_d00df_4 ?_
  refine tp_i (show (1 : Int32) = nI 1 from rfl) ?_
  refine nv_if_eq (X := ((1 : Nat) : Int)) hx hb (nI_toInt (by omega)) (tgt := 25) dJ5_init_d00df_7 (by decide) (fun c_1 => ?_) (fun c_1 => ?_)
  · exact absurd c_1 (by omega)
  · skip
    refine lv_aload_n hx hb dJ5_init_d00df_10 rfl (lv_at hl 0 rfl) ?_
    refine lv_iload_n hx hb dJ5_init_d00df_11 rfl (lv_at hl 1 rfl) ?_
    refine nv_newt (atype := .byte) hx hb (hts _ q245) rfl hK hP hD hS hA 2 (uq_byte hK) (n := 16) (fun _ => rfl) (by decide) (Nat.le_of_ble_eq_true rfl) (Nat.le_of_ble_eq_true rfl) (Nat.le_of_ble_eq_true rfl) dJ5_init_d00df_12 (fun q_2 H hP hD hS => ?_)
    rw [flat_app] at hP hD
    have hP : va_P E.1 vwCl ([([(y 0, .inr (1, [.null, .int (nI 0), .int (nI 0), .int (nI 0)]))] : va_W), ([(q_2, .inl (E.2.1 2, 16, .inl (fun _ => nI 0)))] : va_W)] : List va_W).flatten H := hP
    have hD : va_D A ([([(y 0, .inr (1, [.null, .int (nI 0), .int (nI 0), .int (nI 0)]))] : va_W), ([(q_2, .inl (E.2.1 2, 16, .inl (fun _ => nI 0)))] : va_W)] : List va_W).flatten := hD
    refine va_put (D := E.1) (ci := 1) (v := .ref q_2) (ty := .array .byte) (C := RJ4) (T := TJ4) (N := 4) hx hb hts inJ4 tyJ4 tyJ4_ok nmJ4 hown hK hP hD hS 0 rfl rfl 0 (by decide) (hts _ q231) (fun _ h9 => h9) rfl (by decide +kernel) rfl rfl (Nat.le_of_ble_eq_true rfl) dJ5_init_d00df_14 (fun H locs hP hD hS => ?_)
    have hP : va_P E.1 vwCl ([([(y 0, .inr (1, [.ref q_2, .int (nI 0), .int (nI 0), .int (nI 0)]))] : va_W), ([(q_2, .inl (E.2.1 2, 16, .inl (fun _ => nI 0)))] : va_W)] : List va_W).flatten H := hP
    have hD : va_D A ([([(y 0, .inr (1, [.ref q_2, .int (nI 0), .int (nI 0), .int (nI 0)]))] : va_W), ([(q_2, .inl (E.2.1 2, 16, .inl (fun _ => nI 0)))] : va_W)] : List va_W).flatten := hD
    refine lv_aload_n hx hb dJ5_init_d00df_17 rfl (lv_at hl 0 rfl) ?_
    refine lv_iconst (v := nI 0) hx hb dJ5_init_d00df_18 (by decide) ?_
    refine va_put (D := E.1) (ci := 1) (v := .int (nI 0)) (ty := .byte) (C := RJ4) (T := TJ4) (N := 4) hx hb hts inJ4 tyJ4 tyJ4_ok nmJ4 hown hK hP hD hS 0 rfl rfl 1 (by decide) (hts _ q232) (fun _ h9 => h9) rfl (by decide +kernel) (by decide) rfl (Nat.le_of_ble_eq_true rfl) dJ5_init_d00df_19 (fun H locs hP hD hS => ?_)
    have hP : va_P E.1 vwCl ([([(y 0, .inr (1, [.ref q_2, .int (nI 0), .int (nI 0), .int (nI 0)]))] : va_W), ([(q_2, .inl (E.2.1 2, 16, .inl (fun _ => nI 0)))] : va_W)] : List va_W).flatten H := hP
    have hD : va_D A ([([(y 0, .inr (1, [.ref q_2, .int (nI 0), .int (nI 0), .int (nI 0)]))] : va_W), ([(q_2, .inl (E.2.1 2, 16, .inl (fun _ => nI 0)))] : va_W)] : List va_W).flatten := hD
    refine lv_goto (tgt := 38) hx hb dJ5_init_d00df_22 (by decide) ?_
    have hP : va_P E.1 vwCl ([sbO E y q_2 0 0, baC E q_2 16 (fun _ => 0)] : List va_W).flatten H := hP
    have hD : va_D A ([sbO E y q_2 0 0, baC E q_2 16 (fun _ => 0)] : List va_W).flatten := hD
    exact hret _ _ q_2 _ _ hP hD hS trivial dJ5_init_d00df_38
theorem l_J4_1 : (Cond.methodLink RJ4 1 yJ5_init_d00df ∈ TG ∧ Cond.instanceMethod yJ5_init_d00df ∈ TG ∧ Cond.initialized yJ5_init_d00df.cls ∈ TG ∧ Cond.code yJ5_init_d00df cJ5_init_d00df 2 none ∈ TG) ∧ yJ5_init_d00df.name = "<init>" ∧ (yJ5_init_d00df.cls ≠ "java/lang/invoke/MethodHandle" ∧ yJ5_init_d00df.cls ≠ "java/lang/invoke/VarHandle" ∧ (parseMethodDescriptor yJ5_init_d00df.desc).map (fun d => d.parameters.length) = some 1) := ⟨⟨q218, q219, q28, q220⟩, by decide +kernel⟩
abbrev rm_J4_init_da8c8 : Room := { frames := 2, cells := 1, slots := 16, locals := 51 }
set_option maxHeartbeats 4000000 in
set_option maxRecDepth 100000 in
theorem c_J4_init_da8c8 (l : Launch) (E : EE) (sz : Nat) (y : Nat → Nat) : MV l yJ4_init_da8c8 cJ4_init_da8c8 1 rm_J4_init_da8c8 [.ref (y 0)] E sz [([(y 0, .inr (1, [.null, .int (nI 0), .int (nI 0), .int (nI 0)]))] : va_W)] (fun (u : Nat) => True) (fun u => [sbO E y u 0 0, baC E u 16 (fun _ => 0)]) 1 16 := by
  refine mv_go (by decide) (Nat.le_of_ble_eq_true rfl) ?_
  intro p e s m below meth c A Q ls hx hb hml hown hts hK hZ hA hsz hP hD hl hret hnm
  have hS : va_S A s.heap s.heap [] := va_S.rf
  have hl : lv_has ls 1 [(0, .ref (y 0))] := hl
  skip
  have hin : meth.name = "<init>" := (name_of_methodNamed hnm.1 hnm.2).1
  refine lv_aload_n hx hb dJ4_init_da8c8_0 rfl (lv_at hl 0 rfl) ?_
  refine lv_bipush (v := nI 16) hx hb dJ4_init_da8c8_1 (by decide) ?_
  refine run_v (S := Nat) (run_I (As := [.int (nI 16)]) (rest := []) (bs := [([(y 0, .inr (1, [.null, .int (nI 0), .int (nI 0), .int (nI 0)]))] : va_W)]) (cb := [([(y 0, .inr (1, [.null, .int (nI 0), .int (nI 0), .int (nI 0)]))] : va_W)]) hx hb hml hown hts hK hZ hA (c_J5_init_d00df l E _ y) l_J4_1 rfl ⟨⟨rfl, rfl⟩, Nat.le_of_ble_eq_true rfl, Nat.le_of_ble_eq_true rfl⟩ [0] rfl (by decide) hP hD hS hl.1 rfl (Nat.le_of_ble_eq_true rfl) dJ4_init_da8c8_3 ⟨Nat.le_of_ble_eq_true rfl, Nat.le_of_ble_eq_true rfl⟩) hA hP hD hS (isC := [0]) rfl [] [0, 1] (br := []) (bs2 := fun u => [sbO E y u 0 0, baC E u 16 (fun _ => 0)]) rfl (by decide) (fun _ => rfl) (by decide) (fun v_1 H locs hw hP hD hS => ?_)
  exact hret _ _ v_1 _ _ hP hD hS trivial dJ4_init_da8c8_6
