/-! the reference's calls, as a whole -/
def voR (g : GG) (p0 p1 : Int32) : Nat := if fMot p0 p1 = 0 then aVot g (tn p0) (tn p1) else 0
theorem voR_le {g : GG} {p0 p1 : Int32} : voR g p0 p1 ≤ 1 := by unfold voR aVot; (repeat' split) <;> omega
theorem ite1 {P : Prop} [Decidable P] {f h : Nat → Nat} {k c : Nat} (h1 : f k ≤ c) (h2 : h k ≤ c) : (if P then f else h) k ≤ c := by split; exact h1; exact h2
abbrev rm_X6_ends : Room := { frames := 1, cells := 0, slots := 0, locals := 22 }
set_option maxHeartbeats 4000000 in
set_option maxRecDepth 100000 in
theorem c_X6_ends (l : Launch) (E : EE) (sz : Nat) (b : Nat → Nat) (z : Nat → Nat) (g : GG) (gs : Nat → GG) (ar : GG) (n0 : Nat) (hk : z 1 ≤ 8) (h9 : n0 < 10) : MI l yX6_ends cX6_ends 2 .int rm_X6_ends [.ref (b 0), .int (nI n0)] E sz [moC E b z g gs ar] (fun (r : Int32) (_ : Unit) => r = nI (if n0 = 0 then z 7 else 0)) (fun _ => [moC E b (if n0 = 0 then upn z 1 (chK (z 1)) else upn z 0 n0) g (if n0 = 0 then chS (z 1) gs else gs) ar]) 0 0 := by
  refine mi_go (by decide) (Nat.le_of_ble_eq_true rfl) ?_
  intro p e s m below meth c A Q ls hx hb hml hown hts hK hZ hA hsz hP hD hl hret
  have hS : va_S A s.heap s.heap [] := va_S.rf
  have hl : lv_has ls 2 [(0, .ref (b 0)), (1, .int (nI n0))] := hl
  skip
  refine lv_iload_n hx hb dX6_ends_0 rfl (lv_at hl 1 rfl) ?_
  refine nv_if_ne (X := ((n0 : Nat) : Int)) hx hb (nI_toInt (by omega)) (tgt := 15) dX6_ends_1 (by decide) (fun c_1 => ?_) (fun c_1 => ?_)
  · skip
    have hn : ¬ n0 = 0 := by omega
    refine lv_aload_n hx hb dX6_ends_15 rfl (lv_at hl 0 rfl) ?_
    refine lv_iload_n hx hb dX6_ends_16 rfl (lv_at hl 1 rfl) ?_
    refine run_i (S := Unit) (run_V (As := [.int (nI n0)]) (rest := []) (bs := [moC E b z g gs ar]) (cb := [moC E b z g gs ar]) hx hb hml hown hts hK hZ hA (c_X6_fails l E _ b z g gs ar  n0 ) l_X6_54 rfl ⟨⟨rfl, rfl⟩, Nat.le_of_ble_eq_true rfl, Nat.le_of_ble_eq_true rfl⟩ 10 rfl [0] rfl (by decide) rfl hP hD hS hl.1 rfl (Nat.le_of_ble_eq_true rfl) dX6_ends_17 ⟨Nat.zero_le _, Nat.zero_le _⟩) hA hP hD hS (isC := [0]) rfl [] [0] (br := []) (bs2 := fun _ => [moC E b (upn z 0 n0) g gs ar]) rfl (by decide) (fun _ => rfl) (by decide) (fun r u H locs hw hP hD hS => ?_)
    subst hw
    have hmE : moC E b (upn z 0 n0) g gs ar = moC E b (if n0 = 0 then upn z 1 (chK (z 1)) else upn z 0 n0) g (if n0 = 0 then chS (z 1) gs else gs) ar := by rw [if_neg hn, if_neg hn]
    rw [hmE] at hP hD; clear hmE
    exact hret _ _ (nI 0) () _ _ hP hD hS rfl (by rw [if_neg hn]) dX6_ends_20
  · skip
    have hn : n0 = 0 := by omega
    refine lv_aload_n hx hb dX6_ends_4 rfl (lv_at hl 0 rfl) ?_
    refine lv_aload_n hx hb dX6_ends_5 rfl (lv_at hl 0 rfl) ?_
    refine va_get (D := E.1) (ci := 10) (v := .int (nI (z 7))) (C := RX6) (T := TX6) (N := 20) hx hb hts inX6 hown hK hP 0 rfl rfl 15 (by decide) (hts _ q1449) (fun _ h9 => h9) rfl dX6_ends_6 ?_
    refine run_i (S := Unit) (run_V (As := [.int (nI (z 7))]) (rest := []) (bs := [moC E b z g gs ar]) (cb := [moC E b z g gs ar]) hx hb hml hown hts hK hZ hA (c_X6_changed l E _ b z g gs ar  (z 7) (by omega)) l_X6_50 rfl ⟨⟨rfl, rfl⟩, Nat.le_of_ble_eq_true rfl, Nat.le_of_ble_eq_true rfl⟩ 10 rfl [0] rfl (by decide) rfl hP hD hS hl.1 rfl (Nat.le_of_ble_eq_true rfl) dX6_ends_9 ⟨Nat.zero_le _, Nat.zero_le _⟩) hA hP hD hS (isC := [0]) rfl [] [0] (br := []) (bs2 := fun _ => [moC E b (upn z 1 (chK (z 1))) g (chS (z 1) gs) ar]) rfl (by decide) (fun _ => rfl) (by decide) (fun r u H locs hw hP hD hS => ?_)
    subst hw
    refine lv_goto (tgt := 20) hx hb dX6_ends_12 (by decide) ?_
    have hmE : moC E b (upn z 1 (chK (z 1))) g (chS (z 1) gs) ar = moC E b (if n0 = 0 then upn z 1 (chK (z 1)) else upn z 0 n0) g (if n0 = 0 then chS (z 1) gs else gs) ar := by rw [if_pos hn, if_pos hn]
    rw [hmE] at hP hD; clear hmE
    exact hret _ _ (nI (z 7)) () _ _ hP hD hS rfl (by rw [if_pos hn]) dX6_ends_20
abbrev rm_X6_addMember : Room := { frames := 2, cells := 0, slots := 0, locals := 48 }
set_option maxHeartbeats 4000000 in
set_option maxRecDepth 100000 in
theorem c_X6_addMember (l : Launch) (E : EE) (sz : Nat) (b : Nat → Nat) (z : Nat → Nat) (g : GG) (gs : Nat → GG) (ar : GG) (hk : z 1 ≤ 8) (B : Nat) (hI : IB B g) (p0 p1 p2 p3 : Int32)  : MI l yX6_addMember cX6_addMember 5 .int rm_X6_addMember [.ref (b 0), .int p0, .int p1, .int p2, .int p3] E sz [moC E b z g gs ar] (fun (r : Int32) (_ : Unit) => r = nI (if fJoin g p0 p1 p2 p3 = 0 then g 8 0 else 0)) (fun _ => [moC E b (mchZ (fJoin g p0 p1 p2 p3) 1 (g 8 0) z) (if fJoin g p0 p1 p2 p3 = 0 then joinG g (tn p0) (tn p1) (tn p2) (tn p3) else g) (mchS (fJoin g p0 p1 p2 p3) (z 1) g gs) ar]) 0 0 := by
  refine mi_go (by decide) (Nat.le_of_ble_eq_true rfl) ?_
  intro p e s m below meth c A Q ls hx hb hml hown hts hK hZ hA hsz hP hD hl hret
  have hS : va_S A s.heap s.heap [] := va_S.rf
  have hl : lv_has ls 5 [(0, .ref (b 0)), (1, .int p0), (2, .int p1), (3, .int p2), (4, .int p3)] := hl
  skip
  have hmc := hI.mc
  have hbu := hI.bud
  have hFv : fJoin g p0 p1 p2 p3 = 0 ∨ 1 < fJoin g p0 p1 p2 p3 := by simp only [fJoin]; (repeat' split) <;> omega
  have hFm : fJoin g p0 p1 p2 p3 < 9 := by simp only [fJoin]; (repeat' split) <;> omega
  refine lv_aload_n hx hb dX6_addMember_0 rfl (lv_at hl 0 rfl) ?_
  refine run_v (S := Unit) (run_V (As := []) (rest := []) (bs := [moC E b z g gs ar]) (cb := [moC E b z g gs ar]) hx hb hml hown hts hK hZ hA (c_X6_remembers l E _ b z g gs ar   ) l_X6_105 rfl ⟨⟨rfl, rfl⟩, Nat.le_of_ble_eq_true rfl, Nat.le_of_ble_eq_true rfl⟩ 10 rfl [0] rfl (by decide) rfl hP hD hS hl.1 rfl (Nat.le_of_ble_eq_true rfl) dX6_addMember_1 ⟨Nat.zero_le _, Nat.zero_le _⟩) hA hP hD hS (isC := [0]) rfl [] [0] (br := []) (bs2 := fun _ => [moC E b (upn z 0 0) g (upa gs 0 g) ar]) rfl (by decide) (fun _ => rfl) (by decide) (fun u H locs hw hP hD hS => ?_)
  refine lv_aload_n hx hb dX6_addMember_4 rfl (lv_at hl 0 rfl) ?_
  refine lv_aload_n hx hb dX6_addMember_5 rfl (lv_at hl 0 rfl) ?_
  refine lv_iload_n hx hb dX6_addMember_6 rfl (lv_at hl 1 rfl) ?_
  refine lv_iload_n hx hb dX6_addMember_7 rfl (lv_at hl 2 rfl) ?_
  refine lv_iload_n hx hb dX6_addMember_8 rfl (lv_at hl 3 rfl) ?_
  refine lv_iload hx hb dX6_addMember_9 (lv_at hl 4 rfl) ?_
  refine run_i (S := Unit) (run_V (As := [.int p0, .int p1, .int p2, .int p3]) (rest := [.ref (b 0)]) (bs := [moC E b (upn z 0 0) g (upa gs 0 g) ar]) (cb := [moC E b (upn z 0 0) g (upa gs 0 g) ar]) hx hb hml hown hts hK hZ hA (c_X6_joins l E _ b (upn z 0 0) g (upa gs 0 g) ar _ hI p0 p1 p2 p3 ) l_X6_108 rfl ⟨⟨rfl, rfl⟩, Nat.le_of_ble_eq_true rfl, Nat.le_of_ble_eq_true rfl⟩ 10 rfl [0] rfl (by decide) rfl hP hD hS hl.1 rfl (Nat.le_of_ble_eq_true rfl) dX6_addMember_11 ⟨Nat.zero_le _, Nat.zero_le _⟩) hA hP hD hS (isC := [0]) rfl [] [0] (br := []) (bs2 := fun _ => [moC E b (if fJoin g p0 p1 p2 p3 = 0 then upn (upn z 0 0) 7 (g 8 0) else (upn z 0 0)) (if fJoin g p0 p1 p2 p3 = 0 then joinG g (tn p0) (tn p1) (tn p2) (tn p3) else g) (upa gs 0 g) ar]) rfl (by decide) (fun _ => rfl) (by decide) (fun r u H locs hw hP hD hS => ?_)
  subst hw
  refine run_i (S := Unit) (run_V (As := [.int (nI (fJoin g p0 p1 p2 p3 - 1))]) (rest := []) (bs := [moC E b (if fJoin g p0 p1 p2 p3 = 0 then upn (upn z 0 0) 7 (g 8 0) else (upn z 0 0)) (if fJoin g p0 p1 p2 p3 = 0 then joinG g (tn p0) (tn p1) (tn p2) (tn p3) else g) (upa gs 0 g) ar]) (cb := [moC E b (if fJoin g p0 p1 p2 p3 = 0 then upn (upn z 0 0) 7 (g 8 0) else (upn z 0 0)) (if fJoin g p0 p1 p2 p3 = 0 then joinG g (tn p0) (tn p1) (tn p2) (tn p3) else g) (upa gs 0 g) ar]) hx hb hml hown hts hK hZ hA (c_X6_ends l E _ b (if fJoin g p0 p1 p2 p3 = 0 then upn (upn z 0 0) 7 (g 8 0) else (upn z 0 0)) (if fJoin g p0 p1 p2 p3 = 0 then joinG g (tn p0) (tn p1) (tn p2) (tn p3) else g) (upa gs 0 g) ar  (fJoin g p0 p1 p2 p3 - 1) (ite1 hk hk) (by omega)) l_X6_112 rfl ⟨⟨rfl, rfl⟩, Nat.le_of_ble_eq_true rfl, Nat.le_of_ble_eq_true rfl⟩ 10 rfl [0] rfl (by decide) rfl hP hD hS hl.1 rfl (Nat.le_of_ble_eq_true rfl) dX6_addMember_14 ⟨Nat.zero_le _, Nat.zero_le _⟩) hA hP hD hS (isC := [0]) rfl [] [0] (br := []) (bs2 := fun _ => [moC E b (if (fJoin g p0 p1 p2 p3 - 1) = 0 then upn (if fJoin g p0 p1 p2 p3 = 0 then upn (upn z 0 0) 7 (g 8 0) else (upn z 0 0)) 1 (chK ((if fJoin g p0 p1 p2 p3 = 0 then upn (upn z 0 0) 7 (g 8 0) else (upn z 0 0)) 1)) else upn (if fJoin g p0 p1 p2 p3 = 0 then upn (upn z 0 0) 7 (g 8 0) else (upn z 0 0)) 0 (fJoin g p0 p1 p2 p3 - 1)) (if fJoin g p0 p1 p2 p3 = 0 then joinG g (tn p0) (tn p1) (tn p2) (tn p3) else g) (if (fJoin g p0 p1 p2 p3 - 1) = 0 then chS ((if fJoin g p0 p1 p2 p3 = 0 then upn (upn z 0 0) 7 (g 8 0) else (upn z 0 0)) 1) (upa gs 0 g) else (upa gs 0 g)) ar]) rfl (by decide) (fun _ => rfl) (by decide) (fun r u H locs hw hP hD hS => ?_)
  subst hw
  have hmE : moC E b (if (fJoin g p0 p1 p2 p3 - 1) = 0 then upn (if fJoin g p0 p1 p2 p3 = 0 then upn (upn z 0 0) 7 (g 8 0) else (upn z 0 0)) 1 (chK ((if fJoin g p0 p1 p2 p3 = 0 then upn (upn z 0 0) 7 (g 8 0) else (upn z 0 0)) 1)) else upn (if fJoin g p0 p1 p2 p3 = 0 then upn (upn z 0 0) 7 (g 8 0) else (upn z 0 0)) 0 (fJoin g p0 p1 p2 p3 - 1)) (if fJoin g p0 p1 p2 p3 = 0 then joinG g (tn p0) (tn p1) (tn p2) (tn p3) else g) (if (fJoin g p0 p1 p2 p3 - 1) = 0 then chS ((if fJoin g p0 p1 p2 p3 = 0 then upn (upn z 0 0) 7 (g 8 0) else (upn z 0 0)) 1) (upa gs 0 g) else (upa gs 0 g)) ar = moC E b (mchZ (fJoin g p0 p1 p2 p3) 1 (g 8 0) z) (if fJoin g p0 p1 p2 p3 = 0 then joinG g (tn p0) (tn p1) (tn p2) (tn p3) else g) (mchS (fJoin g p0 p1 p2 p3) (z 1) g gs) ar := by
    unfold mchZ mchS
    by_cases hF : fJoin g p0 p1 p2 p3 = 0
    · rw [hF]; rfl
    · have hF2 : ¬ (fJoin g p0 p1 p2 p3 - 1 = 0) := by omega
      simp only [if_neg hF, if_neg hF2, Nat.sub_zero]
  rw [hmE] at hP hD; clear hmE
  have hrE : nI (if (fJoin g p0 p1 p2 p3 - 1) = 0 then (if fJoin g p0 p1 p2 p3 = 0 then upn (upn z 0 0) 7 (g 8 0) else (upn z 0 0)) 7 else 0) = nI (if fJoin g p0 p1 p2 p3 = 0 then g 8 0 else 0) := by
    by_cases hF : fJoin g p0 p1 p2 p3 = 0
    · rw [hF]; rfl
    · have hF2 : ¬ (fJoin g p0 p1 p2 p3 - 1 = 0) := by omega
      simp only [if_neg hF, if_neg hF2, Nat.sub_zero]
  exact hret _ _ (nI (if (fJoin g p0 p1 p2 p3 - 1) = 0 then (if fJoin g p0 p1 p2 p3 = 0 then upn (upn z 0 0) 7 (g 8 0) else (upn z 0 0)) 7 else 0)) () _ _ hP hD hS rfl hrE dX6_addMember_17
abbrev rm_X6_wind : Room := { frames := 3, cells := 0, slots := 0, locals := 65 }
set_option maxHeartbeats 4000000 in
set_option maxRecDepth 100000 in
theorem c_X6_wind (l : Launch) (E : EE) (sz : Nat) (b : Nat → Nat) (z : Nat → Nat) (g : GG) (gs : Nat → GG) (ar : GG) (hk : z 1 ≤ 8) (B : Nat) (hI : IB B g) (p0 p1 : Int32)  : MI l yX6_wind cX6_wind 3 .int rm_X6_wind [.ref (b 0), .int p0, .int p1] E sz [moC E b z g gs ar] (fun (r : Int32) (_ : Unit) => r = nI (if fWind g p0 p1 = 0 then g 4 (tn p0) + tn p1 else 0)) (fun _ => [moC E b (mchZ (fWind g p0 p1) 0 (g 4 (tn p0) + tn p1) z) (if fWind g p0 p1 = 0 then windG g (tn p0) (tn p1) else g) (mchS (fWind g p0 p1) (z 1) g gs) ar]) 0 0 := by
  refine mi_go (by decide) (Nat.le_of_ble_eq_true rfl) ?_
  intro p e s m below meth c A Q ls hx hb hml hown hts hK hZ hA hsz hP hD hl hret
  have hS : va_S A s.heap s.heap [] := va_S.rf
  have hl : lv_has ls 3 [(0, .ref (b 0)), (1, .int p0), (2, .int p1)] := hl
  skip
  have hmc := hI.mc
  have hbu := hI.bud
  have hFv : fWind g p0 p1 = 0 ∨ 0 < fWind g p0 p1 := by simp only [fWind]; (repeat' split) <;> omega
  have hFm : fWind g p0 p1 < 9 := by simp only [fWind]; (repeat' split) <;> omega
  refine lv_aload_n hx hb dX6_wind_0 rfl (lv_at hl 0 rfl) ?_
  refine run_v (S := Unit) (run_V (As := []) (rest := []) (bs := [moC E b z g gs ar]) (cb := [moC E b z g gs ar]) hx hb hml hown hts hK hZ hA (c_X6_remembers l E _ b z g gs ar   ) l_X6_105 rfl ⟨⟨rfl, rfl⟩, Nat.le_of_ble_eq_true rfl, Nat.le_of_ble_eq_true rfl⟩ 10 rfl [0] rfl (by decide) rfl hP hD hS hl.1 rfl (Nat.le_of_ble_eq_true rfl) dX6_wind_1 ⟨Nat.zero_le _, Nat.zero_le _⟩) hA hP hD hS (isC := [0]) rfl [] [0] (br := []) (bs2 := fun _ => [moC E b (upn z 0 0) g (upa gs 0 g) ar]) rfl (by decide) (fun _ => rfl) (by decide) (fun u H locs hw hP hD hS => ?_)
  refine lv_aload_n hx hb dX6_wind_4 rfl (lv_at hl 0 rfl) ?_
  refine lv_aload_n hx hb dX6_wind_5 rfl (lv_at hl 0 rfl) ?_
  refine lv_iload_n hx hb dX6_wind_6 rfl (lv_at hl 1 rfl) ?_
  refine lv_iload_n hx hb dX6_wind_7 rfl (lv_at hl 2 rfl) ?_
  refine run_i (S := Unit) (run_V (As := [.int p0, .int p1]) (rest := [.ref (b 0)]) (bs := [moC E b (upn z 0 0) g (upa gs 0 g) ar]) (cb := [moC E b (upn z 0 0) g (upa gs 0 g) ar]) hx hb hml hown hts hK hZ hA (c_X6_winds l E _ b (upn z 0 0) g (upa gs 0 g) ar _ hI p0 p1 ) l_X6_115 rfl ⟨⟨rfl, rfl⟩, Nat.le_of_ble_eq_true rfl, Nat.le_of_ble_eq_true rfl⟩ 10 rfl [0] rfl (by decide) rfl hP hD hS hl.1 rfl (Nat.le_of_ble_eq_true rfl) dX6_wind_8 ⟨Nat.zero_le _, Nat.zero_le _⟩) hA hP hD hS (isC := [0]) rfl [] [0] (br := []) (bs2 := fun _ => [moC E b (if fWind g p0 p1 = 0 then upn (upn z 0 0) 7 (g 4 (tn p0) + tn p1) else (upn z 0 0)) (if fWind g p0 p1 = 0 then windG g (tn p0) (tn p1) else g) (upa gs 0 g) ar]) rfl (by decide) (fun _ => rfl) (by decide) (fun r u H locs hw hP hD hS => ?_)
  subst hw
  refine run_i (S := Unit) (run_V (As := [.int (nI (fWind g p0 p1))]) (rest := []) (bs := [moC E b (if fWind g p0 p1 = 0 then upn (upn z 0 0) 7 (g 4 (tn p0) + tn p1) else (upn z 0 0)) (if fWind g p0 p1 = 0 then windG g (tn p0) (tn p1) else g) (upa gs 0 g) ar]) (cb := [moC E b (if fWind g p0 p1 = 0 then upn (upn z 0 0) 7 (g 4 (tn p0) + tn p1) else (upn z 0 0)) (if fWind g p0 p1 = 0 then windG g (tn p0) (tn p1) else g) (upa gs 0 g) ar]) hx hb hml hown hts hK hZ hA (c_X6_ends l E _ b (if fWind g p0 p1 = 0 then upn (upn z 0 0) 7 (g 4 (tn p0) + tn p1) else (upn z 0 0)) (if fWind g p0 p1 = 0 then windG g (tn p0) (tn p1) else g) (upa gs 0 g) ar  (fWind g p0 p1) (ite1 hk hk) (by omega)) l_X6_112 rfl ⟨⟨rfl, rfl⟩, Nat.le_of_ble_eq_true rfl, Nat.le_of_ble_eq_true rfl⟩ 10 rfl [0] rfl (by decide) rfl hP hD hS hl.1 rfl (Nat.le_of_ble_eq_true rfl) dX6_wind_11 ⟨Nat.zero_le _, Nat.zero_le _⟩) hA hP hD hS (isC := [0]) rfl [] [0] (br := []) (bs2 := fun _ => [moC E b (if (fWind g p0 p1) = 0 then upn (if fWind g p0 p1 = 0 then upn (upn z 0 0) 7 (g 4 (tn p0) + tn p1) else (upn z 0 0)) 1 (chK ((if fWind g p0 p1 = 0 then upn (upn z 0 0) 7 (g 4 (tn p0) + tn p1) else (upn z 0 0)) 1)) else upn (if fWind g p0 p1 = 0 then upn (upn z 0 0) 7 (g 4 (tn p0) + tn p1) else (upn z 0 0)) 0 (fWind g p0 p1)) (if fWind g p0 p1 = 0 then windG g (tn p0) (tn p1) else g) (if (fWind g p0 p1) = 0 then chS ((if fWind g p0 p1 = 0 then upn (upn z 0 0) 7 (g 4 (tn p0) + tn p1) else (upn z 0 0)) 1) (upa gs 0 g) else (upa gs 0 g)) ar]) rfl (by decide) (fun _ => rfl) (by decide) (fun r u H locs hw hP hD hS => ?_)
  subst hw
  have hmE : moC E b (if (fWind g p0 p1) = 0 then upn (if fWind g p0 p1 = 0 then upn (upn z 0 0) 7 (g 4 (tn p0) + tn p1) else (upn z 0 0)) 1 (chK ((if fWind g p0 p1 = 0 then upn (upn z 0 0) 7 (g 4 (tn p0) + tn p1) else (upn z 0 0)) 1)) else upn (if fWind g p0 p1 = 0 then upn (upn z 0 0) 7 (g 4 (tn p0) + tn p1) else (upn z 0 0)) 0 (fWind g p0 p1)) (if fWind g p0 p1 = 0 then windG g (tn p0) (tn p1) else g) (if (fWind g p0 p1) = 0 then chS ((if fWind g p0 p1 = 0 then upn (upn z 0 0) 7 (g 4 (tn p0) + tn p1) else (upn z 0 0)) 1) (upa gs 0 g) else (upa gs 0 g)) ar = moC E b (mchZ (fWind g p0 p1) 0 (g 4 (tn p0) + tn p1) z) (if fWind g p0 p1 = 0 then windG g (tn p0) (tn p1) else g) (mchS (fWind g p0 p1) (z 1) g gs) ar := by
    unfold mchZ mchS
    by_cases hF : fWind g p0 p1 = 0
    · rw [hF]; rfl
    · have hF2 : ¬ (fWind g p0 p1 = 0) := by omega
      simp only [if_neg hF, if_neg hF2, Nat.sub_zero]
  rw [hmE] at hP hD; clear hmE
  have hrE : nI (if (fWind g p0 p1) = 0 then (if fWind g p0 p1 = 0 then upn (upn z 0 0) 7 (g 4 (tn p0) + tn p1) else (upn z 0 0)) 7 else 0) = nI (if fWind g p0 p1 = 0 then g 4 (tn p0) + tn p1 else 0) := by
    by_cases hF : fWind g p0 p1 = 0
    · rw [hF]; rfl
    · have hF2 : ¬ (fWind g p0 p1 = 0) := by omega
      simp only [if_neg hF, if_neg hF2, Nat.sub_zero]
  exact hret _ _ (nI (if (fWind g p0 p1) = 0 then (if fWind g p0 p1 = 0 then upn (upn z 0 0) 7 (g 4 (tn p0) + tn p1) else (upn z 0 0)) 7 else 0)) () _ _ hP hD hS rfl hrE dX6_wind_14
abbrev rm_X6_tune : Room := { frames := 3, cells := 0, slots := 0, locals := 66 }
set_option maxHeartbeats 4000000 in
set_option maxRecDepth 100000 in
theorem c_X6_tune (l : Launch) (E : EE) (sz : Nat) (b : Nat → Nat) (z : Nat → Nat) (g : GG) (gs : Nat → GG) (ar : GG) (hk : z 1 ≤ 8) (B : Nat) (hI : IB B g) (p0 p1 : Int32)  : MI l yX6_tune cX6_tune 3 .int rm_X6_tune [.ref (b 0), .int p0, .int p1] E sz [moC E b z g gs ar] (fun (r : Int32) (_ : Unit) => r = nI (if fTune g p0 p1 = 0 then g 3 (tn p0) else 0)) (fun _ => [moC E b (mchZ (fTune g p0 p1) 0 (g 3 (tn p0)) z) (if fTune g p0 p1 = 0 then up2 g 3 (tn p0) (tn p1) else g) (mchS (fTune g p0 p1) (z 1) g gs) ar]) 0 0 := by
  refine mi_go (by decide) (Nat.le_of_ble_eq_true rfl) ?_
  intro p e s m below meth c A Q ls hx hb hml hown hts hK hZ hA hsz hP hD hl hret
  have hS : va_S A s.heap s.heap [] := va_S.rf
  have hl : lv_has ls 3 [(0, .ref (b 0)), (1, .int p0), (2, .int p1)] := hl
  skip
  have hmc := hI.mc
  have hbu := hI.bud
  have hFv : fTune g p0 p1 = 0 ∨ 0 < fTune g p0 p1 := by simp only [fTune]; (repeat' split) <;> omega
  have hFm : fTune g p0 p1 < 9 := by simp only [fTune]; (repeat' split) <;> omega
  refine lv_aload_n hx hb dX6_tune_0 rfl (lv_at hl 0 rfl) ?_
  refine run_v (S := Unit) (run_V (As := []) (rest := []) (bs := [moC E b z g gs ar]) (cb := [moC E b z g gs ar]) hx hb hml hown hts hK hZ hA (c_X6_remembers l E _ b z g gs ar   ) l_X6_105 rfl ⟨⟨rfl, rfl⟩, Nat.le_of_ble_eq_true rfl, Nat.le_of_ble_eq_true rfl⟩ 10 rfl [0] rfl (by decide) rfl hP hD hS hl.1 rfl (Nat.le_of_ble_eq_true rfl) dX6_tune_1 ⟨Nat.zero_le _, Nat.zero_le _⟩) hA hP hD hS (isC := [0]) rfl [] [0] (br := []) (bs2 := fun _ => [moC E b (upn z 0 0) g (upa gs 0 g) ar]) rfl (by decide) (fun _ => rfl) (by decide) (fun u H locs hw hP hD hS => ?_)
  refine lv_aload_n hx hb dX6_tune_4 rfl (lv_at hl 0 rfl) ?_
  refine lv_aload_n hx hb dX6_tune_5 rfl (lv_at hl 0 rfl) ?_
  refine lv_iload_n hx hb dX6_tune_6 rfl (lv_at hl 1 rfl) ?_
  refine lv_iload_n hx hb dX6_tune_7 rfl (lv_at hl 2 rfl) ?_
  refine run_i (S := Unit) (run_V (As := [.int p0, .int p1]) (rest := [.ref (b 0)]) (bs := [moC E b (upn z 0 0) g (upa gs 0 g) ar]) (cb := [moC E b (upn z 0 0) g (upa gs 0 g) ar]) hx hb hml hown hts hK hZ hA (c_X6_tunes l E _ b (upn z 0 0) g (upa gs 0 g) ar _ hI p0 p1 ) l_X6_118 rfl ⟨⟨rfl, rfl⟩, Nat.le_of_ble_eq_true rfl, Nat.le_of_ble_eq_true rfl⟩ 10 rfl [0] rfl (by decide) rfl hP hD hS hl.1 rfl (Nat.le_of_ble_eq_true rfl) dX6_tune_8 ⟨Nat.zero_le _, Nat.zero_le _⟩) hA hP hD hS (isC := [0]) rfl [] [0] (br := []) (bs2 := fun _ => [moC E b (if fTune g p0 p1 = 0 then upn (upn z 0 0) 7 (g 3 (tn p0)) else (upn z 0 0)) (if fTune g p0 p1 = 0 then up2 g 3 (tn p0) (tn p1) else g) (upa gs 0 g) ar]) rfl (by decide) (fun _ => rfl) (by decide) (fun r u H locs hw hP hD hS => ?_)
  subst hw
  refine run_i (S := Unit) (run_V (As := [.int (nI (fTune g p0 p1))]) (rest := []) (bs := [moC E b (if fTune g p0 p1 = 0 then upn (upn z 0 0) 7 (g 3 (tn p0)) else (upn z 0 0)) (if fTune g p0 p1 = 0 then up2 g 3 (tn p0) (tn p1) else g) (upa gs 0 g) ar]) (cb := [moC E b (if fTune g p0 p1 = 0 then upn (upn z 0 0) 7 (g 3 (tn p0)) else (upn z 0 0)) (if fTune g p0 p1 = 0 then up2 g 3 (tn p0) (tn p1) else g) (upa gs 0 g) ar]) hx hb hml hown hts hK hZ hA (c_X6_ends l E _ b (if fTune g p0 p1 = 0 then upn (upn z 0 0) 7 (g 3 (tn p0)) else (upn z 0 0)) (if fTune g p0 p1 = 0 then up2 g 3 (tn p0) (tn p1) else g) (upa gs 0 g) ar  (fTune g p0 p1) (ite1 hk hk) (by omega)) l_X6_112 rfl ⟨⟨rfl, rfl⟩, Nat.le_of_ble_eq_true rfl, Nat.le_of_ble_eq_true rfl⟩ 10 rfl [0] rfl (by decide) rfl hP hD hS hl.1 rfl (Nat.le_of_ble_eq_true rfl) dX6_tune_11 ⟨Nat.zero_le _, Nat.zero_le _⟩) hA hP hD hS (isC := [0]) rfl [] [0] (br := []) (bs2 := fun _ => [moC E b (if (fTune g p0 p1) = 0 then upn (if fTune g p0 p1 = 0 then upn (upn z 0 0) 7 (g 3 (tn p0)) else (upn z 0 0)) 1 (chK ((if fTune g p0 p1 = 0 then upn (upn z 0 0) 7 (g 3 (tn p0)) else (upn z 0 0)) 1)) else upn (if fTune g p0 p1 = 0 then upn (upn z 0 0) 7 (g 3 (tn p0)) else (upn z 0 0)) 0 (fTune g p0 p1)) (if fTune g p0 p1 = 0 then up2 g 3 (tn p0) (tn p1) else g) (if (fTune g p0 p1) = 0 then chS ((if fTune g p0 p1 = 0 then upn (upn z 0 0) 7 (g 3 (tn p0)) else (upn z 0 0)) 1) (upa gs 0 g) else (upa gs 0 g)) ar]) rfl (by decide) (fun _ => rfl) (by decide) (fun r u H locs hw hP hD hS => ?_)
  subst hw
  have hmE : moC E b (if (fTune g p0 p1) = 0 then upn (if fTune g p0 p1 = 0 then upn (upn z 0 0) 7 (g 3 (tn p0)) else (upn z 0 0)) 1 (chK ((if fTune g p0 p1 = 0 then upn (upn z 0 0) 7 (g 3 (tn p0)) else (upn z 0 0)) 1)) else upn (if fTune g p0 p1 = 0 then upn (upn z 0 0) 7 (g 3 (tn p0)) else (upn z 0 0)) 0 (fTune g p0 p1)) (if fTune g p0 p1 = 0 then up2 g 3 (tn p0) (tn p1) else g) (if (fTune g p0 p1) = 0 then chS ((if fTune g p0 p1 = 0 then upn (upn z 0 0) 7 (g 3 (tn p0)) else (upn z 0 0)) 1) (upa gs 0 g) else (upa gs 0 g)) ar = moC E b (mchZ (fTune g p0 p1) 0 (g 3 (tn p0)) z) (if fTune g p0 p1 = 0 then up2 g 3 (tn p0) (tn p1) else g) (mchS (fTune g p0 p1) (z 1) g gs) ar := by
    unfold mchZ mchS
    by_cases hF : fTune g p0 p1 = 0
    · rw [hF]; rfl
    · have hF2 : ¬ (fTune g p0 p1 = 0) := by omega
      simp only [if_neg hF, if_neg hF2, Nat.sub_zero]
  rw [hmE] at hP hD; clear hmE
  have hrE : nI (if (fTune g p0 p1) = 0 then (if fTune g p0 p1 = 0 then upn (upn z 0 0) 7 (g 3 (tn p0)) else (upn z 0 0)) 7 else 0) = nI (if fTune g p0 p1 = 0 then g 3 (tn p0) else 0) := by
    by_cases hF : fTune g p0 p1 = 0
    · rw [hF]; rfl
    · have hF2 : ¬ (fTune g p0 p1 = 0) := by omega
      simp only [if_neg hF, if_neg hF2, Nat.sub_zero]
  exact hret _ _ (nI (if (fTune g p0 p1) = 0 then (if fTune g p0 p1 = 0 then upn (upn z 0 0) 7 (g 3 (tn p0)) else (upn z 0 0)) 7 else 0)) () _ _ hP hD hS rfl hrE dX6_tune_14
abbrev rm_X6_buyShares : Room := { frames := 3, cells := 0, slots := 0, locals := 65 }
set_option maxHeartbeats 4000000 in
set_option maxRecDepth 100000 in
theorem c_X6_buyShares (l : Launch) (E : EE) (sz : Nat) (b : Nat → Nat) (z : Nat → Nat) (g : GG) (gs : Nat → GG) (ar : GG) (hk : z 1 ≤ 8) (B : Nat) (hI : IB B g) (p0 p1 : Int32)  : MI l yX6_buyShares cX6_buyShares 3 .int rm_X6_buyShares [.ref (b 0), .int p0, .int p1] E sz [moC E b z g gs ar] (fun (r : Int32) (_ : Unit) => r = nI (if fBuy g p0 p1 = 0 then g 0 (tn p0) + tn p1 else 0)) (fun _ => [moC E b (mchZ (fBuy g p0 p1) 0 (g 0 (tn p0) + tn p1) z) (if fBuy g p0 p1 = 0 then buyG g (tn p0) (tn p1) else g) (mchS (fBuy g p0 p1) (z 1) g gs) ar]) 0 0 := by
  refine mi_go (by decide) (Nat.le_of_ble_eq_true rfl) ?_
  intro p e s m below meth c A Q ls hx hb hml hown hts hK hZ hA hsz hP hD hl hret
  have hS : va_S A s.heap s.heap [] := va_S.rf
  have hl : lv_has ls 3 [(0, .ref (b 0)), (1, .int p0), (2, .int p1)] := hl
  skip
  have hmc := hI.mc
  have hbu := hI.bud
  have hFv : fBuy g p0 p1 = 0 ∨ 0 < fBuy g p0 p1 := by simp only [fBuy]; (repeat' split) <;> omega
  have hFm : fBuy g p0 p1 < 9 := by simp only [fBuy]; (repeat' split) <;> omega
  refine lv_aload_n hx hb dX6_buyShares_0 rfl (lv_at hl 0 rfl) ?_
  refine run_v (S := Unit) (run_V (As := []) (rest := []) (bs := [moC E b z g gs ar]) (cb := [moC E b z g gs ar]) hx hb hml hown hts hK hZ hA (c_X6_remembers l E _ b z g gs ar   ) l_X6_105 rfl ⟨⟨rfl, rfl⟩, Nat.le_of_ble_eq_true rfl, Nat.le_of_ble_eq_true rfl⟩ 10 rfl [0] rfl (by decide) rfl hP hD hS hl.1 rfl (Nat.le_of_ble_eq_true rfl) dX6_buyShares_1 ⟨Nat.zero_le _, Nat.zero_le _⟩) hA hP hD hS (isC := [0]) rfl [] [0] (br := []) (bs2 := fun _ => [moC E b (upn z 0 0) g (upa gs 0 g) ar]) rfl (by decide) (fun _ => rfl) (by decide) (fun u H locs hw hP hD hS => ?_)
  refine lv_aload_n hx hb dX6_buyShares_4 rfl (lv_at hl 0 rfl) ?_
  refine lv_aload_n hx hb dX6_buyShares_5 rfl (lv_at hl 0 rfl) ?_
  refine lv_iload_n hx hb dX6_buyShares_6 rfl (lv_at hl 1 rfl) ?_
  refine lv_iload_n hx hb dX6_buyShares_7 rfl (lv_at hl 2 rfl) ?_
  refine run_i (S := Unit) (run_V (As := [.int p0, .int p1]) (rest := [.ref (b 0)]) (bs := [moC E b (upn z 0 0) g (upa gs 0 g) ar]) (cb := [moC E b (upn z 0 0) g (upa gs 0 g) ar]) hx hb hml hown hts hK hZ hA (c_X6_buys l E _ b (upn z 0 0) g (upa gs 0 g) ar _ hI p0 p1 ) l_X6_121 rfl ⟨⟨rfl, rfl⟩, Nat.le_of_ble_eq_true rfl, Nat.le_of_ble_eq_true rfl⟩ 10 rfl [0] rfl (by decide) rfl hP hD hS hl.1 rfl (Nat.le_of_ble_eq_true rfl) dX6_buyShares_8 ⟨Nat.zero_le _, Nat.zero_le _⟩) hA hP hD hS (isC := [0]) rfl [] [0] (br := []) (bs2 := fun _ => [moC E b (if fBuy g p0 p1 = 0 then upn (upn z 0 0) 7 (g 0 (tn p0) + tn p1) else (upn z 0 0)) (if fBuy g p0 p1 = 0 then buyG g (tn p0) (tn p1) else g) (upa gs 0 g) ar]) rfl (by decide) (fun _ => rfl) (by decide) (fun r u H locs hw hP hD hS => ?_)
  subst hw
  refine run_i (S := Unit) (run_V (As := [.int (nI (fBuy g p0 p1))]) (rest := []) (bs := [moC E b (if fBuy g p0 p1 = 0 then upn (upn z 0 0) 7 (g 0 (tn p0) + tn p1) else (upn z 0 0)) (if fBuy g p0 p1 = 0 then buyG g (tn p0) (tn p1) else g) (upa gs 0 g) ar]) (cb := [moC E b (if fBuy g p0 p1 = 0 then upn (upn z 0 0) 7 (g 0 (tn p0) + tn p1) else (upn z 0 0)) (if fBuy g p0 p1 = 0 then buyG g (tn p0) (tn p1) else g) (upa gs 0 g) ar]) hx hb hml hown hts hK hZ hA (c_X6_ends l E _ b (if fBuy g p0 p1 = 0 then upn (upn z 0 0) 7 (g 0 (tn p0) + tn p1) else (upn z 0 0)) (if fBuy g p0 p1 = 0 then buyG g (tn p0) (tn p1) else g) (upa gs 0 g) ar  (fBuy g p0 p1) (ite1 hk hk) (by omega)) l_X6_112 rfl ⟨⟨rfl, rfl⟩, Nat.le_of_ble_eq_true rfl, Nat.le_of_ble_eq_true rfl⟩ 10 rfl [0] rfl (by decide) rfl hP hD hS hl.1 rfl (Nat.le_of_ble_eq_true rfl) dX6_buyShares_11 ⟨Nat.zero_le _, Nat.zero_le _⟩) hA hP hD hS (isC := [0]) rfl [] [0] (br := []) (bs2 := fun _ => [moC E b (if (fBuy g p0 p1) = 0 then upn (if fBuy g p0 p1 = 0 then upn (upn z 0 0) 7 (g 0 (tn p0) + tn p1) else (upn z 0 0)) 1 (chK ((if fBuy g p0 p1 = 0 then upn (upn z 0 0) 7 (g 0 (tn p0) + tn p1) else (upn z 0 0)) 1)) else upn (if fBuy g p0 p1 = 0 then upn (upn z 0 0) 7 (g 0 (tn p0) + tn p1) else (upn z 0 0)) 0 (fBuy g p0 p1)) (if fBuy g p0 p1 = 0 then buyG g (tn p0) (tn p1) else g) (if (fBuy g p0 p1) = 0 then chS ((if fBuy g p0 p1 = 0 then upn (upn z 0 0) 7 (g 0 (tn p0) + tn p1) else (upn z 0 0)) 1) (upa gs 0 g) else (upa gs 0 g)) ar]) rfl (by decide) (fun _ => rfl) (by decide) (fun r u H locs hw hP hD hS => ?_)
  subst hw
  have hmE : moC E b (if (fBuy g p0 p1) = 0 then upn (if fBuy g p0 p1 = 0 then upn (upn z 0 0) 7 (g 0 (tn p0) + tn p1) else (upn z 0 0)) 1 (chK ((if fBuy g p0 p1 = 0 then upn (upn z 0 0) 7 (g 0 (tn p0) + tn p1) else (upn z 0 0)) 1)) else upn (if fBuy g p0 p1 = 0 then upn (upn z 0 0) 7 (g 0 (tn p0) + tn p1) else (upn z 0 0)) 0 (fBuy g p0 p1)) (if fBuy g p0 p1 = 0 then buyG g (tn p0) (tn p1) else g) (if (fBuy g p0 p1) = 0 then chS ((if fBuy g p0 p1 = 0 then upn (upn z 0 0) 7 (g 0 (tn p0) + tn p1) else (upn z 0 0)) 1) (upa gs 0 g) else (upa gs 0 g)) ar = moC E b (mchZ (fBuy g p0 p1) 0 (g 0 (tn p0) + tn p1) z) (if fBuy g p0 p1 = 0 then buyG g (tn p0) (tn p1) else g) (mchS (fBuy g p0 p1) (z 1) g gs) ar := by
    unfold mchZ mchS
    by_cases hF : fBuy g p0 p1 = 0
    · rw [hF]; rfl
    · have hF2 : ¬ (fBuy g p0 p1 = 0) := by omega
      simp only [if_neg hF, if_neg hF2, Nat.sub_zero]
  rw [hmE] at hP hD; clear hmE
  have hrE : nI (if (fBuy g p0 p1) = 0 then (if fBuy g p0 p1 = 0 then upn (upn z 0 0) 7 (g 0 (tn p0) + tn p1) else (upn z 0 0)) 7 else 0) = nI (if fBuy g p0 p1 = 0 then g 0 (tn p0) + tn p1 else 0) := by
    by_cases hF : fBuy g p0 p1 = 0
    · rw [hF]; rfl
    · have hF2 : ¬ (fBuy g p0 p1 = 0) := by omega
      simp only [if_neg hF, if_neg hF2, Nat.sub_zero]
  exact hret _ _ (nI (if (fBuy g p0 p1) = 0 then (if fBuy g p0 p1 = 0 then upn (upn z 0 0) 7 (g 0 (tn p0) + tn p1) else (upn z 0 0)) 7 else 0)) () _ _ hP hD hS rfl hrE dX6_buyShares_14
abbrev rm_X6_passBeats : Room := { frames := 4, cells := 0, slots := 0, locals := 92 }
set_option maxHeartbeats 4000000 in
set_option maxRecDepth 100000 in
theorem c_X6_passBeats (l : Launch) (E : EE) (sz : Nat) (b : Nat → Nat) (z : Nat → Nat) (g : GG) (gs : Nat → GG) (ar : GG) (hk : z 1 ≤ 8) (B : Nat) (hI : IB B g) (hB : B + 60 ≤ 300000) (p0 : Int32)  : MI l yX6_passBeats cX6_passBeats 2 .int rm_X6_passBeats [.ref (b 0), .int p0] E sz [moC E b z g gs ar] (fun (r : Int32) (_ : Unit) => r = nI (if fPass p0 = 0 then passN g (tn p0) else 0)) (fun _ => [moC E b (mchZ (fPass p0) 1 (passN g (tn p0)) z) (if fPass p0 = 0 then passG g (tn p0) else g) (mchS (fPass p0) (z 1) g gs) ar]) 0 0 := by
  refine mi_go (by decide) (Nat.le_of_ble_eq_true rfl) ?_
  intro p e s m below meth c A Q ls hx hb hml hown hts hK hZ hA hsz hP hD hl hret
  have hS : va_S A s.heap s.heap [] := va_S.rf
  have hl : lv_has ls 2 [(0, .ref (b 0)), (1, .int p0)] := hl
  skip
  have hmc := hI.mc
  have hbu := hI.bud
  have hFv : fPass p0 = 0 ∨ 1 < fPass p0 := by simp only [fPass]; (repeat' split) <;> omega
  have hFm : fPass p0 < 9 := by simp only [fPass]; (repeat' split) <;> omega
  refine lv_aload_n hx hb dX6_passBeats_0 rfl (lv_at hl 0 rfl) ?_
  refine run_v (S := Unit) (run_V (As := []) (rest := []) (bs := [moC E b z g gs ar]) (cb := [moC E b z g gs ar]) hx hb hml hown hts hK hZ hA (c_X6_remembers l E _ b z g gs ar   ) l_X6_105 rfl ⟨⟨rfl, rfl⟩, Nat.le_of_ble_eq_true rfl, Nat.le_of_ble_eq_true rfl⟩ 10 rfl [0] rfl (by decide) rfl hP hD hS hl.1 rfl (Nat.le_of_ble_eq_true rfl) dX6_passBeats_1 ⟨Nat.zero_le _, Nat.zero_le _⟩) hA hP hD hS (isC := [0]) rfl [] [0] (br := []) (bs2 := fun _ => [moC E b (upn z 0 0) g (upa gs 0 g) ar]) rfl (by decide) (fun _ => rfl) (by decide) (fun u H locs hw hP hD hS => ?_)
  refine lv_aload_n hx hb dX6_passBeats_4 rfl (lv_at hl 0 rfl) ?_
  refine lv_aload_n hx hb dX6_passBeats_5 rfl (lv_at hl 0 rfl) ?_
  refine lv_iload_n hx hb dX6_passBeats_6 rfl (lv_at hl 1 rfl) ?_
  refine run_i (S := Unit) (run_V (As := [.int p0]) (rest := [.ref (b 0)]) (bs := [moC E b (upn z 0 0) g (upa gs 0 g) ar]) (cb := [moC E b (upn z 0 0) g (upa gs 0 g) ar]) hx hb hml hown hts hK hZ hA (c_X6_passes l E _ b (upn z 0 0) g (upa gs 0 g) ar _ hI p0 (by omega)) l_X6_124 rfl ⟨⟨rfl, rfl⟩, Nat.le_of_ble_eq_true rfl, Nat.le_of_ble_eq_true rfl⟩ 10 rfl [0] rfl (by decide) rfl hP hD hS hl.1 rfl (Nat.le_of_ble_eq_true rfl) dX6_passBeats_7 ⟨Nat.zero_le _, Nat.zero_le _⟩) hA hP hD hS (isC := [0]) rfl [] [0] (br := []) (bs2 := fun _ => [moC E b (if fPass p0 = 0 then upn (upn z 0 0) 7 (passN g (tn p0)) else (upn z 0 0)) (if fPass p0 = 0 then passG g (tn p0) else g) (upa gs 0 g) ar]) rfl (by decide) (fun _ => rfl) (by decide) (fun r u H locs hw hP hD hS => ?_)
  subst hw
  refine run_i (S := Unit) (run_V (As := [.int (nI (fPass p0 - 1))]) (rest := []) (bs := [moC E b (if fPass p0 = 0 then upn (upn z 0 0) 7 (passN g (tn p0)) else (upn z 0 0)) (if fPass p0 = 0 then passG g (tn p0) else g) (upa gs 0 g) ar]) (cb := [moC E b (if fPass p0 = 0 then upn (upn z 0 0) 7 (passN g (tn p0)) else (upn z 0 0)) (if fPass p0 = 0 then passG g (tn p0) else g) (upa gs 0 g) ar]) hx hb hml hown hts hK hZ hA (c_X6_ends l E _ b (if fPass p0 = 0 then upn (upn z 0 0) 7 (passN g (tn p0)) else (upn z 0 0)) (if fPass p0 = 0 then passG g (tn p0) else g) (upa gs 0 g) ar  (fPass p0 - 1) (ite1 hk hk) (by omega)) l_X6_112 rfl ⟨⟨rfl, rfl⟩, Nat.le_of_ble_eq_true rfl, Nat.le_of_ble_eq_true rfl⟩ 10 rfl [0] rfl (by decide) rfl hP hD hS hl.1 rfl (Nat.le_of_ble_eq_true rfl) dX6_passBeats_10 ⟨Nat.zero_le _, Nat.zero_le _⟩) hA hP hD hS (isC := [0]) rfl [] [0] (br := []) (bs2 := fun _ => [moC E b (if (fPass p0 - 1) = 0 then upn (if fPass p0 = 0 then upn (upn z 0 0) 7 (passN g (tn p0)) else (upn z 0 0)) 1 (chK ((if fPass p0 = 0 then upn (upn z 0 0) 7 (passN g (tn p0)) else (upn z 0 0)) 1)) else upn (if fPass p0 = 0 then upn (upn z 0 0) 7 (passN g (tn p0)) else (upn z 0 0)) 0 (fPass p0 - 1)) (if fPass p0 = 0 then passG g (tn p0) else g) (if (fPass p0 - 1) = 0 then chS ((if fPass p0 = 0 then upn (upn z 0 0) 7 (passN g (tn p0)) else (upn z 0 0)) 1) (upa gs 0 g) else (upa gs 0 g)) ar]) rfl (by decide) (fun _ => rfl) (by decide) (fun r u H locs hw hP hD hS => ?_)
  subst hw
  have hmE : moC E b (if (fPass p0 - 1) = 0 then upn (if fPass p0 = 0 then upn (upn z 0 0) 7 (passN g (tn p0)) else (upn z 0 0)) 1 (chK ((if fPass p0 = 0 then upn (upn z 0 0) 7 (passN g (tn p0)) else (upn z 0 0)) 1)) else upn (if fPass p0 = 0 then upn (upn z 0 0) 7 (passN g (tn p0)) else (upn z 0 0)) 0 (fPass p0 - 1)) (if fPass p0 = 0 then passG g (tn p0) else g) (if (fPass p0 - 1) = 0 then chS ((if fPass p0 = 0 then upn (upn z 0 0) 7 (passN g (tn p0)) else (upn z 0 0)) 1) (upa gs 0 g) else (upa gs 0 g)) ar = moC E b (mchZ (fPass p0) 1 (passN g (tn p0)) z) (if fPass p0 = 0 then passG g (tn p0) else g) (mchS (fPass p0) (z 1) g gs) ar := by
    unfold mchZ mchS
    by_cases hF : fPass p0 = 0
    · rw [hF]; rfl
    · have hF2 : ¬ (fPass p0 - 1 = 0) := by omega
      simp only [if_neg hF, if_neg hF2, Nat.sub_zero]
  rw [hmE] at hP hD; clear hmE
  have hrE : nI (if (fPass p0 - 1) = 0 then (if fPass p0 = 0 then upn (upn z 0 0) 7 (passN g (tn p0)) else (upn z 0 0)) 7 else 0) = nI (if fPass p0 = 0 then passN g (tn p0) else 0) := by
    by_cases hF : fPass p0 = 0
    · rw [hF]; rfl
    · have hF2 : ¬ (fPass p0 - 1 = 0) := by omega
      simp only [if_neg hF, if_neg hF2, Nat.sub_zero]
  exact hret _ _ (nI (if (fPass p0 - 1) = 0 then (if fPass p0 = 0 then upn (upn z 0 0) 7 (passN g (tn p0)) else (upn z 0 0)) 7 else 0)) () _ _ hP hD hS rfl hrE dX6_passBeats_13
abbrev rm_X6_endQuarter : Room := { frames := 4, cells := 0, slots := 0, locals := 93 }
set_option maxHeartbeats 4000000 in
set_option maxRecDepth 100000 in
theorem c_X6_endQuarter (l : Launch) (E : EE) (sz : Nat) (b : Nat → Nat) (z : Nat → Nat) (g : GG) (gs : Nat → GG) (ar : GG) (hk : z 1 ≤ 8) (B : Nat) (hI : IB B g)  : MI l yX6_endQuarter cX6_endQuarter 1 .int rm_X6_endQuarter [.ref (b 0)] E sz [moC E b z g gs ar] (fun (r : Int32) (_ : Unit) => r = nI (if fPay g = 0 then g 8 2 else 0)) (fun _ => [moC E b (mchZ (fPay g) 2 (g 8 2) z) (if fPay g = 0 then payG g else g) (mchS (fPay g) (z 1) g gs) ar]) 0 0 := by
  refine mi_go (by decide) (Nat.le_of_ble_eq_true rfl) ?_
  intro p e s m below meth c A Q ls hx hb hml hown hts hK hZ hA hsz hP hD hl hret
  have hS : va_S A s.heap s.heap [] := va_S.rf
  have hl : lv_has ls 1 [(0, .ref (b 0))] := hl
  skip
  have hmc := hI.mc
  have hbu := hI.bud
  have hFv : fPay g = 0 ∨ 2 < fPay g := by simp only [fPay]; (repeat' split) <;> omega
  have hFm : fPay g < 9 := by simp only [fPay]; (repeat' split) <;> omega
  refine lv_aload_n hx hb dX6_endQuarter_0 rfl (lv_at hl 0 rfl) ?_
  refine run_v (S := Unit) (run_V (As := []) (rest := []) (bs := [moC E b z g gs ar]) (cb := [moC E b z g gs ar]) hx hb hml hown hts hK hZ hA (c_X6_remembers l E _ b z g gs ar   ) l_X6_105 rfl ⟨⟨rfl, rfl⟩, Nat.le_of_ble_eq_true rfl, Nat.le_of_ble_eq_true rfl⟩ 10 rfl [0] rfl (by decide) rfl hP hD hS hl.1 rfl (Nat.le_of_ble_eq_true rfl) dX6_endQuarter_1 ⟨Nat.zero_le _, Nat.zero_le _⟩) hA hP hD hS (isC := [0]) rfl [] [0] (br := []) (bs2 := fun _ => [moC E b (upn z 0 0) g (upa gs 0 g) ar]) rfl (by decide) (fun _ => rfl) (by decide) (fun u H locs hw hP hD hS => ?_)
  refine lv_aload_n hx hb dX6_endQuarter_4 rfl (lv_at hl 0 rfl) ?_
  refine lv_aload_n hx hb dX6_endQuarter_5 rfl (lv_at hl 0 rfl) ?_
  refine run_i (S := Unit) (run_V (As := []) (rest := [.ref (b 0)]) (bs := [moC E b (upn z 0 0) g (upa gs 0 g) ar]) (cb := [moC E b (upn z 0 0) g (upa gs 0 g) ar]) hx hb hml hown hts hK hZ hA (c_X6_pays l E _ b (upn z 0 0) g (upa gs 0 g) ar _ hI  ) l_X6_127 rfl ⟨⟨rfl, rfl⟩, Nat.le_of_ble_eq_true rfl, Nat.le_of_ble_eq_true rfl⟩ 10 rfl [0] rfl (by decide) rfl hP hD hS hl.1 rfl (Nat.le_of_ble_eq_true rfl) dX6_endQuarter_6 ⟨Nat.zero_le _, Nat.zero_le _⟩) hA hP hD hS (isC := [0]) rfl [] [0] (br := []) (bs2 := fun _ => [moC E b (if fPay g = 0 then upn (upn z 0 0) 7 (g 8 2) else (upn z 0 0)) (if fPay g = 0 then payG g else g) (upa gs 0 g) ar]) rfl (by decide) (fun _ => rfl) (by decide) (fun r u H locs hw hP hD hS => ?_)
  subst hw
  refine run_i (S := Unit) (run_V (As := [.int (nI (fPay g - 2))]) (rest := []) (bs := [moC E b (if fPay g = 0 then upn (upn z 0 0) 7 (g 8 2) else (upn z 0 0)) (if fPay g = 0 then payG g else g) (upa gs 0 g) ar]) (cb := [moC E b (if fPay g = 0 then upn (upn z 0 0) 7 (g 8 2) else (upn z 0 0)) (if fPay g = 0 then payG g else g) (upa gs 0 g) ar]) hx hb hml hown hts hK hZ hA (c_X6_ends l E _ b (if fPay g = 0 then upn (upn z 0 0) 7 (g 8 2) else (upn z 0 0)) (if fPay g = 0 then payG g else g) (upa gs 0 g) ar  (fPay g - 2) (ite1 hk hk) (by omega)) l_X6_112 rfl ⟨⟨rfl, rfl⟩, Nat.le_of_ble_eq_true rfl, Nat.le_of_ble_eq_true rfl⟩ 10 rfl [0] rfl (by decide) rfl hP hD hS hl.1 rfl (Nat.le_of_ble_eq_true rfl) dX6_endQuarter_9 ⟨Nat.zero_le _, Nat.zero_le _⟩) hA hP hD hS (isC := [0]) rfl [] [0] (br := []) (bs2 := fun _ => [moC E b (if (fPay g - 2) = 0 then upn (if fPay g = 0 then upn (upn z 0 0) 7 (g 8 2) else (upn z 0 0)) 1 (chK ((if fPay g = 0 then upn (upn z 0 0) 7 (g 8 2) else (upn z 0 0)) 1)) else upn (if fPay g = 0 then upn (upn z 0 0) 7 (g 8 2) else (upn z 0 0)) 0 (fPay g - 2)) (if fPay g = 0 then payG g else g) (if (fPay g - 2) = 0 then chS ((if fPay g = 0 then upn (upn z 0 0) 7 (g 8 2) else (upn z 0 0)) 1) (upa gs 0 g) else (upa gs 0 g)) ar]) rfl (by decide) (fun _ => rfl) (by decide) (fun r u H locs hw hP hD hS => ?_)
  subst hw
  have hmE : moC E b (if (fPay g - 2) = 0 then upn (if fPay g = 0 then upn (upn z 0 0) 7 (g 8 2) else (upn z 0 0)) 1 (chK ((if fPay g = 0 then upn (upn z 0 0) 7 (g 8 2) else (upn z 0 0)) 1)) else upn (if fPay g = 0 then upn (upn z 0 0) 7 (g 8 2) else (upn z 0 0)) 0 (fPay g - 2)) (if fPay g = 0 then payG g else g) (if (fPay g - 2) = 0 then chS ((if fPay g = 0 then upn (upn z 0 0) 7 (g 8 2) else (upn z 0 0)) 1) (upa gs 0 g) else (upa gs 0 g)) ar = moC E b (mchZ (fPay g) 2 (g 8 2) z) (if fPay g = 0 then payG g else g) (mchS (fPay g) (z 1) g gs) ar := by
    unfold mchZ mchS
    by_cases hF : fPay g = 0
    · rw [hF]; rfl
    · have hF2 : ¬ (fPay g - 2 = 0) := by omega
      simp only [if_neg hF, if_neg hF2, Nat.sub_zero]
  rw [hmE] at hP hD; clear hmE
  have hrE : nI (if (fPay g - 2) = 0 then (if fPay g = 0 then upn (upn z 0 0) 7 (g 8 2) else (upn z 0 0)) 7 else 0) = nI (if fPay g = 0 then g 8 2 else 0) := by
    by_cases hF : fPay g = 0
    · rw [hF]; rfl
    · have hF2 : ¬ (fPay g - 2 = 0) := by omega
      simp only [if_neg hF, if_neg hF2, Nat.sub_zero]
  exact hret _ _ (nI (if (fPay g - 2) = 0 then (if fPay g = 0 then upn (upn z 0 0) 7 (g 8 2) else (upn z 0 0)) 7 else 0)) () _ _ hP hD hS rfl hrE dX6_endQuarter_12
abbrev rm_X6_vote : Room := { frames := 4, cells := 0, slots := 0, locals := 87 }
set_option maxHeartbeats 4000000 in
set_option maxRecDepth 100000 in
theorem c_X6_vote (l : Launch) (E : EE) (sz : Nat) (b : Nat → Nat) (z : Nat → Nat) (g : GG) (gs : Nat → GG) (ar : GG) (hk : z 1 ≤ 8) (B : Nat) (hI : IB B g) (p0 p1 : Int32)  : MI l yX6_vote cX6_vote 3 .boolean rm_X6_vote [.ref (b 0), .int p0, .int p1] E sz [moC E b z g gs ar] (fun (r : Int32) (_ : Unit) => r = bI (decide (voR g p0 p1 = 1))) (fun _ => [moC E b (mchZ (fMot p0 p1) 1 (aVot g (tn p0) (tn p1)) z) (if fMot p0 p1 = 0 then voteG g (tn p0) (tn p1) else g) (mchS (fMot p0 p1) (z 1) g gs) ar]) 0 0 := by
  refine mi_go (by decide) (Nat.le_of_ble_eq_true rfl) ?_
  intro p e s m below meth c A Q ls hx hb hml hown hts hK hZ hA hsz hP hD hl hret
  have hS : va_S A s.heap s.heap [] := va_S.rf
  have hl : lv_has ls 3 [(0, .ref (b 0)), (1, .int p0), (2, .int p1)] := hl
  skip
  have hmc := hI.mc
  have hbu := hI.bud
  have hFv : fMot p0 p1 = 0 ∨ 1 < fMot p0 p1 := by simp only [fMot]; (repeat' split) <;> omega
  have hFm : fMot p0 p1 < 9 := by simp only [fMot]; (repeat' split) <;> omega
  refine lv_aload_n hx hb dX6_vote_0 rfl (lv_at hl 0 rfl) ?_
  refine run_v (S := Unit) (run_V (As := []) (rest := []) (bs := [moC E b z g gs ar]) (cb := [moC E b z g gs ar]) hx hb hml hown hts hK hZ hA (c_X6_remembers l E _ b z g gs ar   ) l_X6_105 rfl ⟨⟨rfl, rfl⟩, Nat.le_of_ble_eq_true rfl, Nat.le_of_ble_eq_true rfl⟩ 10 rfl [0] rfl (by decide) rfl hP hD hS hl.1 rfl (Nat.le_of_ble_eq_true rfl) dX6_vote_1 ⟨Nat.zero_le _, Nat.zero_le _⟩) hA hP hD hS (isC := [0]) rfl [] [0] (br := []) (bs2 := fun _ => [moC E b (upn z 0 0) g (upa gs 0 g) ar]) rfl (by decide) (fun _ => rfl) (by decide) (fun u H locs hw hP hD hS => ?_)
  refine lv_aload_n hx hb dX6_vote_4 rfl (lv_at hl 0 rfl) ?_
  refine lv_aload_n hx hb dX6_vote_5 rfl (lv_at hl 0 rfl) ?_
  refine lv_iload_n hx hb dX6_vote_6 rfl (lv_at hl 1 rfl) ?_
  refine lv_iload_n hx hb dX6_vote_7 rfl (lv_at hl 2 rfl) ?_
  refine run_i (S := Unit) (run_V (As := [.int p0, .int p1]) (rest := [.ref (b 0)]) (bs := [moC E b (upn z 0 0) g (upa gs 0 g) ar]) (cb := [moC E b (upn z 0 0) g (upa gs 0 g) ar]) hx hb hml hown hts hK hZ hA (c_X6_votes l E _ b (upn z 0 0) g (upa gs 0 g) ar _ hI p0 p1 ) l_X6_130 rfl ⟨⟨rfl, rfl⟩, Nat.le_of_ble_eq_true rfl, Nat.le_of_ble_eq_true rfl⟩ 10 rfl [0] rfl (by decide) rfl hP hD hS hl.1 rfl (Nat.le_of_ble_eq_true rfl) dX6_vote_8 ⟨Nat.zero_le _, Nat.zero_le _⟩) hA hP hD hS (isC := [0]) rfl [] [0] (br := []) (bs2 := fun _ => [moC E b (if fMot p0 p1 = 0 then upn (upn z 0 0) 7 (aVot g (tn p0) (tn p1)) else (upn z 0 0)) (if fMot p0 p1 = 0 then voteG g (tn p0) (tn p1) else g) (upa gs 0 g) ar]) rfl (by decide) (fun _ => rfl) (by decide) (fun r u H locs hw hP hD hS => ?_)
  subst hw
  refine run_i (S := Unit) (run_V (As := [.int (nI (fMot p0 p1 - 1))]) (rest := []) (bs := [moC E b (if fMot p0 p1 = 0 then upn (upn z 0 0) 7 (aVot g (tn p0) (tn p1)) else (upn z 0 0)) (if fMot p0 p1 = 0 then voteG g (tn p0) (tn p1) else g) (upa gs 0 g) ar]) (cb := [moC E b (if fMot p0 p1 = 0 then upn (upn z 0 0) 7 (aVot g (tn p0) (tn p1)) else (upn z 0 0)) (if fMot p0 p1 = 0 then voteG g (tn p0) (tn p1) else g) (upa gs 0 g) ar]) hx hb hml hown hts hK hZ hA (c_X6_ends l E _ b (if fMot p0 p1 = 0 then upn (upn z 0 0) 7 (aVot g (tn p0) (tn p1)) else (upn z 0 0)) (if fMot p0 p1 = 0 then voteG g (tn p0) (tn p1) else g) (upa gs 0 g) ar  (fMot p0 p1 - 1) (ite1 hk hk) (by omega)) l_X6_112 rfl ⟨⟨rfl, rfl⟩, Nat.le_of_ble_eq_true rfl, Nat.le_of_ble_eq_true rfl⟩ 10 rfl [0] rfl (by decide) rfl hP hD hS hl.1 rfl (Nat.le_of_ble_eq_true rfl) dX6_vote_11 ⟨Nat.zero_le _, Nat.zero_le _⟩) hA hP hD hS (isC := [0]) rfl [] [0] (br := []) (bs2 := fun _ => [moC E b (if (fMot p0 p1 - 1) = 0 then upn (if fMot p0 p1 = 0 then upn (upn z 0 0) 7 (aVot g (tn p0) (tn p1)) else (upn z 0 0)) 1 (chK ((if fMot p0 p1 = 0 then upn (upn z 0 0) 7 (aVot g (tn p0) (tn p1)) else (upn z 0 0)) 1)) else upn (if fMot p0 p1 = 0 then upn (upn z 0 0) 7 (aVot g (tn p0) (tn p1)) else (upn z 0 0)) 0 (fMot p0 p1 - 1)) (if fMot p0 p1 = 0 then voteG g (tn p0) (tn p1) else g) (if (fMot p0 p1 - 1) = 0 then chS ((if fMot p0 p1 = 0 then upn (upn z 0 0) 7 (aVot g (tn p0) (tn p1)) else (upn z 0 0)) 1) (upa gs 0 g) else (upa gs 0 g)) ar]) rfl (by decide) (fun _ => rfl) (by decide) (fun r u H locs hw hP hD hS => ?_)
  subst hw
  refine tp_i (show nI (if (fMot p0 p1 - 1) = 0 then (if fMot p0 p1 = 0 then upn (upn z 0 0) 7 (aVot g (tn p0) (tn p1)) else (upn z 0 0)) 7 else 0) = nI (voR g p0 p1) from ?_) ?_
  · unfold voR
    by_cases hF : fMot p0 p1 = 0
    · rw [hF]; rfl
    · have hF2 : ¬ (fMot p0 p1 - 1 = 0) := by omega
      simp only [if_neg hF, if_neg hF2, Nat.sub_zero]
  have hvr := voR_le (g := g) (p0 := p0) (p1 := p1)
  refine lv_iconst (v := nI 1) hx hb dX6_vote_14 (by decide) ?_
  refine nv_icmp_ne (X := ((voR g p0 p1 : Nat) : Int)) (Y := ((1 : Nat) : Int)) hx hb (nI_toInt (by omega)) (nI_toInt (by omega)) (tgt := 22) dX6_vote_15 (by decide) (fun c_1 => ?_) (fun c_1 => ?_)
  · skip
    refine lv_iconst (v := nI 0) hx hb dX6_vote_22 (by decide) ?_
    have hmE : moC E b (if (fMot p0 p1 - 1) = 0 then upn (if fMot p0 p1 = 0 then upn (upn z 0 0) 7 (aVot g (tn p0) (tn p1)) else (upn z 0 0)) 1 (chK ((if fMot p0 p1 = 0 then upn (upn z 0 0) 7 (aVot g (tn p0) (tn p1)) else (upn z 0 0)) 1)) else upn (if fMot p0 p1 = 0 then upn (upn z 0 0) 7 (aVot g (tn p0) (tn p1)) else (upn z 0 0)) 0 (fMot p0 p1 - 1)) (if fMot p0 p1 = 0 then voteG g (tn p0) (tn p1) else g) (if (fMot p0 p1 - 1) = 0 then chS ((if fMot p0 p1 = 0 then upn (upn z 0 0) 7 (aVot g (tn p0) (tn p1)) else (upn z 0 0)) 1) (upa gs 0 g) else (upa gs 0 g)) ar = moC E b (mchZ (fMot p0 p1) 1 (aVot g (tn p0) (tn p1)) z) (if fMot p0 p1 = 0 then voteG g (tn p0) (tn p1) else g) (mchS (fMot p0 p1) (z 1) g gs) ar := by
      unfold mchZ mchS
      by_cases hF : fMot p0 p1 = 0
      · rw [hF]; rfl
      · have hF2 : ¬ (fMot p0 p1 - 1 = 0) := by omega
        simp only [if_neg hF, if_neg hF2, Nat.sub_zero]
    rw [hmE] at hP hD; clear hmE
    exact hret _ _ (nI 0) () _ _ hP hD hS (by decide) (bf_of (by omega)) dX6_vote_23
  · skip
    refine lv_iconst (v := nI 1) hx hb dX6_vote_18 (by decide) ?_
    refine lv_goto (tgt := 23) hx hb dX6_vote_19 (by decide) ?_
    have hmE : moC E b (if (fMot p0 p1 - 1) = 0 then upn (if fMot p0 p1 = 0 then upn (upn z 0 0) 7 (aVot g (tn p0) (tn p1)) else (upn z 0 0)) 1 (chK ((if fMot p0 p1 = 0 then upn (upn z 0 0) 7 (aVot g (tn p0) (tn p1)) else (upn z 0 0)) 1)) else upn (if fMot p0 p1 = 0 then upn (upn z 0 0) 7 (aVot g (tn p0) (tn p1)) else (upn z 0 0)) 0 (fMot p0 p1 - 1)) (if fMot p0 p1 = 0 then voteG g (tn p0) (tn p1) else g) (if (fMot p0 p1 - 1) = 0 then chS ((if fMot p0 p1 = 0 then upn (upn z 0 0) 7 (aVot g (tn p0) (tn p1)) else (upn z 0 0)) 1) (upa gs 0 g) else (upa gs 0 g)) ar = moC E b (mchZ (fMot p0 p1) 1 (aVot g (tn p0) (tn p1)) z) (if fMot p0 p1 = 0 then voteG g (tn p0) (tn p1) else g) (mchS (fMot p0 p1) (z 1) g gs) ar := by
      unfold mchZ mchS
      by_cases hF : fMot p0 p1 = 0
      · rw [hF]; rfl
      · have hF2 : ¬ (fMot p0 p1 - 1 = 0) := by omega
        simp only [if_neg hF, if_neg hF2, Nat.sub_zero]
    rw [hmE] at hP hD; clear hmE
    exact hret _ _ (nI 1) () _ _ hP hD hS (by decide) (bt_of (by omega)) dX6_vote_23
