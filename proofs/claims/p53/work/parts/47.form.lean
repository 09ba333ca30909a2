abbrev rm_X3_formOf : Room := { frames := 0, cells := 0, slots := 0, locals := 0 }
set_option maxHeartbeats 4000000 in
set_option maxRecDepth 100000 in
theorem c_X3_formOf (l : Launch) (E : EE) (sz : Nat) (n0 : Nat) (h : n0 ≤ 6) : MR l yX3_formOf cX3_formOf 1 (.object "java/lang/String") rm_X3_formOf [.int (nI n0)] E sz [] (E.2.2 (11 + n0)) [] 0 0 := by
  refine mr_go (by decide) (Nat.le_of_ble_eq_true rfl) (Or.inl ⟨_, rfl⟩) ?_
  intro p e s m below meth c A Q ls hx hb hml hown hts hK hZ hA hsz hP hD hl hret
  have hS : va_S A s.heap s.heap [] := va_S.rf
  refine lv_iload_n hx hb dX3_formOf_0 rfl (lv_at hl 0 rfl) ?_
  rcases (show n0 = 0 ∨ n0 = 1 ∨ n0 = 2 ∨ n0 = 3 ∨ n0 = 4 ∨ n0 = 5 ∨ n0 = 6 by omega) with rfl | rfl | rfl | rfl | rfl | rfl | rfl
  · refine lv_tableIn hx hb dX3_formOf_1 (by decide) (by decide) (off := 39) (by decide) (tgt := 40) (by decide) ?_
    refine va_ldcS hx hb hown (hZ.2.2.2.2.1 11 ("CricketCooperative$Program", 52, "join # # # #") rfl).2 dX3_formOf_40 ?_
    exact hret _ _ _ _ hP hD hS dX3_formOf_42
  · refine lv_tableIn hx hb dX3_formOf_1 (by decide) (by decide) (off := 42) (by decide) (tgt := 43) (by decide) ?_
    refine va_ldcS hx hb hown (hZ.2.2.2.2.1 12 ("CricketCooperative$Program", 54, "wind ? #") rfl).2 dX3_formOf_43 ?_
    exact hret _ _ _ _ hP hD hS dX3_formOf_45
  · refine lv_tableIn hx hb dX3_formOf_1 (by decide) (by decide) (off := 45) (by decide) (tgt := 46) (by decide) ?_
    refine va_ldcS hx hb hown (hZ.2.2.2.2.1 13 ("CricketCooperative$Program", 56, "tune ? #") rfl).2 dX3_formOf_46 ?_
    exact hret _ _ _ _ hP hD hS dX3_formOf_48
  · refine lv_tableIn hx hb dX3_formOf_1 (by decide) (by decide) (off := 48) (by decide) (tgt := 49) (by decide) ?_
    refine va_ldcS hx hb hown (hZ.2.2.2.2.1 14 ("CricketCooperative$Program", 58, "buy ? #") rfl).2 dX3_formOf_49 ?_
    exact hret _ _ _ _ hP hD hS dX3_formOf_51
  · refine lv_tableIn hx hb dX3_formOf_1 (by decide) (by decide) (off := 51) (by decide) (tgt := 52) (by decide) ?_
    refine va_ldcS hx hb hown (hZ.2.2.2.2.1 15 ("CricketCooperative$Program", 60, "beats #") rfl).2 dX3_formOf_52 ?_
    exact hret _ _ _ _ hP hD hS dX3_formOf_54
  · refine lv_tableIn hx hb dX3_formOf_1 (by decide) (by decide) (off := 54) (by decide) (tgt := 55) (by decide) ?_
    refine va_ldcS hx hb hown (hZ.2.2.2.2.1 16 ("CricketCooperative$Program", 62, "quarter") rfl).2 dX3_formOf_55 ?_
    exact hret _ _ _ _ hP hD hS dX3_formOf_57
  · refine lv_tableOut hx hb dX3_formOf_1 (by decide) (tgt := 58) (by decide) ?_
    refine va_ldcS hx hb hown (hZ.2.2.2.2.1 17 ("CricketCooperative$Program", 64, "vote # ?") rfl).2 dX3_formOf_58 ?_
    exact hret _ _ _ _ hP hD hS dX3_formOf_60
