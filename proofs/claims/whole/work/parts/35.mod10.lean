abbrev rm_X6_two : Room := { frames := 6, cells := 0, slots := 0, locals := 132 }
set_option maxHeartbeats 4000000 in
set_option maxRecDepth 100000 in
theorem c_X6_two (l : Launch) (E : EE) (sz : Nat) (b : Nat → Nat) (z : Nat → Nat) (g : GG) (gs : Nat → GG) (ar : GG) (i0 : Nat) (q0 : String × Nat × String) (hi : sRef[i0]? = some q0) (n1 n2 : Nat) (h8 : z 8 ≤ z 9) (h9 : z 9 ≤ 60) (h11 : z 11 ≤ 1) (ho : ∀ j, ar 0 j < 65536) (h10 : z 10 ≤ 50) (hn1 : n1 ≤ 2) (hn2 : n2 ≤ 2)  : MV l yX6_two cX6_two 4 rm_X6_two [.ref (b 0), .ref (E.2.2 i0), .int (nI n1), .int (nI n2)] E sz [moC E b z g gs ar] (fun (_ : Unit) => True) (fun _ => [moC E b (upn (upn z 8 (seqR (ar 0) (z 9) (z 10) [(tl q0.2.2, 1, n1), (tl " ", 2, n2)] (z 8, z 11, ar 1)).1) 11 (seqR (ar 0) (z 9) (z 10) [(tl q0.2.2, 1, n1), (tl " ", 2, n2)] (z 8, z 11, ar 1)).2.1) g gs (upr ar 1 (seqR (ar 0) (z 9) (z 10) [(tl q0.2.2, 1, n1), (tl " ", 2, n2)] (z 8, z 11, ar 1)).2.2)]) 0 0 := by
  refine mv_go (by decide) (Nat.le_of_ble_eq_true rfl) ?_
  intro p e s m below meth c A Q ls hx hb hml hown hts hK hZ hA hsz hP hD hl hret hnm
  have hS : va_S A s.heap s.heap [] := va_S.rf
  have hl : lv_has ls 4 [(0, .ref (b 0)), (1, .ref (E.2.2 i0)), (2, .int (nI n1)), (3, .int (nI n2))] := hl
  skip
  refine lv_aload_n hx hb dX6_two_0 rfl (lv_at hl 0 rfl) ?_
  refine lv_aload_n hx hb dX6_two_1 rfl (lv_at hl 1 rfl) ?_
  refine lv_iconst (v := nI 1) hx hb dX6_two_2 (by decide) ?_
  refine lv_iload_n hx hb dX6_two_3 rfl (lv_at hl 2 rfl) ?_
  refine run_v (S := Unit) (run_V (As := [.ref (E.2.2 i0), .int (nI 1), .int (nI n1)]) (rest := []) (bs := [moC E b z g gs ar]) (cb := [moC E b z g gs ar]) hx hb hml hown hts hK hZ hA (c_X6_number l E _ b z g gs ar i0 q0 hi 1 n1 (show z 8 ≤ z 9 by omega) (show z 9 ≤ 60 by omega) (show z 11 ≤ 1 by omega) ho (show z 10 ≤ 50 by omega) (by omega) (by omega)) l_X6_193 rfl ⟨⟨rfl, rfl⟩, Nat.le_of_ble_eq_true rfl, Nat.le_of_ble_eq_true rfl⟩ 10 rfl [0] rfl (by decide) rfl hP hD hS hl.1 rfl (Nat.le_of_ble_eq_true rfl) dX6_two_4 ⟨Nat.zero_le _, Nat.zero_le _⟩) hA hP hD hS (isC := [0]) rfl [] [0] (br := []) (bs2 := fun _ => [moC E b (upn (upn z 8 ((numR (ar 0) (z 9) (tl q0.2.2) n1 (z 8) (z 11)).1)) 11 ((numR (ar 0) (z 9) (tl q0.2.2) n1 (z 8) (z 11)).2.1)) g gs (upr ar 1 (upn (ar 1) (5 * (z 10) + 1) (numR (ar 0) (z 9) (tl q0.2.2) n1 (z 8) (z 11)).2.2))]) rfl (by decide) (fun _ => rfl) (by decide) (fun u H locs hw hP hD hS => ?_)
  have hN_4L := numR_le (tx := (ar 0)) (t := tl q0.2.2) (most := n1) (show z 8 ≤ z 9 by omega) (show z 11 ≤ 1 by omega)
  rcases hN_4 : numR (ar 0) (z 9) (tl q0.2.2) n1 (z 8) (z 11) with ⟨s_1, w_2, n_3⟩
  rw [hN_4] at hP hD hN_4L
  obtain ⟨hN_4a, hN_4b, hN_4c, hN_4d⟩ := hN_4L
  have hN_4a : z 8 ≤ s_1 := hN_4a
  have hN_4b : s_1 ≤ z 9 := hN_4b
  have hN_4c : w_2 ≤ 1 := hN_4c
  have hP : va_P E.1 vwCl ([moC E b (upn (upn z 8 s_1) 11 w_2) g gs (upr ar 1 (upn (ar 1) (5 * (z 10) + 1) n_3))] : List va_W).flatten H := hP
  have hD : va_D A ([moC E b (upn (upn z 8 s_1) 11 w_2) g gs (upr ar 1 (upn (ar 1) (5 * (z 10) + 1) n_3))] : List va_W).flatten := hD
  refine lv_aload_n hx hb dX6_two_7 rfl (lv_at hl 0 rfl) ?_
  refine va_ldcS hx hb hown (hZ.2.2.2.2.1 32 ("CricketCooperativeModel", 197, " ") rfl).2 dX6_two_8 ?_
  refine lv_iconst (v := nI 2) hx hb dX6_two_10 (by decide) ?_
  refine lv_iload_n hx hb dX6_two_11 rfl (lv_at hl 3 rfl) ?_
  refine run_v (S := Unit) (run_V (As := [.ref (E.2.2 32), .int (nI 2), .int (nI n2)]) (rest := []) (bs := [moC E b (upn (upn z 8 s_1) 11 w_2) g gs (upr ar 1 (upn (ar 1) (5 * (z 10) + 1) n_3))]) (cb := [moC E b (upn (upn z 8 s_1) 11 w_2) g gs (upr ar 1 (upn (ar 1) (5 * (z 10) + 1) n_3))]) hx hb hml hown hts hK hZ hA (c_X6_number l E _ b (upn (upn z 8 s_1) 11 w_2) g gs (upr ar 1 (upn (ar 1) (5 * (z 10) + 1) n_3)) 32 ("CricketCooperativeModel", 197, " ") rfl 2 n2 (show s_1 ≤ z 9 by omega) (show z 9 ≤ 60 by omega) (show w_2 ≤ 1 by omega) ho (show z 10 ≤ 50 by omega) (by omega) (by omega)) l_X6_193 rfl ⟨⟨rfl, rfl⟩, Nat.le_of_ble_eq_true rfl, Nat.le_of_ble_eq_true rfl⟩ 10 rfl [0] rfl (by decide) rfl hP hD hS hl.1 rfl (Nat.le_of_ble_eq_true rfl) dX6_two_12 ⟨Nat.zero_le _, Nat.zero_le _⟩) hA hP hD hS (isC := [0]) rfl [] [0] (br := []) (bs2 := fun _ => [moC E b (upn (upn (upn (upn z 8 s_1) 11 w_2) 8 ((numR (ar 0) (z 9) (tl " ") n2 (s_1) (w_2)).1)) 11 ((numR (ar 0) (z 9) (tl " ") n2 (s_1) (w_2)).2.1)) g gs (upr (upr ar 1 (upn (ar 1) (5 * (z 10) + 1) n_3)) 1 (upn (upn (ar 1) (5 * (z 10) + 1) n_3) (5 * (z 10) + 2) (numR (ar 0) (z 9) (tl " ") n2 (s_1) (w_2)).2.2))]) rfl (by decide) (fun _ => rfl) (by decide) (fun u H locs hw hP hD hS => ?_)
  have hN_8L := numR_le (tx := (ar 0)) (t := tl " ") (most := n2) (show s_1 ≤ z 9 by omega) (show w_2 ≤ 1 by omega)
  rcases hN_8 : numR (ar 0) (z 9) (tl " ") n2 (s_1) (w_2) with ⟨s_5, w_6, n_7⟩
  rw [hN_8] at hP hD hN_8L
  obtain ⟨hN_8a, hN_8b, hN_8c, hN_8d⟩ := hN_8L
  have hN_8a : s_1 ≤ s_5 := hN_8a
  have hN_8b : s_5 ≤ z 9 := hN_8b
  have hN_8c : w_6 ≤ 1 := hN_8c
  have hP : va_P E.1 vwCl ([moC E b (upn (upn (upn (upn z 8 s_1) 11 w_2) 8 s_5) 11 w_6) g gs (upr (upr ar 1 (upn (ar 1) (5 * (z 10) + 1) n_3)) 1 (upn (upn (ar 1) (5 * (z 10) + 1) n_3) (5 * (z 10) + 2) n_7))] : List va_W).flatten H := hP
  have hD : va_D A ([moC E b (upn (upn (upn (upn z 8 s_1) 11 w_2) 8 s_5) 11 w_6) g gs (upr (upr ar 1 (upn (ar 1) (5 * (z 10) + 1) n_3)) 1 (upn (upn (ar 1) (5 * (z 10) + 1) n_3) (5 * (z 10) + 2) n_7))] : List va_W).flatten := hD
  have hR : (seqR (ar 0) (z 9) (z 10) [(tl q0.2.2, 1, n1), (tl " ", 2, n2)] (z 8, z 11, ar 1)) = (s_5, w_6, (upn (upn (ar 1) (5 * (z 10) + 1) n_3) (5 * (z 10) + 2) n_7)) := by rw [seqR_s hN_4, seqR_s hN_8]; rfl
  have hmE : moC E b (upn (upn (upn (upn z 8 s_1) 11 w_2) 8 s_5) 11 w_6) g gs (upr (upr ar 1 (upn (ar 1) (5 * (z 10) + 1) n_3)) 1 (upn (upn (ar 1) (5 * (z 10) + 1) n_3) (5 * (z 10) + 2) n_7)) = moC E b (upn (upn z 8 (seqR (ar 0) (z 9) (z 10) [(tl q0.2.2, 1, n1), (tl " ", 2, n2)] (z 8, z 11, ar 1)).1) 11 (seqR (ar 0) (z 9) (z 10) [(tl q0.2.2, 1, n1), (tl " ", 2, n2)] (z 8, z 11, ar 1)).2.1) g gs (upr ar 1 (seqR (ar 0) (z 9) (z 10) [(tl q0.2.2, 1, n1), (tl " ", 2, n2)] (z 8, z 11, ar 1)).2.2) := by rw [hR, z_811c, upr_upr]
  rw [hmE] at hP hD; clear hmE
  exact hret _ _ () _ _ hP hD hS trivial dX6_two_15
