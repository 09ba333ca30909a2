theorem z_11 {z : Nat → Nat} (h : z 11 = 0) : z = upn z 11 0 := by
  funext j; unfold upn; split
  · rename_i e; rw [e, h]
  · rfl
abbrev rm_X6_readsOne : Room := { frames := 7, cells := 0, slots := 0, locals := 155 }
set_option maxHeartbeats 4000000 in
set_option maxRecDepth 100000 in
theorem c_X6_readsOne (l : Launch) (E : EE) (sz : Nat) (b : Nat → Nat) (z : Nat → Nat) (g : GG) (gs : Nat → GG) (ar : GG) (h8 : z 8 ≤ z 9) (h9 : z 9 ≤ 60) (h11 : z 11 = 0) (ho : ∀ j, ar 0 j < 65536) (h10 : z 10 ≤ 50)  : MV l yX6_readsOne cX6_readsOne 4 rm_X6_readsOne [.ref (b 0)] E sz [moC E b z g gs ar] (fun (_ : Unit) => True) (fun _ => [moC E b (upn (upn (upn z 8 (rdR (ar 0) (z 9) (z 10) (z 8) (ar 1)).1) 11 (rdR (ar 0) (z 9) (z 10) (z 8) (ar 1)).2.1) 10 (z 10 + 1)) g gs (upr ar 1 (rdR (ar 0) (z 9) (z 10) (z 8) (ar 1)).2.2)]) 0 0 := by
  refine mv_go (by decide) (Nat.le_of_ble_eq_true rfl) ?_
  intro p e s m below meth c A Q ls hx hb hml hown hts hK hZ hA hsz hP hD hl hret hnm
  have hS : va_S A s.heap s.heap [] := va_S.rf
  have hl : lv_has ls 4 [(0, .ref (b 0))] := hl
  skip
  have hmE : moC E b z g gs ar = moC E b (upn z 11 0) g gs ar := congrArg (fun q => moC E b q g gs ar) (z_11 h11)
  rw [hmE] at hP hD; clear hmE
  refine lv_aload_n hx hb dX6_readsOne_0 rfl (lv_at hl 0 rfl) ?_
  refine lv_iconst (v := nI 0) hx hb dX6_readsOne_1 (by decide) ?_
  refine run_i (S := Unit) (run_V (As := [.int (nI 0)]) (rest := []) (bs := [moC E b (upn z 11 0) g gs ar]) (cb := [moC E b (upn z 11 0) g gs ar]) hx hb hml hown hts hK hZ hA (c_X6_here l E _ b (upn z 11 0) g gs ar 0 (show z 8 + 0 < 1000 by omega) (show z 9 ≤ 60 by omega)) l_X6_179 rfl ⟨⟨rfl, rfl⟩, Nat.le_of_ble_eq_true rfl, Nat.le_of_ble_eq_true rfl⟩ 10 rfl [0] rfl (by decide) rfl hP hD hS hl.1 rfl (Nat.le_of_ble_eq_true rfl) dX6_readsOne_2 ⟨Nat.zero_le _, Nat.zero_le _⟩) hA hP hD hS (isC := [0]) rfl [] [0] (br := []) (bs2 := fun _ => [moC E b (upn z 11 0) g gs ar]) rfl (by decide) (fun _ => rfl) (by decide) (fun r u H locs hw hP hD hS => ?_)
  have hw : r = nI (hrE (z 9) (ar 0) (z 8 + 0)) - 1 := hw
  subst hw
  have hhr := hrE_le (e := z 9) (sp := z 8 + 0) (tx := (ar 0)) ho
  have hz0 : hrE (z 9) (ar 0) (z 8 + 0) = hrE (z 9) (ar 0) (z 8) := rfl
  refine lv_istore_n (lv' := [(1, .int (nI (hrE (z 9) (ar 0) (z 8 + 0)) - 1)), (0, .ref (b 0))]) hx hb dX6_readsOne_5 rfl hl (by decide) rfl (fun ls hl => ?_)
  refine lv_iload_n hx hb dX6_readsOne_6 rfl (lv_at hl 0 rfl) ?_
  refine lv_bipush (v := nI 98) hx hb dX6_readsOne_7 (by decide) ?_
  refine nv_icmp_ne (X := ((hrE (z 9) (ar 0) (z 8 + 0) : Nat) : Int) - 1) (Y := ((98 : Nat) : Int)) hx hb (m1_t (by omega)) (nI_toInt (by omega)) (tgt := 26) dX6_readsOne_9 (by decide) (fun c_1 => ?_) (fun c_1 => ?_)
  · skip
    have hE : isE (ar 0) (z 9) (z 8) = false := decide_eq_false (fun q => by have := q.1; omega)
    refine lv_iconst (v := nI 0) hx hb dX6_readsOne_26 (by decide) ?_
    refine lv_istore_n (lv' := [(2, .int (nI 0)), (1, .int (nI (hrE (z 9) (ar 0) (z 8 + 0)) - 1)), (0, .ref (b 0))]) hx hb dX6_readsOne_27 rfl hl (by decide) rfl (fun ls hl => ?_)
    refine lv_aload_n hx hb dX6_readsOne_28 rfl (lv_at hl 2 rfl) ?_
    refine va_get (D := E.1) (ci := 10) (v := .ref (b 7)) (C := RX6) (T := TX6) (N := 20) hx hb hts inX6 hown hK hP 0 rfl rfl 9 (by decide) (hts _ q1443) (fun _ h9 => h9) rfl dX6_readsOne_29 ?_
    refine lv_iconst (v := nI 5) hx hb dX6_readsOne_32 (by decide) ?_
    refine lv_aload_n hx hb dX6_readsOne_33 rfl (lv_at hl 2 rfl) ?_
    refine va_get (D := E.1) (ci := 10) (v := .int (nI (z 10))) (C := RX6) (T := TX6) (N := 20) hx hb hts inX6 hown hK hP 0 rfl rfl 18 (by decide) (hts _ q1452) (fun _ h9 => h9) rfl dX6_readsOne_34 ?_
    refine nv_imul hx hb dX6_readsOne_37 ?_
    refine lv_iload_n hx hb dX6_readsOne_38 rfl (lv_at hl 0 rfl) ?_
    refine nv_if_eq (X := ((0 : Nat) : Int)) hx hb (nI_toInt (by omega)) (tgt := 47) dX6_readsOne_39 (by decide) (fun c_2 => ?_) (fun c_2 => ?_)
    · skip
      refine lv_iload_n hx hb dX6_readsOne_47 rfl (lv_at hl 1 rfl) ?_
      refine tp_i (show nI (hrE (z 9) (ar 0) (z 8 + 0)) - 1 = nI (srtN (hrE (z 9) (ar 0) (z 8))) from srt_v) ?_
      refine nv_iast (f := (ar 1)) (i := 5 * (z 10)) (v := srtN (hrE (z 9) (ar 0) (z 8))) (n := 300) hx hb hK hP hD hS 7 0 rfl rfl (by omega) (by decide) dX6_readsOne_48 (fun H locs hP hD hS => ?_)
      have hP : va_P E.1 vwCl ([moC E b (upn z 11 0) g gs (upr ar 1 (upn (ar 1) (5 * (z 10)) (srtN (hrE (z 9) (ar 0) (z 8)))))] : List va_W).flatten H := hP
      have hD : va_D A ([moC E b (upn z 11 0) g gs (upr ar 1 (upn (ar 1) (5 * (z 10)) (srtN (hrE (z 9) (ar 0) (z 8)))))] : List va_W).flatten := hD
      refine lv_iload_n hx hb dX6_readsOne_49 rfl (lv_at hl 1 rfl) ?_
      by_cases k98 : ((hrE (z 9) (ar 0) (z 8 + 0) : Nat) : Int) - 1 = 98
      · exfalso; omega
      by_cases k106 : ((hrE (z 9) (ar 0) (z 8 + 0) : Nat) : Int) - 1 = 106
      · skip
        refine nv_lk (X := ((hrE (z 9) (ar 0) (z 8 + 0) : Nat) : Int) - 1) hx hb (m1_t (by omega)) dX6_readsOne_50 (by decide) (by rw [k106]; first | done | decide) (tgt := 108) (by decide) ?_
        refine lv_aload_n hx hb dX6_readsOne_108 rfl (lv_at hl 2 rfl) ?_
        refine va_ldcS hx hb hown (hZ.2.2.2.2.1 31 ("CricketCooperativeModel", 199, "join ") rfl).2 dX6_readsOne_109 ?_
        refine lv_iconst (v := nI 1) hx hb dX6_readsOne_111 (by decide) ?_
        refine lv_iconst (v := nI 2) hx hb dX6_readsOne_112 (by decide) ?_
        refine run_v (S := Unit) (run_V (As := [.ref (E.2.2 31), .int (nI 1), .int (nI 2)]) (rest := []) (bs := [moC E b (upn z 11 0) g gs (upr ar 1 (upn (ar 1) (5 * (z 10)) (srtN (hrE (z 9) (ar 0) (z 8)))))]) (cb := [moC E b (upn z 11 0) g gs (upr ar 1 (upn (ar 1) (5 * (z 10)) (srtN (hrE (z 9) (ar 0) (z 8)))))]) hx hb hml hown hts hK hZ hA (c_X6_number l E _ b (upn z 11 0) g gs (upr ar 1 (upn (ar 1) (5 * (z 10)) (srtN (hrE (z 9) (ar 0) (z 8))))) 31 ("CricketCooperativeModel", 199, "join ") rfl 1 2 (show z 8 ≤ z 9 by omega) (show z 9 ≤ 60 by omega) (show 0 ≤ 1 by omega) ho (show z 10 ≤ 50 by omega) (by omega) (by omega)) l_X6_193 rfl ⟨⟨rfl, rfl⟩, Nat.le_of_ble_eq_true rfl, Nat.le_of_ble_eq_true rfl⟩ 10 rfl [0] rfl (by decide) rfl hP hD hS hl.1 rfl (Nat.le_of_ble_eq_true rfl) dX6_readsOne_113 ⟨Nat.zero_le _, Nat.zero_le _⟩) hA hP hD hS (isC := [0]) rfl [] [0] (br := []) (bs2 := fun _ => [moC E b (upn (upn (upn z 11 0) 8 ((numR (ar 0) (z 9) (tl "join ") 2 (z 8) (0)).1)) 11 ((numR (ar 0) (z 9) (tl "join ") 2 (z 8) (0)).2.1)) g gs (upr (upr ar 1 (upn (ar 1) (5 * (z 10)) (srtN (hrE (z 9) (ar 0) (z 8))))) 1 (upn (upn (ar 1) (5 * (z 10)) (srtN (hrE (z 9) (ar 0) (z 8)))) (5 * (z 10) + 1) (numR (ar 0) (z 9) (tl "join ") 2 (z 8) (0)).2.2))]) rfl (by decide) (fun _ => rfl) (by decide) (fun u H locs hw hP hD hS => ?_)
        have hN_6L := numR_le (tx := (ar 0)) (t := tl "join ") (most := 2) (show z 8 ≤ z 9 by omega) (show 0 ≤ 1 by omega)
        rcases hN_6 : numR (ar 0) (z 9) (tl "join ") 2 (z 8) (0) with ⟨s_3, w_4, n_5⟩
        rw [hN_6] at hP hD hN_6L
        obtain ⟨hN_6a, hN_6b, hN_6c, hN_6d⟩ := hN_6L
        have hN_6a : z 8 ≤ s_3 := hN_6a
        have hN_6b : s_3 ≤ z 9 := hN_6b
        have hN_6c : w_4 ≤ 1 := hN_6c
        have hP : va_P E.1 vwCl ([moC E b (upn (upn (upn z 11 0) 8 s_3) 11 w_4) g gs (upr (upr ar 1 (upn (ar 1) (5 * (z 10)) (srtN (hrE (z 9) (ar 0) (z 8))))) 1 (upn (upn (ar 1) (5 * (z 10)) (srtN (hrE (z 9) (ar 0) (z 8)))) (5 * (z 10) + 1) n_5))] : List va_W).flatten H := hP
        have hD : va_D A ([moC E b (upn (upn (upn z 11 0) 8 s_3) 11 w_4) g gs (upr (upr ar 1 (upn (ar 1) (5 * (z 10)) (srtN (hrE (z 9) (ar 0) (z 8))))) 1 (upn (upn (ar 1) (5 * (z 10)) (srtN (hrE (z 9) (ar 0) (z 8)))) (5 * (z 10) + 1) n_5))] : List va_W).flatten := hD
        refine lv_iconst (v := nI 2) hx hb dX6_readsOne_116 (by decide) ?_
        refine lv_istore_n (lv' := [(3, .int (nI 2)), (2, .int (nI 0)), (1, .int (nI (hrE (z 9) (ar 0) (z 8 + 0)) - 1)), (0, .ref (b 0))]) hx hb dX6_readsOne_117 rfl hl (by decide) rfl (fun ls hl => ?_)
        refine lv_iload_n hx hb dX6_readsOne_118 rfl (lv_at hl 0 rfl) ?_
        refine lv_iconst (v := nI 5) hx hb dX6_readsOne_119 (by decide) ?_
        refine nv_icmp_ge (X := ((2 : Nat) : Int)) (Y := ((5 : Nat) : Int)) hx hb (nI_toInt (by omega)) (nI_toInt (by omega)) (tgt := 137) dX6_readsOne_120 (by decide) (fun c_7 => ?_) (fun c_7 => ?_)
        · exact absurd c_7 (by omega)
        · skip
          refine lv_aload_n hx hb dX6_readsOne_123 rfl (lv_at hl 3 rfl) ?_
          refine va_ldcS hx hb hown (hZ.2.2.2.2.1 32 ("CricketCooperativeModel", 197, " ") rfl).2 dX6_readsOne_124 ?_
          refine lv_iload_n hx hb dX6_readsOne_126 rfl (lv_at hl 0 rfl) ?_
          refine lv_iconst (v := nI 2) hx hb dX6_readsOne_127 (by decide) ?_
          refine run_v (S := Unit) (run_V (As := [.ref (E.2.2 32), .int (nI 2), .int (nI 2)]) (rest := []) (bs := [moC E b (upn (upn (upn z 11 0) 8 s_3) 11 w_4) g gs (upr (upr ar 1 (upn (ar 1) (5 * (z 10)) (srtN (hrE (z 9) (ar 0) (z 8))))) 1 (upn (upn (ar 1) (5 * (z 10)) (srtN (hrE (z 9) (ar 0) (z 8)))) (5 * (z 10) + 1) n_5))]) (cb := [moC E b (upn (upn (upn z 11 0) 8 s_3) 11 w_4) g gs (upr (upr ar 1 (upn (ar 1) (5 * (z 10)) (srtN (hrE (z 9) (ar 0) (z 8))))) 1 (upn (upn (ar 1) (5 * (z 10)) (srtN (hrE (z 9) (ar 0) (z 8)))) (5 * (z 10) + 1) n_5))]) hx hb hml hown hts hK hZ hA (c_X6_number l E _ b (upn (upn (upn z 11 0) 8 s_3) 11 w_4) g gs (upr (upr ar 1 (upn (ar 1) (5 * (z 10)) (srtN (hrE (z 9) (ar 0) (z 8))))) 1 (upn (upn (ar 1) (5 * (z 10)) (srtN (hrE (z 9) (ar 0) (z 8)))) (5 * (z 10) + 1) n_5)) 32 ("CricketCooperativeModel", 197, " ") rfl 2 2 (show s_3 ≤ z 9 by omega) (show z 9 ≤ 60 by omega) (show w_4 ≤ 1 by omega) ho (show z 10 ≤ 50 by omega) (by omega) (by omega)) l_X6_193 rfl ⟨⟨rfl, rfl⟩, Nat.le_of_ble_eq_true rfl, Nat.le_of_ble_eq_true rfl⟩ 10 rfl [0] rfl (by decide) rfl hP hD hS hl.1 rfl (Nat.le_of_ble_eq_true rfl) dX6_readsOne_128 ⟨Nat.zero_le _, Nat.zero_le _⟩) hA hP hD hS (isC := [0]) rfl [] [0] (br := []) (bs2 := fun _ => [moC E b (upn (upn (upn (upn (upn z 11 0) 8 s_3) 11 w_4) 8 ((numR (ar 0) (z 9) (tl " ") 2 (s_3) (w_4)).1)) 11 ((numR (ar 0) (z 9) (tl " ") 2 (s_3) (w_4)).2.1)) g gs (upr (upr (upr ar 1 (upn (ar 1) (5 * (z 10)) (srtN (hrE (z 9) (ar 0) (z 8))))) 1 (upn (upn (ar 1) (5 * (z 10)) (srtN (hrE (z 9) (ar 0) (z 8)))) (5 * (z 10) + 1) n_5)) 1 (upn (upn (upn (ar 1) (5 * (z 10)) (srtN (hrE (z 9) (ar 0) (z 8)))) (5 * (z 10) + 1) n_5) (5 * (z 10) + 2) (numR (ar 0) (z 9) (tl " ") 2 (s_3) (w_4)).2.2))]) rfl (by decide) (fun _ => rfl) (by decide) (fun u H locs hw hP hD hS => ?_)
          have hN_11L := numR_le (tx := (ar 0)) (t := tl " ") (most := 2) (show s_3 ≤ z 9 by omega) (show w_4 ≤ 1 by omega)
          rcases hN_11 : numR (ar 0) (z 9) (tl " ") 2 (s_3) (w_4) with ⟨s_8, w_9, n_10⟩
          rw [hN_11] at hP hD hN_11L
          obtain ⟨hN_11a, hN_11b, hN_11c, hN_11d⟩ := hN_11L
          have hN_11a : s_3 ≤ s_8 := hN_11a
          have hN_11b : s_8 ≤ z 9 := hN_11b
          have hN_11c : w_9 ≤ 1 := hN_11c
          have hP : va_P E.1 vwCl ([moC E b (upn (upn (upn (upn (upn z 11 0) 8 s_3) 11 w_4) 8 s_8) 11 w_9) g gs (upr (upr (upr ar 1 (upn (ar 1) (5 * (z 10)) (srtN (hrE (z 9) (ar 0) (z 8))))) 1 (upn (upn (ar 1) (5 * (z 10)) (srtN (hrE (z 9) (ar 0) (z 8)))) (5 * (z 10) + 1) n_5)) 1 (upn (upn (upn (ar 1) (5 * (z 10)) (srtN (hrE (z 9) (ar 0) (z 8)))) (5 * (z 10) + 1) n_5) (5 * (z 10) + 2) n_10))] : List va_W).flatten H := hP
          have hD : va_D A ([moC E b (upn (upn (upn (upn (upn z 11 0) 8 s_3) 11 w_4) 8 s_8) 11 w_9) g gs (upr (upr (upr ar 1 (upn (ar 1) (5 * (z 10)) (srtN (hrE (z 9) (ar 0) (z 8))))) 1 (upn (upn (ar 1) (5 * (z 10)) (srtN (hrE (z 9) (ar 0) (z 8)))) (5 * (z 10) + 1) n_5)) 1 (upn (upn (upn (ar 1) (5 * (z 10)) (srtN (hrE (z 9) (ar 0) (z 8)))) (5 * (z 10) + 1) n_5) (5 * (z 10) + 2) n_10))] : List va_W).flatten := hD
          refine lv_iinc (v := nI (2 + 1)) (lv' := [(3, .int (nI (2 + 1))), (2, .int (nI 0)), (1, .int (nI (hrE (z 9) (ar 0) (z 8 + 0)) - 1)), (0, .ref (b 0))]) hx hb dX6_readsOne_131 hl (k := 0) rfl (nI_add 2 1) (by decide) rfl (fun ls hl => ?_)
          refine lv_goto (tgt := 118) hx hb dX6_readsOne_134 (by decide) ?_
          refine lv_iload_n hx hb dX6_readsOne_118 rfl (lv_at hl 0 rfl) ?_
          refine lv_iconst (v := nI 5) hx hb dX6_readsOne_119 (by decide) ?_
          refine nv_icmp_ge (X := ((2 + 1 : Nat) : Int)) (Y := ((5 : Nat) : Int)) hx hb (nI_toInt (by omega)) (nI_toInt (by omega)) (tgt := 137) dX6_readsOne_120 (by decide) (fun c_12 => ?_) (fun c_12 => ?_)
          · exact absurd c_12 (by omega)
          · skip
            refine lv_aload_n hx hb dX6_readsOne_123 rfl (lv_at hl 3 rfl) ?_
            refine va_ldcS hx hb hown (hZ.2.2.2.2.1 32 ("CricketCooperativeModel", 197, " ") rfl).2 dX6_readsOne_124 ?_
            refine lv_iload_n hx hb dX6_readsOne_126 rfl (lv_at hl 0 rfl) ?_
            refine lv_iconst (v := nI 2) hx hb dX6_readsOne_127 (by decide) ?_
            refine run_v (S := Unit) (run_V (As := [.ref (E.2.2 32), .int (nI (2 + 1)), .int (nI 2)]) (rest := []) (bs := [moC E b (upn (upn (upn (upn (upn z 11 0) 8 s_3) 11 w_4) 8 s_8) 11 w_9) g gs (upr (upr (upr ar 1 (upn (ar 1) (5 * (z 10)) (srtN (hrE (z 9) (ar 0) (z 8))))) 1 (upn (upn (ar 1) (5 * (z 10)) (srtN (hrE (z 9) (ar 0) (z 8)))) (5 * (z 10) + 1) n_5)) 1 (upn (upn (upn (ar 1) (5 * (z 10)) (srtN (hrE (z 9) (ar 0) (z 8)))) (5 * (z 10) + 1) n_5) (5 * (z 10) + 2) n_10))]) (cb := [moC E b (upn (upn (upn (upn (upn z 11 0) 8 s_3) 11 w_4) 8 s_8) 11 w_9) g gs (upr (upr (upr ar 1 (upn (ar 1) (5 * (z 10)) (srtN (hrE (z 9) (ar 0) (z 8))))) 1 (upn (upn (ar 1) (5 * (z 10)) (srtN (hrE (z 9) (ar 0) (z 8)))) (5 * (z 10) + 1) n_5)) 1 (upn (upn (upn (ar 1) (5 * (z 10)) (srtN (hrE (z 9) (ar 0) (z 8)))) (5 * (z 10) + 1) n_5) (5 * (z 10) + 2) n_10))]) hx hb hml hown hts hK hZ hA (c_X6_number l E _ b (upn (upn (upn (upn (upn z 11 0) 8 s_3) 11 w_4) 8 s_8) 11 w_9) g gs (upr (upr (upr ar 1 (upn (ar 1) (5 * (z 10)) (srtN (hrE (z 9) (ar 0) (z 8))))) 1 (upn (upn (ar 1) (5 * (z 10)) (srtN (hrE (z 9) (ar 0) (z 8)))) (5 * (z 10) + 1) n_5)) 1 (upn (upn (upn (ar 1) (5 * (z 10)) (srtN (hrE (z 9) (ar 0) (z 8)))) (5 * (z 10) + 1) n_5) (5 * (z 10) + 2) n_10)) 32 ("CricketCooperativeModel", 197, " ") rfl 3 2 (show s_8 ≤ z 9 by omega) (show z 9 ≤ 60 by omega) (show w_9 ≤ 1 by omega) ho (show z 10 ≤ 50 by omega) (by omega) (by omega)) l_X6_193 rfl ⟨⟨rfl, rfl⟩, Nat.le_of_ble_eq_true rfl, Nat.le_of_ble_eq_true rfl⟩ 10 rfl [0] rfl (by decide) rfl hP hD hS hl.1 rfl (Nat.le_of_ble_eq_true rfl) dX6_readsOne_128 ⟨Nat.zero_le _, Nat.zero_le _⟩) hA hP hD hS (isC := [0]) rfl [] [0] (br := []) (bs2 := fun _ => [moC E b (upn (upn (upn (upn (upn (upn (upn z 11 0) 8 s_3) 11 w_4) 8 s_8) 11 w_9) 8 ((numR (ar 0) (z 9) (tl " ") 2 (s_8) (w_9)).1)) 11 ((numR (ar 0) (z 9) (tl " ") 2 (s_8) (w_9)).2.1)) g gs (upr (upr (upr (upr ar 1 (upn (ar 1) (5 * (z 10)) (srtN (hrE (z 9) (ar 0) (z 8))))) 1 (upn (upn (ar 1) (5 * (z 10)) (srtN (hrE (z 9) (ar 0) (z 8)))) (5 * (z 10) + 1) n_5)) 1 (upn (upn (upn (ar 1) (5 * (z 10)) (srtN (hrE (z 9) (ar 0) (z 8)))) (5 * (z 10) + 1) n_5) (5 * (z 10) + 2) n_10)) 1 (upn (upn (upn (upn (ar 1) (5 * (z 10)) (srtN (hrE (z 9) (ar 0) (z 8)))) (5 * (z 10) + 1) n_5) (5 * (z 10) + 2) n_10) (5 * (z 10) + 3) (numR (ar 0) (z 9) (tl " ") 2 (s_8) (w_9)).2.2))]) rfl (by decide) (fun _ => rfl) (by decide) (fun u H locs hw hP hD hS => ?_)
            have hN_16L := numR_le (tx := (ar 0)) (t := tl " ") (most := 2) (show s_8 ≤ z 9 by omega) (show w_9 ≤ 1 by omega)
            rcases hN_16 : numR (ar 0) (z 9) (tl " ") 2 (s_8) (w_9) with ⟨s_13, w_14, n_15⟩
            rw [hN_16] at hP hD hN_16L
            obtain ⟨hN_16a, hN_16b, hN_16c, hN_16d⟩ := hN_16L
            have hN_16a : s_8 ≤ s_13 := hN_16a
            have hN_16b : s_13 ≤ z 9 := hN_16b
            have hN_16c : w_14 ≤ 1 := hN_16c
            have hP : va_P E.1 vwCl ([moC E b (upn (upn (upn (upn (upn (upn (upn z 11 0) 8 s_3) 11 w_4) 8 s_8) 11 w_9) 8 s_13) 11 w_14) g gs (upr (upr (upr (upr ar 1 (upn (ar 1) (5 * (z 10)) (srtN (hrE (z 9) (ar 0) (z 8))))) 1 (upn (upn (ar 1) (5 * (z 10)) (srtN (hrE (z 9) (ar 0) (z 8)))) (5 * (z 10) + 1) n_5)) 1 (upn (upn (upn (ar 1) (5 * (z 10)) (srtN (hrE (z 9) (ar 0) (z 8)))) (5 * (z 10) + 1) n_5) (5 * (z 10) + 2) n_10)) 1 (upn (upn (upn (upn (ar 1) (5 * (z 10)) (srtN (hrE (z 9) (ar 0) (z 8)))) (5 * (z 10) + 1) n_5) (5 * (z 10) + 2) n_10) (5 * (z 10) + 3) n_15))] : List va_W).flatten H := hP
            have hD : va_D A ([moC E b (upn (upn (upn (upn (upn (upn (upn z 11 0) 8 s_3) 11 w_4) 8 s_8) 11 w_9) 8 s_13) 11 w_14) g gs (upr (upr (upr (upr ar 1 (upn (ar 1) (5 * (z 10)) (srtN (hrE (z 9) (ar 0) (z 8))))) 1 (upn (upn (ar 1) (5 * (z 10)) (srtN (hrE (z 9) (ar 0) (z 8)))) (5 * (z 10) + 1) n_5)) 1 (upn (upn (upn (ar 1) (5 * (z 10)) (srtN (hrE (z 9) (ar 0) (z 8)))) (5 * (z 10) + 1) n_5) (5 * (z 10) + 2) n_10)) 1 (upn (upn (upn (upn (ar 1) (5 * (z 10)) (srtN (hrE (z 9) (ar 0) (z 8)))) (5 * (z 10) + 1) n_5) (5 * (z 10) + 2) n_10) (5 * (z 10) + 3) n_15))] : List va_W).flatten := hD
            refine lv_iinc (v := nI (2 + 1 + 1)) (lv' := [(3, .int (nI (2 + 1 + 1))), (2, .int (nI 0)), (1, .int (nI (hrE (z 9) (ar 0) (z 8 + 0)) - 1)), (0, .ref (b 0))]) hx hb dX6_readsOne_131 hl (k := 0) rfl (nI_add (2 + 1) 1) (by decide) rfl (fun ls hl => ?_)
            refine lv_goto (tgt := 118) hx hb dX6_readsOne_134 (by decide) ?_
            refine lv_iload_n hx hb dX6_readsOne_118 rfl (lv_at hl 0 rfl) ?_
            refine lv_iconst (v := nI 5) hx hb dX6_readsOne_119 (by decide) ?_
            refine nv_icmp_ge (X := ((2 + 1 + 1 : Nat) : Int)) (Y := ((5 : Nat) : Int)) hx hb (nI_toInt (by omega)) (nI_toInt (by omega)) (tgt := 137) dX6_readsOne_120 (by decide) (fun c_17 => ?_) (fun c_17 => ?_)
            · exact absurd c_17 (by omega)
            · skip
              refine lv_aload_n hx hb dX6_readsOne_123 rfl (lv_at hl 3 rfl) ?_
              refine va_ldcS hx hb hown (hZ.2.2.2.2.1 32 ("CricketCooperativeModel", 197, " ") rfl).2 dX6_readsOne_124 ?_
              refine lv_iload_n hx hb dX6_readsOne_126 rfl (lv_at hl 0 rfl) ?_
              refine lv_iconst (v := nI 2) hx hb dX6_readsOne_127 (by decide) ?_
              refine run_v (S := Unit) (run_V (As := [.ref (E.2.2 32), .int (nI (2 + 1 + 1)), .int (nI 2)]) (rest := []) (bs := [moC E b (upn (upn (upn (upn (upn (upn (upn z 11 0) 8 s_3) 11 w_4) 8 s_8) 11 w_9) 8 s_13) 11 w_14) g gs (upr (upr (upr (upr ar 1 (upn (ar 1) (5 * (z 10)) (srtN (hrE (z 9) (ar 0) (z 8))))) 1 (upn (upn (ar 1) (5 * (z 10)) (srtN (hrE (z 9) (ar 0) (z 8)))) (5 * (z 10) + 1) n_5)) 1 (upn (upn (upn (ar 1) (5 * (z 10)) (srtN (hrE (z 9) (ar 0) (z 8)))) (5 * (z 10) + 1) n_5) (5 * (z 10) + 2) n_10)) 1 (upn (upn (upn (upn (ar 1) (5 * (z 10)) (srtN (hrE (z 9) (ar 0) (z 8)))) (5 * (z 10) + 1) n_5) (5 * (z 10) + 2) n_10) (5 * (z 10) + 3) n_15))]) (cb := [moC E b (upn (upn (upn (upn (upn (upn (upn z 11 0) 8 s_3) 11 w_4) 8 s_8) 11 w_9) 8 s_13) 11 w_14) g gs (upr (upr (upr (upr ar 1 (upn (ar 1) (5 * (z 10)) (srtN (hrE (z 9) (ar 0) (z 8))))) 1 (upn (upn (ar 1) (5 * (z 10)) (srtN (hrE (z 9) (ar 0) (z 8)))) (5 * (z 10) + 1) n_5)) 1 (upn (upn (upn (ar 1) (5 * (z 10)) (srtN (hrE (z 9) (ar 0) (z 8)))) (5 * (z 10) + 1) n_5) (5 * (z 10) + 2) n_10)) 1 (upn (upn (upn (upn (ar 1) (5 * (z 10)) (srtN (hrE (z 9) (ar 0) (z 8)))) (5 * (z 10) + 1) n_5) (5 * (z 10) + 2) n_10) (5 * (z 10) + 3) n_15))]) hx hb hml hown hts hK hZ hA (c_X6_number l E _ b (upn (upn (upn (upn (upn (upn (upn z 11 0) 8 s_3) 11 w_4) 8 s_8) 11 w_9) 8 s_13) 11 w_14) g gs (upr (upr (upr (upr ar 1 (upn (ar 1) (5 * (z 10)) (srtN (hrE (z 9) (ar 0) (z 8))))) 1 (upn (upn (ar 1) (5 * (z 10)) (srtN (hrE (z 9) (ar 0) (z 8)))) (5 * (z 10) + 1) n_5)) 1 (upn (upn (upn (ar 1) (5 * (z 10)) (srtN (hrE (z 9) (ar 0) (z 8)))) (5 * (z 10) + 1) n_5) (5 * (z 10) + 2) n_10)) 1 (upn (upn (upn (upn (ar 1) (5 * (z 10)) (srtN (hrE (z 9) (ar 0) (z 8)))) (5 * (z 10) + 1) n_5) (5 * (z 10) + 2) n_10) (5 * (z 10) + 3) n_15)) 32 ("CricketCooperativeModel", 197, " ") rfl 4 2 (show s_13 ≤ z 9 by omega) (show z 9 ≤ 60 by omega) (show w_14 ≤ 1 by omega) ho (show z 10 ≤ 50 by omega) (by omega) (by omega)) l_X6_193 rfl ⟨⟨rfl, rfl⟩, Nat.le_of_ble_eq_true rfl, Nat.le_of_ble_eq_true rfl⟩ 10 rfl [0] rfl (by decide) rfl hP hD hS hl.1 rfl (Nat.le_of_ble_eq_true rfl) dX6_readsOne_128 ⟨Nat.zero_le _, Nat.zero_le _⟩) hA hP hD hS (isC := [0]) rfl [] [0] (br := []) (bs2 := fun _ => [moC E b (upn (upn (upn (upn (upn (upn (upn (upn (upn z 11 0) 8 s_3) 11 w_4) 8 s_8) 11 w_9) 8 s_13) 11 w_14) 8 ((numR (ar 0) (z 9) (tl " ") 2 (s_13) (w_14)).1)) 11 ((numR (ar 0) (z 9) (tl " ") 2 (s_13) (w_14)).2.1)) g gs (upr (upr (upr (upr (upr ar 1 (upn (ar 1) (5 * (z 10)) (srtN (hrE (z 9) (ar 0) (z 8))))) 1 (upn (upn (ar 1) (5 * (z 10)) (srtN (hrE (z 9) (ar 0) (z 8)))) (5 * (z 10) + 1) n_5)) 1 (upn (upn (upn (ar 1) (5 * (z 10)) (srtN (hrE (z 9) (ar 0) (z 8)))) (5 * (z 10) + 1) n_5) (5 * (z 10) + 2) n_10)) 1 (upn (upn (upn (upn (ar 1) (5 * (z 10)) (srtN (hrE (z 9) (ar 0) (z 8)))) (5 * (z 10) + 1) n_5) (5 * (z 10) + 2) n_10) (5 * (z 10) + 3) n_15)) 1 (upn (upn (upn (upn (upn (ar 1) (5 * (z 10)) (srtN (hrE (z 9) (ar 0) (z 8)))) (5 * (z 10) + 1) n_5) (5 * (z 10) + 2) n_10) (5 * (z 10) + 3) n_15) (5 * (z 10) + 4) (numR (ar 0) (z 9) (tl " ") 2 (s_13) (w_14)).2.2))]) rfl (by decide) (fun _ => rfl) (by decide) (fun u H locs hw hP hD hS => ?_)
              have hN_21L := numR_le (tx := (ar 0)) (t := tl " ") (most := 2) (show s_13 ≤ z 9 by omega) (show w_14 ≤ 1 by omega)
              rcases hN_21 : numR (ar 0) (z 9) (tl " ") 2 (s_13) (w_14) with ⟨s_18, w_19, n_20⟩
              rw [hN_21] at hP hD hN_21L
              obtain ⟨hN_21a, hN_21b, hN_21c, hN_21d⟩ := hN_21L
              have hN_21a : s_13 ≤ s_18 := hN_21a
              have hN_21b : s_18 ≤ z 9 := hN_21b
              have hN_21c : w_19 ≤ 1 := hN_21c
              have hP : va_P E.1 vwCl ([moC E b (upn (upn (upn (upn (upn (upn (upn (upn (upn z 11 0) 8 s_3) 11 w_4) 8 s_8) 11 w_9) 8 s_13) 11 w_14) 8 s_18) 11 w_19) g gs (upr (upr (upr (upr (upr ar 1 (upn (ar 1) (5 * (z 10)) (srtN (hrE (z 9) (ar 0) (z 8))))) 1 (upn (upn (ar 1) (5 * (z 10)) (srtN (hrE (z 9) (ar 0) (z 8)))) (5 * (z 10) + 1) n_5)) 1 (upn (upn (upn (ar 1) (5 * (z 10)) (srtN (hrE (z 9) (ar 0) (z 8)))) (5 * (z 10) + 1) n_5) (5 * (z 10) + 2) n_10)) 1 (upn (upn (upn (upn (ar 1) (5 * (z 10)) (srtN (hrE (z 9) (ar 0) (z 8)))) (5 * (z 10) + 1) n_5) (5 * (z 10) + 2) n_10) (5 * (z 10) + 3) n_15)) 1 (upn (upn (upn (upn (upn (ar 1) (5 * (z 10)) (srtN (hrE (z 9) (ar 0) (z 8)))) (5 * (z 10) + 1) n_5) (5 * (z 10) + 2) n_10) (5 * (z 10) + 3) n_15) (5 * (z 10) + 4) n_20))] : List va_W).flatten H := hP
              have hD : va_D A ([moC E b (upn (upn (upn (upn (upn (upn (upn (upn (upn z 11 0) 8 s_3) 11 w_4) 8 s_8) 11 w_9) 8 s_13) 11 w_14) 8 s_18) 11 w_19) g gs (upr (upr (upr (upr (upr ar 1 (upn (ar 1) (5 * (z 10)) (srtN (hrE (z 9) (ar 0) (z 8))))) 1 (upn (upn (ar 1) (5 * (z 10)) (srtN (hrE (z 9) (ar 0) (z 8)))) (5 * (z 10) + 1) n_5)) 1 (upn (upn (upn (ar 1) (5 * (z 10)) (srtN (hrE (z 9) (ar 0) (z 8)))) (5 * (z 10) + 1) n_5) (5 * (z 10) + 2) n_10)) 1 (upn (upn (upn (upn (ar 1) (5 * (z 10)) (srtN (hrE (z 9) (ar 0) (z 8)))) (5 * (z 10) + 1) n_5) (5 * (z 10) + 2) n_10) (5 * (z 10) + 3) n_15)) 1 (upn (upn (upn (upn (upn (ar 1) (5 * (z 10)) (srtN (hrE (z 9) (ar 0) (z 8)))) (5 * (z 10) + 1) n_5) (5 * (z 10) + 2) n_10) (5 * (z 10) + 3) n_15) (5 * (z 10) + 4) n_20))] : List va_W).flatten := hD
              refine lv_iinc (v := nI (2 + 1 + 1 + 1)) (lv' := [(3, .int (nI (2 + 1 + 1 + 1))), (2, .int (nI 0)), (1, .int (nI (hrE (z 9) (ar 0) (z 8 + 0)) - 1)), (0, .ref (b 0))]) hx hb dX6_readsOne_131 hl (k := 0) rfl (nI_add (2 + 1 + 1) 1) (by decide) rfl (fun ls hl => ?_)
              refine lv_goto (tgt := 118) hx hb dX6_readsOne_134 (by decide) ?_
              refine lv_iload_n hx hb dX6_readsOne_118 rfl (lv_at hl 0 rfl) ?_
              refine lv_iconst (v := nI 5) hx hb dX6_readsOne_119 (by decide) ?_
              refine nv_icmp_ge (X := ((2 + 1 + 1 + 1 : Nat) : Int)) (Y := ((5 : Nat) : Int)) hx hb (nI_toInt (by omega)) (nI_toInt (by omega)) (tgt := 137) dX6_readsOne_120 (by decide) (fun c_22 => ?_) (fun c_22 => ?_)
              · skip
                refine lv_goto (tgt := 213) hx hb dX6_readsOne_137 (by decide) ?_
                refine lv_aload_n hx hb dX6_readsOne_213 rfl (lv_at hl 3 rfl) ?_
                refine lv_dup hx hb dX6_readsOne_214 rfl ?_
                refine va_get (D := E.1) (ci := 10) (v := .int (nI (z 10))) (C := RX6) (T := TX6) (N := 20) hx hb hts inX6 hown hK hP 0 rfl rfl 18 (by decide) (hts _ q1452) (fun _ h9 => h9) rfl dX6_readsOne_215 ?_
                refine lv_iconst (v := nI 1) hx hb dX6_readsOne_218 (by decide) ?_
                refine nv_iadd hx hb dX6_readsOne_219 ?_
                refine va_put (D := E.1) (ci := 10) (v := .int (nI (z 10 + 1))) (ty := .int) (C := RX6) (T := TX6) (N := 20) hx hb hts inX6 tyX6 tyX6_ok nmX6 hown hK hP hD hS 0 rfl rfl 18 (by decide) (hts _ q1452) (fun _ h9 => h9) rfl (by decide +kernel) rfl rfl (Nat.le_of_ble_eq_true rfl) dX6_readsOne_220 (fun H locs hP hD hS => ?_)
                have hP : va_P E.1 vwCl ([moC E b (upn (upn (upn (upn (upn (upn (upn (upn (upn (upn z 11 0) 8 s_3) 11 w_4) 8 s_8) 11 w_9) 8 s_13) 11 w_14) 8 s_18) 11 w_19) 10 (z 10 + 1)) g gs (upr (upr (upr (upr (upr ar 1 (upn (ar 1) (5 * (z 10)) (srtN (hrE (z 9) (ar 0) (z 8))))) 1 (upn (upn (ar 1) (5 * (z 10)) (srtN (hrE (z 9) (ar 0) (z 8)))) (5 * (z 10) + 1) n_5)) 1 (upn (upn (upn (ar 1) (5 * (z 10)) (srtN (hrE (z 9) (ar 0) (z 8)))) (5 * (z 10) + 1) n_5) (5 * (z 10) + 2) n_10)) 1 (upn (upn (upn (upn (ar 1) (5 * (z 10)) (srtN (hrE (z 9) (ar 0) (z 8)))) (5 * (z 10) + 1) n_5) (5 * (z 10) + 2) n_10) (5 * (z 10) + 3) n_15)) 1 (upn (upn (upn (upn (upn (ar 1) (5 * (z 10)) (srtN (hrE (z 9) (ar 0) (z 8)))) (5 * (z 10) + 1) n_5) (5 * (z 10) + 2) n_10) (5 * (z 10) + 3) n_15) (5 * (z 10) + 4) n_20))] : List va_W).flatten H := hP
                have hD : va_D A ([moC E b (upn (upn (upn (upn (upn (upn (upn (upn (upn (upn z 11 0) 8 s_3) 11 w_4) 8 s_8) 11 w_9) 8 s_13) 11 w_14) 8 s_18) 11 w_19) 10 (z 10 + 1)) g gs (upr (upr (upr (upr (upr ar 1 (upn (ar 1) (5 * (z 10)) (srtN (hrE (z 9) (ar 0) (z 8))))) 1 (upn (upn (ar 1) (5 * (z 10)) (srtN (hrE (z 9) (ar 0) (z 8)))) (5 * (z 10) + 1) n_5)) 1 (upn (upn (upn (ar 1) (5 * (z 10)) (srtN (hrE (z 9) (ar 0) (z 8)))) (5 * (z 10) + 1) n_5) (5 * (z 10) + 2) n_10)) 1 (upn (upn (upn (upn (ar 1) (5 * (z 10)) (srtN (hrE (z 9) (ar 0) (z 8)))) (5 * (z 10) + 1) n_5) (5 * (z 10) + 2) n_10) (5 * (z 10) + 3) n_15)) 1 (upn (upn (upn (upn (upn (ar 1) (5 * (z 10)) (srtN (hrE (z 9) (ar 0) (z 8)))) (5 * (z 10) + 1) n_5) (5 * (z 10) + 2) n_10) (5 * (z 10) + 3) n_15) (5 * (z 10) + 4) n_20))] : List va_W).flatten := hD
                have hK9 : rdT (ar 0) (z 9) (z 10) (z 8) (ar 1) = (upn (ar 1) (5 * (z 10)) (srtN (hrE (z 9) (ar 0) (z 8)))) := by unfold rdT; rw [if_neg (by rw [hE]; decide)]
                have hR : (rdR (ar 0) (z 9) (z 10) (z 8) (ar 1)) = (s_18, w_19, (upn (upn (upn (upn (upn (ar 1) (5 * (z 10)) (srtN (hrE (z 9) (ar 0) (z 8)))) (5 * (z 10) + 1) n_5) (5 * (z 10) + 2) n_10) (5 * (z 10) + 3) n_15) (5 * (z 10) + 4) n_20)) := by
                  unfold rdR
                  rw [if_pos (show hrE (z 9) (ar 0) (z 8) = 107 by omega), hK9]
                  unfold LJ9
                  rw [seqR_s hN_6, seqR_s hN_11, seqR_s hN_16, seqR_s hN_21]; rfl
                have hzq : (upn (upn (upn (upn (upn (upn (upn (upn (upn (upn z 11 0) 8 s_3) 11 w_4) 8 s_8) 11 w_9) 8 s_13) 11 w_14) 8 s_18) 11 w_19) 10 (z 10 + 1)) = upn (upn (upn z 8 s_18) 11 w_19) 10 (z 10 + 1) := by
                  funext j
                  by_cases e8 : j = 8 <;> by_cases e11 : j = 11 <;> by_cases e10 : j = 10 <;> first | (exfalso; omega) | simp [upn, e8, e11, e10]
                have haq : (upr (upr (upr (upr (upr ar 1 (upn (ar 1) (5 * (z 10)) (srtN (hrE (z 9) (ar 0) (z 8))))) 1 (upn (upn (ar 1) (5 * (z 10)) (srtN (hrE (z 9) (ar 0) (z 8)))) (5 * (z 10) + 1) n_5)) 1 (upn (upn (upn (ar 1) (5 * (z 10)) (srtN (hrE (z 9) (ar 0) (z 8)))) (5 * (z 10) + 1) n_5) (5 * (z 10) + 2) n_10)) 1 (upn (upn (upn (upn (ar 1) (5 * (z 10)) (srtN (hrE (z 9) (ar 0) (z 8)))) (5 * (z 10) + 1) n_5) (5 * (z 10) + 2) n_10) (5 * (z 10) + 3) n_15)) 1 (upn (upn (upn (upn (upn (ar 1) (5 * (z 10)) (srtN (hrE (z 9) (ar 0) (z 8)))) (5 * (z 10) + 1) n_5) (5 * (z 10) + 2) n_10) (5 * (z 10) + 3) n_15) (5 * (z 10) + 4) n_20)) = upr ar 1 (upn (upn (upn (upn (upn (ar 1) (5 * (z 10)) (srtN (hrE (z 9) (ar 0) (z 8)))) (5 * (z 10) + 1) n_5) (5 * (z 10) + 2) n_10) (5 * (z 10) + 3) n_15) (5 * (z 10) + 4) n_20) := by first | rfl | simp only [upr_upr]
                have hmE : moC E b (upn (upn (upn (upn (upn (upn (upn (upn (upn (upn z 11 0) 8 s_3) 11 w_4) 8 s_8) 11 w_9) 8 s_13) 11 w_14) 8 s_18) 11 w_19) 10 (z 10 + 1)) g gs (upr (upr (upr (upr (upr ar 1 (upn (ar 1) (5 * (z 10)) (srtN (hrE (z 9) (ar 0) (z 8))))) 1 (upn (upn (ar 1) (5 * (z 10)) (srtN (hrE (z 9) (ar 0) (z 8)))) (5 * (z 10) + 1) n_5)) 1 (upn (upn (upn (ar 1) (5 * (z 10)) (srtN (hrE (z 9) (ar 0) (z 8)))) (5 * (z 10) + 1) n_5) (5 * (z 10) + 2) n_10)) 1 (upn (upn (upn (upn (ar 1) (5 * (z 10)) (srtN (hrE (z 9) (ar 0) (z 8)))) (5 * (z 10) + 1) n_5) (5 * (z 10) + 2) n_10) (5 * (z 10) + 3) n_15)) 1 (upn (upn (upn (upn (upn (ar 1) (5 * (z 10)) (srtN (hrE (z 9) (ar 0) (z 8)))) (5 * (z 10) + 1) n_5) (5 * (z 10) + 2) n_10) (5 * (z 10) + 3) n_15) (5 * (z 10) + 4) n_20)) = moC E b (upn (upn (upn z 8 (rdR (ar 0) (z 9) (z 10) (z 8) (ar 1)).1) 11 (rdR (ar 0) (z 9) (z 10) (z 8) (ar 1)).2.1) 10 (z 10 + 1)) g gs (upr ar 1 (rdR (ar 0) (z 9) (z 10) (z 8) (ar 1)).2.2) := by rw [hR, hzq, haq]
                rw [hmE] at hP hD; clear hmE
                exact hret _ _ () _ _ hP hD hS trivial dX6_readsOne_223
              · exact absurd c_22 (by omega)
      by_cases k113 : ((hrE (z 9) (ar 0) (z 8 + 0) : Nat) : Int) - 1 = 113
      · skip
        refine nv_lk (X := ((hrE (z 9) (ar 0) (z 8 + 0) : Nat) : Int) - 1) hx hb (m1_t (by omega)) dX6_readsOne_50 (by decide) (by rw [k113]; first | done | decide) (tgt := 188) (by decide) ?_
        refine lv_aload_n hx hb dX6_readsOne_188 rfl (lv_at hl 2 rfl) ?_
        refine va_ldcS hx hb hown (hZ.2.2.2.2.1 37 ("CricketCooperativeModel", 212, "quarter") rfl).2 dX6_readsOne_189 ?_
        refine run_v (S := Unit) (run_V (As := [.ref (E.2.2 37)]) (rest := []) (bs := [moC E b (upn z 11 0) g gs (upr ar 1 (upn (ar 1) (5 * (z 10)) (srtN (hrE (z 9) (ar 0) (z 8)))))]) (cb := [moC E b (upn z 11 0) g gs (upr ar 1 (upn (ar 1) (5 * (z 10)) (srtN (hrE (z 9) (ar 0) (z 8)))))]) hx hb hml hown hts hK hZ hA (c_X6_says l E _ b (upn z 11 0) g gs (upr ar 1 (upn (ar 1) (5 * (z 10)) (srtN (hrE (z 9) (ar 0) (z 8))))) 37 ("CricketCooperativeModel", 212, "quarter") rfl (show z 8 ≤ z 9 by omega) (show z 9 ≤ 60 by omega) (show 0 ≤ 1 by omega) ho) l_X6_186 rfl ⟨⟨rfl, rfl⟩, Nat.le_of_ble_eq_true rfl, Nat.le_of_ble_eq_true rfl⟩ 10 rfl [0] rfl (by decide) rfl hP hD hS hl.1 rfl (Nat.le_of_ble_eq_true rfl) dX6_readsOne_191 ⟨Nat.zero_le _, Nat.zero_le _⟩) hA hP hD hS (isC := [0]) rfl [] [0] (br := []) (bs2 := fun _ => [moC E b (upn (upn (upn z 11 0) 8 ((sayR (ar 0) (z 9) (tl "quarter") (z 8) (0)).1)) 11 ((sayR (ar 0) (z 9) (tl "quarter") (z 8) (0)).2)) g gs (upr ar 1 (upn (ar 1) (5 * (z 10)) (srtN (hrE (z 9) (ar 0) (z 8)))))]) rfl (by decide) (fun _ => rfl) (by decide) (fun u H locs hw hP hD hS => ?_)
        have hS_25L := sayR_le (tx := (ar 0)) (l := tl "quarter") (w := 0) (show z 8 ≤ z 9 by omega)
        rcases hS_25 : sayR (ar 0) (z 9) (tl "quarter") (z 8) (0) with ⟨s1, s2⟩
        rw [hS_25] at hP hD hS_25L
        obtain ⟨hS_25a, hS_25b, hS_25c⟩ := hS_25L
        have hS_25d := hS_25c (by omega)
        have hS9 := hS_25
        have hP : va_P E.1 vwCl ([moC E b (upn (upn (upn z 11 0) 8 s1) 11 s2) g gs (upr ar 1 (upn (ar 1) (5 * (z 10)) (srtN (hrE (z 9) (ar 0) (z 8)))))] : List va_W).flatten H := hP
        have hD : va_D A ([moC E b (upn (upn (upn z 11 0) 8 s1) 11 s2) g gs (upr ar 1 (upn (ar 1) (5 * (z 10)) (srtN (hrE (z 9) (ar 0) (z 8)))))] : List va_W).flatten := hD
        refine lv_goto (tgt := 213) hx hb dX6_readsOne_194 (by decide) ?_
        refine lv_aload_n hx hb dX6_readsOne_213 rfl (lv_at hl 2 rfl) ?_
        refine lv_dup hx hb dX6_readsOne_214 rfl ?_
        refine va_get (D := E.1) (ci := 10) (v := .int (nI (z 10))) (C := RX6) (T := TX6) (N := 20) hx hb hts inX6 hown hK hP 0 rfl rfl 18 (by decide) (hts _ q1452) (fun _ h9 => h9) rfl dX6_readsOne_215 ?_
        refine lv_iconst (v := nI 1) hx hb dX6_readsOne_218 (by decide) ?_
        refine nv_iadd hx hb dX6_readsOne_219 ?_
        refine va_put (D := E.1) (ci := 10) (v := .int (nI (z 10 + 1))) (ty := .int) (C := RX6) (T := TX6) (N := 20) hx hb hts inX6 tyX6 tyX6_ok nmX6 hown hK hP hD hS 0 rfl rfl 18 (by decide) (hts _ q1452) (fun _ h9 => h9) rfl (by decide +kernel) rfl rfl (Nat.le_of_ble_eq_true rfl) dX6_readsOne_220 (fun H locs hP hD hS => ?_)
        have hP : va_P E.1 vwCl ([moC E b (upn (upn (upn (upn z 11 0) 8 s1) 11 s2) 10 (z 10 + 1)) g gs (upr ar 1 (upn (ar 1) (5 * (z 10)) (srtN (hrE (z 9) (ar 0) (z 8)))))] : List va_W).flatten H := hP
        have hD : va_D A ([moC E b (upn (upn (upn (upn z 11 0) 8 s1) 11 s2) 10 (z 10 + 1)) g gs (upr ar 1 (upn (ar 1) (5 * (z 10)) (srtN (hrE (z 9) (ar 0) (z 8)))))] : List va_W).flatten := hD
        have hK9 : rdT (ar 0) (z 9) (z 10) (z 8) (ar 1) = (upn (ar 1) (5 * (z 10)) (srtN (hrE (z 9) (ar 0) (z 8)))) := by unfold rdT; rw [if_neg (by rw [hE]; decide)]
        have hR : (rdR (ar 0) (z 9) (z 10) (z 8) (ar 1)) = (s1, s2, (upn (ar 1) (5 * (z 10)) (srtN (hrE (z 9) (ar 0) (z 8))))) := by
          unfold rdR
          rw [if_neg (show ¬ hrE (z 9) (ar 0) (z 8) = 107 by omega), if_neg (show ¬ hrE (z 9) (ar 0) (z 8) = 120 by omega), if_neg (show ¬ hrE (z 9) (ar 0) (z 8) = 117 by omega), if_neg (show ¬ hrE (z 9) (ar 0) (z 8) = 99 by omega), if_pos (show hrE (z 9) (ar 0) (z 8) = 114 by omega), hK9]
          rw [hS_25]
        have hzq : (upn (upn (upn (upn z 11 0) 8 s1) 11 s2) 10 (z 10 + 1)) = upn (upn (upn z 8 s1) 11 s2) 10 (z 10 + 1) := by
          funext j
          by_cases e8 : j = 8 <;> by_cases e11 : j = 11 <;> by_cases e10 : j = 10 <;> first | (exfalso; omega) | simp [upn, e8, e11, e10]
        have haq : (upr ar 1 (upn (ar 1) (5 * (z 10)) (srtN (hrE (z 9) (ar 0) (z 8))))) = upr ar 1 (upn (ar 1) (5 * (z 10)) (srtN (hrE (z 9) (ar 0) (z 8)))) := by first | rfl | simp only [upr_upr]
        have hmE : moC E b (upn (upn (upn (upn z 11 0) 8 s1) 11 s2) 10 (z 10 + 1)) g gs (upr ar 1 (upn (ar 1) (5 * (z 10)) (srtN (hrE (z 9) (ar 0) (z 8))))) = moC E b (upn (upn (upn z 8 (rdR (ar 0) (z 9) (z 10) (z 8) (ar 1)).1) 11 (rdR (ar 0) (z 9) (z 10) (z 8) (ar 1)).2.1) 10 (z 10 + 1)) g gs (upr ar 1 (rdR (ar 0) (z 9) (z 10) (z 8) (ar 1)).2.2) := by rw [hR, hzq, haq]
        rw [hmE] at hP hD; clear hmE
        exact hret _ _ () _ _ hP hD hS trivial dX6_readsOne_223
      by_cases k116 : ((hrE (z 9) (ar 0) (z 8 + 0) : Nat) : Int) - 1 = 116
      · skip
        refine nv_lk (X := ((hrE (z 9) (ar 0) (z 8 + 0) : Nat) : Int) - 1) hx hb (m1_t (by omega)) dX6_readsOne_50 (by decide) (by rw [k116]; first | done | decide) (tgt := 151) (by decide) ?_
        refine lv_aload_n hx hb dX6_readsOne_151 rfl (lv_at hl 2 rfl) ?_
        refine va_ldcS hx hb hown (hZ.2.2.2.2.1 34 ("CricketCooperativeModel", 206, "tune ") rfl).2 dX6_readsOne_152 ?_
        refine lv_iconst (v := nI 1) hx hb dX6_readsOne_154 (by decide) ?_
        refine lv_iconst (v := nI 2) hx hb dX6_readsOne_155 (by decide) ?_
        refine run_v (S := Unit) (run_V (As := [.ref (E.2.2 34), .int (nI 1), .int (nI 2)]) (rest := []) (bs := [moC E b (upn z 11 0) g gs (upr ar 1 (upn (ar 1) (5 * (z 10)) (srtN (hrE (z 9) (ar 0) (z 8)))))]) (cb := [moC E b (upn z 11 0) g gs (upr ar 1 (upn (ar 1) (5 * (z 10)) (srtN (hrE (z 9) (ar 0) (z 8)))))]) hx hb hml hown hts hK hZ hA (c_X6_two l E _ b (upn z 11 0) g gs (upr ar 1 (upn (ar 1) (5 * (z 10)) (srtN (hrE (z 9) (ar 0) (z 8))))) 34 ("CricketCooperativeModel", 206, "tune ") rfl 1 2 (show z 8 ≤ z 9 by omega) (show z 9 ≤ 60 by omega) (show 0 ≤ 1 by omega) ho (show z 10 ≤ 50 by omega) (by omega) (by omega)) l_X6_203 rfl ⟨⟨rfl, rfl⟩, Nat.le_of_ble_eq_true rfl, Nat.le_of_ble_eq_true rfl⟩ 10 rfl [0] rfl (by decide) rfl hP hD hS hl.1 rfl (Nat.le_of_ble_eq_true rfl) dX6_readsOne_156 ⟨Nat.zero_le _, Nat.zero_le _⟩) hA hP hD hS (isC := [0]) rfl [] [0] (br := []) (bs2 := fun _ => [moC E b (upn (upn (upn z 11 0) 8 ((seqR (ar 0) (z 9) (z 10) [(tl "tune ", 1, 1), (tl " ", 2, 2)] (z 8, 0, (upn (ar 1) (5 * (z 10)) (srtN (hrE (z 9) (ar 0) (z 8)))))).1)) 11 ((seqR (ar 0) (z 9) (z 10) [(tl "tune ", 1, 1), (tl " ", 2, 2)] (z 8, 0, (upn (ar 1) (5 * (z 10)) (srtN (hrE (z 9) (ar 0) (z 8)))))).2.1)) g gs (upr (upr ar 1 (upn (ar 1) (5 * (z 10)) (srtN (hrE (z 9) (ar 0) (z 8))))) 1 ((seqR (ar 0) (z 9) (z 10) [(tl "tune ", 1, 1), (tl " ", 2, 2)] (z 8, 0, (upn (ar 1) (5 * (z 10)) (srtN (hrE (z 9) (ar 0) (z 8)))))).2.2))]) rfl (by decide) (fun _ => rfl) (by decide) (fun u H locs hw hP hD hS => ?_)
        rcases hT_29 : seqR (ar 0) (z 9) (z 10) [(tl "tune ", 1, 1), (tl " ", 2, 2)] (z 8, 0, (upn (ar 1) (5 * (z 10)) (srtN (hrE (z 9) (ar 0) (z 8))))) with ⟨s_26, w_27, t_28⟩
        rw [hT_29] at hP hD
        have hP : va_P E.1 vwCl ([moC E b (upn (upn (upn z 11 0) 8 s_26) 11 w_27) g gs (upr (upr ar 1 (upn (ar 1) (5 * (z 10)) (srtN (hrE (z 9) (ar 0) (z 8))))) 1 t_28)] : List va_W).flatten H := hP
        have hD : va_D A ([moC E b (upn (upn (upn z 11 0) 8 s_26) 11 w_27) g gs (upr (upr ar 1 (upn (ar 1) (5 * (z 10)) (srtN (hrE (z 9) (ar 0) (z 8))))) 1 t_28)] : List va_W).flatten := hD
        refine lv_goto (tgt := 213) hx hb dX6_readsOne_159 (by decide) ?_
        refine lv_aload_n hx hb dX6_readsOne_213 rfl (lv_at hl 2 rfl) ?_
        refine lv_dup hx hb dX6_readsOne_214 rfl ?_
        refine va_get (D := E.1) (ci := 10) (v := .int (nI (z 10))) (C := RX6) (T := TX6) (N := 20) hx hb hts inX6 hown hK hP 0 rfl rfl 18 (by decide) (hts _ q1452) (fun _ h9 => h9) rfl dX6_readsOne_215 ?_
        refine lv_iconst (v := nI 1) hx hb dX6_readsOne_218 (by decide) ?_
        refine nv_iadd hx hb dX6_readsOne_219 ?_
        refine va_put (D := E.1) (ci := 10) (v := .int (nI (z 10 + 1))) (ty := .int) (C := RX6) (T := TX6) (N := 20) hx hb hts inX6 tyX6 tyX6_ok nmX6 hown hK hP hD hS 0 rfl rfl 18 (by decide) (hts _ q1452) (fun _ h9 => h9) rfl (by decide +kernel) rfl rfl (Nat.le_of_ble_eq_true rfl) dX6_readsOne_220 (fun H locs hP hD hS => ?_)
        have hP : va_P E.1 vwCl ([moC E b (upn (upn (upn (upn z 11 0) 8 s_26) 11 w_27) 10 (z 10 + 1)) g gs (upr (upr ar 1 (upn (ar 1) (5 * (z 10)) (srtN (hrE (z 9) (ar 0) (z 8))))) 1 t_28)] : List va_W).flatten H := hP
        have hD : va_D A ([moC E b (upn (upn (upn (upn z 11 0) 8 s_26) 11 w_27) 10 (z 10 + 1)) g gs (upr (upr ar 1 (upn (ar 1) (5 * (z 10)) (srtN (hrE (z 9) (ar 0) (z 8))))) 1 t_28)] : List va_W).flatten := hD
        have hK9 : rdT (ar 0) (z 9) (z 10) (z 8) (ar 1) = (upn (ar 1) (5 * (z 10)) (srtN (hrE (z 9) (ar 0) (z 8)))) := by unfold rdT; rw [if_neg (by rw [hE]; decide)]
        have hR : (rdR (ar 0) (z 9) (z 10) (z 8) (ar 1)) = (s_26, w_27, t_28) := by
          unfold rdR
          rw [if_neg (show ¬ hrE (z 9) (ar 0) (z 8) = 107 by omega), if_neg (show ¬ hrE (z 9) (ar 0) (z 8) = 120 by omega), if_pos (show hrE (z 9) (ar 0) (z 8) = 117 by omega), hK9]
          exact hT_29
        have hzq : (upn (upn (upn (upn z 11 0) 8 s_26) 11 w_27) 10 (z 10 + 1)) = upn (upn (upn z 8 s_26) 11 w_27) 10 (z 10 + 1) := by
          funext j
          by_cases e8 : j = 8 <;> by_cases e11 : j = 11 <;> by_cases e10 : j = 10 <;> first | (exfalso; omega) | simp [upn, e8, e11, e10]
        have haq : (upr (upr ar 1 (upn (ar 1) (5 * (z 10)) (srtN (hrE (z 9) (ar 0) (z 8))))) 1 t_28) = upr ar 1 t_28 := by first | rfl | simp only [upr_upr]
        have hmE : moC E b (upn (upn (upn (upn z 11 0) 8 s_26) 11 w_27) 10 (z 10 + 1)) g gs (upr (upr ar 1 (upn (ar 1) (5 * (z 10)) (srtN (hrE (z 9) (ar 0) (z 8))))) 1 t_28) = moC E b (upn (upn (upn z 8 (rdR (ar 0) (z 9) (z 10) (z 8) (ar 1)).1) 11 (rdR (ar 0) (z 9) (z 10) (z 8) (ar 1)).2.1) 10 (z 10 + 1)) g gs (upr ar 1 (rdR (ar 0) (z 9) (z 10) (z 8) (ar 1)).2.2) := by rw [hR, hzq, haq]
        rw [hmE] at hP hD; clear hmE
        exact hret _ _ () _ _ hP hD hS trivial dX6_readsOne_223
      by_cases k118 : ((hrE (z 9) (ar 0) (z 8 + 0) : Nat) : Int) - 1 = 118
      · skip
        refine nv_lk (X := ((hrE (z 9) (ar 0) (z 8 + 0) : Nat) : Int) - 1) hx hb (m1_t (by omega)) dX6_readsOne_50 (by decide) (by rw [k118]; first | done | decide) (tgt := 197) (by decide) ?_
        refine lv_aload_n hx hb dX6_readsOne_197 rfl (lv_at hl 2 rfl) ?_
        refine va_ldcS hx hb hown (hZ.2.2.2.2.1 38 ("CricketCooperativeModel", 214, "vote ") rfl).2 dX6_readsOne_198 ?_
        refine lv_iconst (v := nI 2) hx hb dX6_readsOne_200 (by decide) ?_
        refine lv_iconst (v := nI 1) hx hb dX6_readsOne_201 (by decide) ?_
        refine run_v (S := Unit) (run_V (As := [.ref (E.2.2 38), .int (nI 2), .int (nI 1)]) (rest := []) (bs := [moC E b (upn z 11 0) g gs (upr ar 1 (upn (ar 1) (5 * (z 10)) (srtN (hrE (z 9) (ar 0) (z 8)))))]) (cb := [moC E b (upn z 11 0) g gs (upr ar 1 (upn (ar 1) (5 * (z 10)) (srtN (hrE (z 9) (ar 0) (z 8)))))]) hx hb hml hown hts hK hZ hA (c_X6_two l E _ b (upn z 11 0) g gs (upr ar 1 (upn (ar 1) (5 * (z 10)) (srtN (hrE (z 9) (ar 0) (z 8))))) 38 ("CricketCooperativeModel", 214, "vote ") rfl 2 1 (show z 8 ≤ z 9 by omega) (show z 9 ≤ 60 by omega) (show 0 ≤ 1 by omega) ho (show z 10 ≤ 50 by omega) (by omega) (by omega)) l_X6_203 rfl ⟨⟨rfl, rfl⟩, Nat.le_of_ble_eq_true rfl, Nat.le_of_ble_eq_true rfl⟩ 10 rfl [0] rfl (by decide) rfl hP hD hS hl.1 rfl (Nat.le_of_ble_eq_true rfl) dX6_readsOne_202 ⟨Nat.zero_le _, Nat.zero_le _⟩) hA hP hD hS (isC := [0]) rfl [] [0] (br := []) (bs2 := fun _ => [moC E b (upn (upn (upn z 11 0) 8 ((seqR (ar 0) (z 9) (z 10) [(tl "vote ", 1, 2), (tl " ", 2, 1)] (z 8, 0, (upn (ar 1) (5 * (z 10)) (srtN (hrE (z 9) (ar 0) (z 8)))))).1)) 11 ((seqR (ar 0) (z 9) (z 10) [(tl "vote ", 1, 2), (tl " ", 2, 1)] (z 8, 0, (upn (ar 1) (5 * (z 10)) (srtN (hrE (z 9) (ar 0) (z 8)))))).2.1)) g gs (upr (upr ar 1 (upn (ar 1) (5 * (z 10)) (srtN (hrE (z 9) (ar 0) (z 8))))) 1 ((seqR (ar 0) (z 9) (z 10) [(tl "vote ", 1, 2), (tl " ", 2, 1)] (z 8, 0, (upn (ar 1) (5 * (z 10)) (srtN (hrE (z 9) (ar 0) (z 8)))))).2.2))]) rfl (by decide) (fun _ => rfl) (by decide) (fun u H locs hw hP hD hS => ?_)
        rcases hT_33 : seqR (ar 0) (z 9) (z 10) [(tl "vote ", 1, 2), (tl " ", 2, 1)] (z 8, 0, (upn (ar 1) (5 * (z 10)) (srtN (hrE (z 9) (ar 0) (z 8))))) with ⟨s_30, w_31, t_32⟩
        rw [hT_33] at hP hD
        have hP : va_P E.1 vwCl ([moC E b (upn (upn (upn z 11 0) 8 s_30) 11 w_31) g gs (upr (upr ar 1 (upn (ar 1) (5 * (z 10)) (srtN (hrE (z 9) (ar 0) (z 8))))) 1 t_32)] : List va_W).flatten H := hP
        have hD : va_D A ([moC E b (upn (upn (upn z 11 0) 8 s_30) 11 w_31) g gs (upr (upr ar 1 (upn (ar 1) (5 * (z 10)) (srtN (hrE (z 9) (ar 0) (z 8))))) 1 t_32)] : List va_W).flatten := hD
        refine lv_goto (tgt := 213) hx hb dX6_readsOne_205 (by decide) ?_
        refine lv_aload_n hx hb dX6_readsOne_213 rfl (lv_at hl 2 rfl) ?_
        refine lv_dup hx hb dX6_readsOne_214 rfl ?_
        refine va_get (D := E.1) (ci := 10) (v := .int (nI (z 10))) (C := RX6) (T := TX6) (N := 20) hx hb hts inX6 hown hK hP 0 rfl rfl 18 (by decide) (hts _ q1452) (fun _ h9 => h9) rfl dX6_readsOne_215 ?_
        refine lv_iconst (v := nI 1) hx hb dX6_readsOne_218 (by decide) ?_
        refine nv_iadd hx hb dX6_readsOne_219 ?_
        refine va_put (D := E.1) (ci := 10) (v := .int (nI (z 10 + 1))) (ty := .int) (C := RX6) (T := TX6) (N := 20) hx hb hts inX6 tyX6 tyX6_ok nmX6 hown hK hP hD hS 0 rfl rfl 18 (by decide) (hts _ q1452) (fun _ h9 => h9) rfl (by decide +kernel) rfl rfl (Nat.le_of_ble_eq_true rfl) dX6_readsOne_220 (fun H locs hP hD hS => ?_)
        have hP : va_P E.1 vwCl ([moC E b (upn (upn (upn (upn z 11 0) 8 s_30) 11 w_31) 10 (z 10 + 1)) g gs (upr (upr ar 1 (upn (ar 1) (5 * (z 10)) (srtN (hrE (z 9) (ar 0) (z 8))))) 1 t_32)] : List va_W).flatten H := hP
        have hD : va_D A ([moC E b (upn (upn (upn (upn z 11 0) 8 s_30) 11 w_31) 10 (z 10 + 1)) g gs (upr (upr ar 1 (upn (ar 1) (5 * (z 10)) (srtN (hrE (z 9) (ar 0) (z 8))))) 1 t_32)] : List va_W).flatten := hD
        have hK9 : rdT (ar 0) (z 9) (z 10) (z 8) (ar 1) = (upn (ar 1) (5 * (z 10)) (srtN (hrE (z 9) (ar 0) (z 8)))) := by unfold rdT; rw [if_neg (by rw [hE]; decide)]
        have hR : (rdR (ar 0) (z 9) (z 10) (z 8) (ar 1)) = (s_30, w_31, t_32) := by
          unfold rdR
          rw [if_neg (show ¬ hrE (z 9) (ar 0) (z 8) = 107 by omega), if_neg (show ¬ hrE (z 9) (ar 0) (z 8) = 120 by omega), if_neg (show ¬ hrE (z 9) (ar 0) (z 8) = 117 by omega), if_neg (show ¬ hrE (z 9) (ar 0) (z 8) = 99 by omega), if_neg (show ¬ hrE (z 9) (ar 0) (z 8) = 114 by omega), if_pos (show hrE (z 9) (ar 0) (z 8) = 119 by omega), hK9]
          exact hT_33
        have hzq : (upn (upn (upn (upn z 11 0) 8 s_30) 11 w_31) 10 (z 10 + 1)) = upn (upn (upn z 8 s_30) 11 w_31) 10 (z 10 + 1) := by
          funext j
          by_cases e8 : j = 8 <;> by_cases e11 : j = 11 <;> by_cases e10 : j = 10 <;> first | (exfalso; omega) | simp [upn, e8, e11, e10]
        have haq : (upr (upr ar 1 (upn (ar 1) (5 * (z 10)) (srtN (hrE (z 9) (ar 0) (z 8))))) 1 t_32) = upr ar 1 t_32 := by first | rfl | simp only [upr_upr]
        have hmE : moC E b (upn (upn (upn (upn z 11 0) 8 s_30) 11 w_31) 10 (z 10 + 1)) g gs (upr (upr ar 1 (upn (ar 1) (5 * (z 10)) (srtN (hrE (z 9) (ar 0) (z 8))))) 1 t_32) = moC E b (upn (upn (upn z 8 (rdR (ar 0) (z 9) (z 10) (z 8) (ar 1)).1) 11 (rdR (ar 0) (z 9) (z 10) (z 8) (ar 1)).2.1) 10 (z 10 + 1)) g gs (upr ar 1 (rdR (ar 0) (z 9) (z 10) (z 8) (ar 1)).2.2) := by rw [hR, hzq, haq]
        rw [hmE] at hP hD; clear hmE
        exact hret _ _ () _ _ hP hD hS trivial dX6_readsOne_223
      by_cases k119 : ((hrE (z 9) (ar 0) (z 8 + 0) : Nat) : Int) - 1 = 119
      · skip
        refine nv_lk (X := ((hrE (z 9) (ar 0) (z 8 + 0) : Nat) : Int) - 1) hx hb (m1_t (by omega)) dX6_readsOne_50 (by decide) (by rw [k119]; first | done | decide) (tgt := 140) (by decide) ?_
        refine lv_aload_n hx hb dX6_readsOne_140 rfl (lv_at hl 2 rfl) ?_
        refine va_ldcS hx hb hown (hZ.2.2.2.2.1 33 ("CricketCooperativeModel", 201, "wind ") rfl).2 dX6_readsOne_141 ?_
        refine lv_iconst (v := nI 1) hx hb dX6_readsOne_143 (by decide) ?_
        refine lv_iconst (v := nI 2) hx hb dX6_readsOne_144 (by decide) ?_
        refine run_v (S := Unit) (run_V (As := [.ref (E.2.2 33), .int (nI 1), .int (nI 2)]) (rest := []) (bs := [moC E b (upn z 11 0) g gs (upr ar 1 (upn (ar 1) (5 * (z 10)) (srtN (hrE (z 9) (ar 0) (z 8)))))]) (cb := [moC E b (upn z 11 0) g gs (upr ar 1 (upn (ar 1) (5 * (z 10)) (srtN (hrE (z 9) (ar 0) (z 8)))))]) hx hb hml hown hts hK hZ hA (c_X6_two l E _ b (upn z 11 0) g gs (upr ar 1 (upn (ar 1) (5 * (z 10)) (srtN (hrE (z 9) (ar 0) (z 8))))) 33 ("CricketCooperativeModel", 201, "wind ") rfl 1 2 (show z 8 ≤ z 9 by omega) (show z 9 ≤ 60 by omega) (show 0 ≤ 1 by omega) ho (show z 10 ≤ 50 by omega) (by omega) (by omega)) l_X6_203 rfl ⟨⟨rfl, rfl⟩, Nat.le_of_ble_eq_true rfl, Nat.le_of_ble_eq_true rfl⟩ 10 rfl [0] rfl (by decide) rfl hP hD hS hl.1 rfl (Nat.le_of_ble_eq_true rfl) dX6_readsOne_145 ⟨Nat.zero_le _, Nat.zero_le _⟩) hA hP hD hS (isC := [0]) rfl [] [0] (br := []) (bs2 := fun _ => [moC E b (upn (upn (upn z 11 0) 8 ((seqR (ar 0) (z 9) (z 10) [(tl "wind ", 1, 1), (tl " ", 2, 2)] (z 8, 0, (upn (ar 1) (5 * (z 10)) (srtN (hrE (z 9) (ar 0) (z 8)))))).1)) 11 ((seqR (ar 0) (z 9) (z 10) [(tl "wind ", 1, 1), (tl " ", 2, 2)] (z 8, 0, (upn (ar 1) (5 * (z 10)) (srtN (hrE (z 9) (ar 0) (z 8)))))).2.1)) g gs (upr (upr ar 1 (upn (ar 1) (5 * (z 10)) (srtN (hrE (z 9) (ar 0) (z 8))))) 1 ((seqR (ar 0) (z 9) (z 10) [(tl "wind ", 1, 1), (tl " ", 2, 2)] (z 8, 0, (upn (ar 1) (5 * (z 10)) (srtN (hrE (z 9) (ar 0) (z 8)))))).2.2))]) rfl (by decide) (fun _ => rfl) (by decide) (fun u H locs hw hP hD hS => ?_)
        rcases hT_37 : seqR (ar 0) (z 9) (z 10) [(tl "wind ", 1, 1), (tl " ", 2, 2)] (z 8, 0, (upn (ar 1) (5 * (z 10)) (srtN (hrE (z 9) (ar 0) (z 8))))) with ⟨s_34, w_35, t_36⟩
        rw [hT_37] at hP hD
        have hP : va_P E.1 vwCl ([moC E b (upn (upn (upn z 11 0) 8 s_34) 11 w_35) g gs (upr (upr ar 1 (upn (ar 1) (5 * (z 10)) (srtN (hrE (z 9) (ar 0) (z 8))))) 1 t_36)] : List va_W).flatten H := hP
        have hD : va_D A ([moC E b (upn (upn (upn z 11 0) 8 s_34) 11 w_35) g gs (upr (upr ar 1 (upn (ar 1) (5 * (z 10)) (srtN (hrE (z 9) (ar 0) (z 8))))) 1 t_36)] : List va_W).flatten := hD
        refine lv_goto (tgt := 213) hx hb dX6_readsOne_148 (by decide) ?_
        refine lv_aload_n hx hb dX6_readsOne_213 rfl (lv_at hl 2 rfl) ?_
        refine lv_dup hx hb dX6_readsOne_214 rfl ?_
        refine va_get (D := E.1) (ci := 10) (v := .int (nI (z 10))) (C := RX6) (T := TX6) (N := 20) hx hb hts inX6 hown hK hP 0 rfl rfl 18 (by decide) (hts _ q1452) (fun _ h9 => h9) rfl dX6_readsOne_215 ?_
        refine lv_iconst (v := nI 1) hx hb dX6_readsOne_218 (by decide) ?_
        refine nv_iadd hx hb dX6_readsOne_219 ?_
        refine va_put (D := E.1) (ci := 10) (v := .int (nI (z 10 + 1))) (ty := .int) (C := RX6) (T := TX6) (N := 20) hx hb hts inX6 tyX6 tyX6_ok nmX6 hown hK hP hD hS 0 rfl rfl 18 (by decide) (hts _ q1452) (fun _ h9 => h9) rfl (by decide +kernel) rfl rfl (Nat.le_of_ble_eq_true rfl) dX6_readsOne_220 (fun H locs hP hD hS => ?_)
        have hP : va_P E.1 vwCl ([moC E b (upn (upn (upn (upn z 11 0) 8 s_34) 11 w_35) 10 (z 10 + 1)) g gs (upr (upr ar 1 (upn (ar 1) (5 * (z 10)) (srtN (hrE (z 9) (ar 0) (z 8))))) 1 t_36)] : List va_W).flatten H := hP
        have hD : va_D A ([moC E b (upn (upn (upn (upn z 11 0) 8 s_34) 11 w_35) 10 (z 10 + 1)) g gs (upr (upr ar 1 (upn (ar 1) (5 * (z 10)) (srtN (hrE (z 9) (ar 0) (z 8))))) 1 t_36)] : List va_W).flatten := hD
        have hK9 : rdT (ar 0) (z 9) (z 10) (z 8) (ar 1) = (upn (ar 1) (5 * (z 10)) (srtN (hrE (z 9) (ar 0) (z 8)))) := by unfold rdT; rw [if_neg (by rw [hE]; decide)]
        have hR : (rdR (ar 0) (z 9) (z 10) (z 8) (ar 1)) = (s_34, w_35, t_36) := by
          unfold rdR
          rw [if_neg (show ¬ hrE (z 9) (ar 0) (z 8) = 107 by omega), if_pos (show hrE (z 9) (ar 0) (z 8) = 120 by omega), hK9]
          exact hT_37
        have hzq : (upn (upn (upn (upn z 11 0) 8 s_34) 11 w_35) 10 (z 10 + 1)) = upn (upn (upn z 8 s_34) 11 w_35) 10 (z 10 + 1) := by
          funext j
          by_cases e8 : j = 8 <;> by_cases e11 : j = 11 <;> by_cases e10 : j = 10 <;> first | (exfalso; omega) | simp [upn, e8, e11, e10]
        have haq : (upr (upr ar 1 (upn (ar 1) (5 * (z 10)) (srtN (hrE (z 9) (ar 0) (z 8))))) 1 t_36) = upr ar 1 t_36 := by first | rfl | simp only [upr_upr]
        have hmE : moC E b (upn (upn (upn (upn z 11 0) 8 s_34) 11 w_35) 10 (z 10 + 1)) g gs (upr (upr ar 1 (upn (ar 1) (5 * (z 10)) (srtN (hrE (z 9) (ar 0) (z 8))))) 1 t_36) = moC E b (upn (upn (upn z 8 (rdR (ar 0) (z 9) (z 10) (z 8) (ar 1)).1) 11 (rdR (ar 0) (z 9) (z 10) (z 8) (ar 1)).2.1) 10 (z 10 + 1)) g gs (upr ar 1 (rdR (ar 0) (z 9) (z 10) (z 8) (ar 1)).2.2) := by rw [hR, hzq, haq]
        rw [hmE] at hP hD; clear hmE
        exact hret _ _ () _ _ hP hD hS trivial dX6_readsOne_223
      refine nv_lk (X := ((hrE (z 9) (ar 0) (z 8 + 0) : Nat) : Int) - 1) hx hb (m1_t (by omega)) dX6_readsOne_50 (by decide) (show Op.lookupswitch.offset [((98 : Int), (112 : Int)), ((106 : Int), (58 : Int)), ((113 : Int), (138 : Int)), ((116 : Int), (101 : Int)), ((118 : Int), (147 : Int)), ((119 : Int), (90 : Int))] 158 _ = 158 from by rw [osw9 k98, osw9 k106, osw9 k113, osw9 k116, osw9 k118, osw9 k119]; rfl) (tgt := 208) (by decide) ?_
      refine lv_aload_n hx hb dX6_readsOne_208 rfl (lv_at hl 2 rfl) ?_
      refine lv_iconst (v := nI 1) hx hb dX6_readsOne_209 (by decide) ?_
      refine va_put (D := E.1) (ci := 10) (v := .int (nI 1)) (ty := .boolean) (C := RX6) (T := TX6) (N := 20) hx hb hts inX6 tyX6 tyX6_ok nmX6 hown hK hP hD hS 0 rfl rfl 19 (by decide) (hts _ q1453) (fun _ h9 => h9) rfl (by decide +kernel) (by decide) rfl (Nat.le_of_ble_eq_true rfl) dX6_readsOne_210 (fun H locs hP hD hS => ?_)
      have hP : va_P E.1 vwCl ([moC E b (upn (upn z 11 0) 11 1) g gs (upr ar 1 (upn (ar 1) (5 * (z 10)) (srtN (hrE (z 9) (ar 0) (z 8)))))] : List va_W).flatten H := hP
      have hD : va_D A ([moC E b (upn (upn z 11 0) 11 1) g gs (upr ar 1 (upn (ar 1) (5 * (z 10)) (srtN (hrE (z 9) (ar 0) (z 8)))))] : List va_W).flatten := hD
      refine lv_aload_n hx hb dX6_readsOne_213 rfl (lv_at hl 2 rfl) ?_
      refine lv_dup hx hb dX6_readsOne_214 rfl ?_
      refine va_get (D := E.1) (ci := 10) (v := .int (nI (z 10))) (C := RX6) (T := TX6) (N := 20) hx hb hts inX6 hown hK hP 0 rfl rfl 18 (by decide) (hts _ q1452) (fun _ h9 => h9) rfl dX6_readsOne_215 ?_
      refine lv_iconst (v := nI 1) hx hb dX6_readsOne_218 (by decide) ?_
      refine nv_iadd hx hb dX6_readsOne_219 ?_
      refine va_put (D := E.1) (ci := 10) (v := .int (nI (z 10 + 1))) (ty := .int) (C := RX6) (T := TX6) (N := 20) hx hb hts inX6 tyX6 tyX6_ok nmX6 hown hK hP hD hS 0 rfl rfl 18 (by decide) (hts _ q1452) (fun _ h9 => h9) rfl (by decide +kernel) rfl rfl (Nat.le_of_ble_eq_true rfl) dX6_readsOne_220 (fun H locs hP hD hS => ?_)
      have hP : va_P E.1 vwCl ([moC E b (upn (upn (upn z 11 0) 11 1) 10 (z 10 + 1)) g gs (upr ar 1 (upn (ar 1) (5 * (z 10)) (srtN (hrE (z 9) (ar 0) (z 8)))))] : List va_W).flatten H := hP
      have hD : va_D A ([moC E b (upn (upn (upn z 11 0) 11 1) 10 (z 10 + 1)) g gs (upr ar 1 (upn (ar 1) (5 * (z 10)) (srtN (hrE (z 9) (ar 0) (z 8)))))] : List va_W).flatten := hD
      have hK9 : rdT (ar 0) (z 9) (z 10) (z 8) (ar 1) = (upn (ar 1) (5 * (z 10)) (srtN (hrE (z 9) (ar 0) (z 8)))) := by unfold rdT; rw [if_neg (by rw [hE]; decide)]
      have hR : (rdR (ar 0) (z 9) (z 10) (z 8) (ar 1)) = (z 8, 1, (upn (ar 1) (5 * (z 10)) (srtN (hrE (z 9) (ar 0) (z 8))))) := by
        unfold rdR
        rw [if_neg (show ¬ hrE (z 9) (ar 0) (z 8) = 107 by omega), if_neg (show ¬ hrE (z 9) (ar 0) (z 8) = 120 by omega), if_neg (show ¬ hrE (z 9) (ar 0) (z 8) = 117 by omega), if_neg (show ¬ hrE (z 9) (ar 0) (z 8) = 99 by omega), if_neg (show ¬ hrE (z 9) (ar 0) (z 8) = 114 by omega), if_neg (show ¬ hrE (z 9) (ar 0) (z 8) = 119 by omega), hK9]
      have hzq : (upn (upn (upn z 11 0) 11 1) 10 (z 10 + 1)) = upn (upn (upn z 8 (z 8)) 11 1) 10 (z 10 + 1) := by
        funext j
        by_cases e8 : j = 8 <;> by_cases e11 : j = 11 <;> by_cases e10 : j = 10 <;> first | (exfalso; omega) | simp [upn, e8, e11, e10]
      have haq : (upr ar 1 (upn (ar 1) (5 * (z 10)) (srtN (hrE (z 9) (ar 0) (z 8))))) = upr ar 1 (upn (ar 1) (5 * (z 10)) (srtN (hrE (z 9) (ar 0) (z 8)))) := by first | rfl | simp only [upr_upr]
      have hmE : moC E b (upn (upn (upn z 11 0) 11 1) 10 (z 10 + 1)) g gs (upr ar 1 (upn (ar 1) (5 * (z 10)) (srtN (hrE (z 9) (ar 0) (z 8))))) = moC E b (upn (upn (upn z 8 (rdR (ar 0) (z 9) (z 10) (z 8) (ar 1)).1) 11 (rdR (ar 0) (z 9) (z 10) (z 8) (ar 1)).2.1) 10 (z 10 + 1)) g gs (upr ar 1 (rdR (ar 0) (z 9) (z 10) (z 8) (ar 1)).2.2) := by rw [hR, hzq, haq]
      rw [hmE] at hP hD; clear hmE
      exact hret _ _ () _ _ hP hD hS trivial dX6_readsOne_223
    · exact absurd c_2 (by omega)
  · skip
    refine lv_aload_n hx hb dX6_readsOne_12 rfl (lv_at hl 1 rfl) ?_
    refine lv_iconst (v := nI 1) hx hb dX6_readsOne_13 (by decide) ?_
    refine run_i (S := Unit) (run_V (As := [.int (nI 1)]) (rest := []) (bs := [moC E b (upn z 11 0) g gs ar]) (cb := [moC E b (upn z 11 0) g gs ar]) hx hb hml hown hts hK hZ hA (c_X6_here l E _ b (upn z 11 0) g gs ar 1 (show z 8 + 1 < 1000 by omega) (show z 9 ≤ 60 by omega)) l_X6_179 rfl ⟨⟨rfl, rfl⟩, Nat.le_of_ble_eq_true rfl, Nat.le_of_ble_eq_true rfl⟩ 10 rfl [0] rfl (by decide) rfl hP hD hS hl.1 rfl (Nat.le_of_ble_eq_true rfl) dX6_readsOne_14 ⟨Nat.zero_le _, Nat.zero_le _⟩) hA hP hD hS (isC := [0]) rfl [] [0] (br := []) (bs2 := fun _ => [moC E b (upn z 11 0) g gs ar]) rfl (by decide) (fun _ => rfl) (by decide) (fun r u H locs hw hP hD hS => ?_)
    have hw : r = nI (hrE (z 9) (ar 0) (z 8 + 1)) - 1 := hw
    subst hw
    have hhr := hrE_le (e := z 9) (sp := z 8 + 1) (tx := (ar 0)) ho
    refine lv_bipush (v := nI 101) hx hb dX6_readsOne_17 (by decide) ?_
    refine nv_icmp_ne (X := ((hrE (z 9) (ar 0) (z 8 + 1) : Nat) : Int) - 1) (Y := ((101 : Nat) : Int)) hx hb (m1_t (by omega)) (nI_toInt (by omega)) (tgt := 26) dX6_readsOne_19 (by decide) (fun c_38 => ?_) (fun c_38 => ?_)
    · skip
      have hE : isE (ar 0) (z 9) (z 8) = false := decide_eq_false (fun q => by have := q.2; omega)
      refine lv_iconst (v := nI 0) hx hb dX6_readsOne_26 (by decide) ?_
      refine lv_istore_n (lv' := [(2, .int (nI 0)), (1, .int (nI (hrE (z 9) (ar 0) (z 8 + 0)) - 1)), (0, .ref (b 0))]) hx hb dX6_readsOne_27 rfl hl (by decide) rfl (fun ls hl => ?_)
      refine lv_aload_n hx hb dX6_readsOne_28 rfl (lv_at hl 2 rfl) ?_
      refine va_get (D := E.1) (ci := 10) (v := .ref (b 7)) (C := RX6) (T := TX6) (N := 20) hx hb hts inX6 hown hK hP 0 rfl rfl 9 (by decide) (hts _ q1443) (fun _ h9 => h9) rfl dX6_readsOne_29 ?_
      refine lv_iconst (v := nI 5) hx hb dX6_readsOne_32 (by decide) ?_
      refine lv_aload_n hx hb dX6_readsOne_33 rfl (lv_at hl 2 rfl) ?_
      refine va_get (D := E.1) (ci := 10) (v := .int (nI (z 10))) (C := RX6) (T := TX6) (N := 20) hx hb hts inX6 hown hK hP 0 rfl rfl 18 (by decide) (hts _ q1452) (fun _ h9 => h9) rfl dX6_readsOne_34 ?_
      refine nv_imul hx hb dX6_readsOne_37 ?_
      refine lv_iload_n hx hb dX6_readsOne_38 rfl (lv_at hl 0 rfl) ?_
      refine nv_if_eq (X := ((0 : Nat) : Int)) hx hb (nI_toInt (by omega)) (tgt := 47) dX6_readsOne_39 (by decide) (fun c_39 => ?_) (fun c_39 => ?_)
      · skip
        refine lv_iload_n hx hb dX6_readsOne_47 rfl (lv_at hl 1 rfl) ?_
        refine tp_i (show nI (hrE (z 9) (ar 0) (z 8 + 0)) - 1 = nI (srtN (hrE (z 9) (ar 0) (z 8))) from srt_v) ?_
        refine nv_iast (f := (ar 1)) (i := 5 * (z 10)) (v := srtN (hrE (z 9) (ar 0) (z 8))) (n := 300) hx hb hK hP hD hS 7 0 rfl rfl (by omega) (by decide) dX6_readsOne_48 (fun H locs hP hD hS => ?_)
        have hP : va_P E.1 vwCl ([moC E b (upn z 11 0) g gs (upr ar 1 (upn (ar 1) (5 * (z 10)) (srtN (hrE (z 9) (ar 0) (z 8)))))] : List va_W).flatten H := hP
        have hD : va_D A ([moC E b (upn z 11 0) g gs (upr ar 1 (upn (ar 1) (5 * (z 10)) (srtN (hrE (z 9) (ar 0) (z 8)))))] : List va_W).flatten := hD
        refine lv_iload_n hx hb dX6_readsOne_49 rfl (lv_at hl 1 rfl) ?_
        by_cases k98 : ((hrE (z 9) (ar 0) (z 8 + 0) : Nat) : Int) - 1 = 98
        · skip
          refine nv_lk (X := ((hrE (z 9) (ar 0) (z 8 + 0) : Nat) : Int) - 1) hx hb (m1_t (by omega)) dX6_readsOne_50 (by decide) (by rw [k98]; first | done | decide) (tgt := 162) (by decide) ?_
          refine lv_iload_n hx hb dX6_readsOne_162 rfl (lv_at hl 0 rfl) ?_
          refine nv_if_eq (X := ((0 : Nat) : Int)) hx hb (nI_toInt (by omega)) (tgt := 177) dX6_readsOne_163 (by decide) (fun c_40 => ?_) (fun c_40 => ?_)
          · skip
            refine lv_aload_n hx hb dX6_readsOne_177 rfl (lv_at hl 2 rfl) ?_
            refine va_ldcS hx hb hown (hZ.2.2.2.2.1 36 ("CricketCooperativeModel", 210, "buy ") rfl).2 dX6_readsOne_178 ?_
            refine lv_iconst (v := nI 1) hx hb dX6_readsOne_180 (by decide) ?_
            refine lv_iconst (v := nI 2) hx hb dX6_readsOne_181 (by decide) ?_
            refine run_v (S := Unit) (run_V (As := [.ref (E.2.2 36), .int (nI 1), .int (nI 2)]) (rest := []) (bs := [moC E b (upn z 11 0) g gs (upr ar 1 (upn (ar 1) (5 * (z 10)) (srtN (hrE (z 9) (ar 0) (z 8)))))]) (cb := [moC E b (upn z 11 0) g gs (upr ar 1 (upn (ar 1) (5 * (z 10)) (srtN (hrE (z 9) (ar 0) (z 8)))))]) hx hb hml hown hts hK hZ hA (c_X6_two l E _ b (upn z 11 0) g gs (upr ar 1 (upn (ar 1) (5 * (z 10)) (srtN (hrE (z 9) (ar 0) (z 8))))) 36 ("CricketCooperativeModel", 210, "buy ") rfl 1 2 (show z 8 ≤ z 9 by omega) (show z 9 ≤ 60 by omega) (show 0 ≤ 1 by omega) ho (show z 10 ≤ 50 by omega) (by omega) (by omega)) l_X6_203 rfl ⟨⟨rfl, rfl⟩, Nat.le_of_ble_eq_true rfl, Nat.le_of_ble_eq_true rfl⟩ 10 rfl [0] rfl (by decide) rfl hP hD hS hl.1 rfl (Nat.le_of_ble_eq_true rfl) dX6_readsOne_182 ⟨Nat.zero_le _, Nat.zero_le _⟩) hA hP hD hS (isC := [0]) rfl [] [0] (br := []) (bs2 := fun _ => [moC E b (upn (upn (upn z 11 0) 8 ((seqR (ar 0) (z 9) (z 10) [(tl "buy ", 1, 1), (tl " ", 2, 2)] (z 8, 0, (upn (ar 1) (5 * (z 10)) (srtN (hrE (z 9) (ar 0) (z 8)))))).1)) 11 ((seqR (ar 0) (z 9) (z 10) [(tl "buy ", 1, 1), (tl " ", 2, 2)] (z 8, 0, (upn (ar 1) (5 * (z 10)) (srtN (hrE (z 9) (ar 0) (z 8)))))).2.1)) g gs (upr (upr ar 1 (upn (ar 1) (5 * (z 10)) (srtN (hrE (z 9) (ar 0) (z 8))))) 1 ((seqR (ar 0) (z 9) (z 10) [(tl "buy ", 1, 1), (tl " ", 2, 2)] (z 8, 0, (upn (ar 1) (5 * (z 10)) (srtN (hrE (z 9) (ar 0) (z 8)))))).2.2))]) rfl (by decide) (fun _ => rfl) (by decide) (fun u H locs hw hP hD hS => ?_)
            rcases hT_44 : seqR (ar 0) (z 9) (z 10) [(tl "buy ", 1, 1), (tl " ", 2, 2)] (z 8, 0, (upn (ar 1) (5 * (z 10)) (srtN (hrE (z 9) (ar 0) (z 8))))) with ⟨s_41, w_42, t_43⟩
            rw [hT_44] at hP hD
            have hP : va_P E.1 vwCl ([moC E b (upn (upn (upn z 11 0) 8 s_41) 11 w_42) g gs (upr (upr ar 1 (upn (ar 1) (5 * (z 10)) (srtN (hrE (z 9) (ar 0) (z 8))))) 1 t_43)] : List va_W).flatten H := hP
            have hD : va_D A ([moC E b (upn (upn (upn z 11 0) 8 s_41) 11 w_42) g gs (upr (upr ar 1 (upn (ar 1) (5 * (z 10)) (srtN (hrE (z 9) (ar 0) (z 8))))) 1 t_43)] : List va_W).flatten := hD
            refine lv_goto (tgt := 213) hx hb dX6_readsOne_185 (by decide) ?_
            refine lv_aload_n hx hb dX6_readsOne_213 rfl (lv_at hl 2 rfl) ?_
            refine lv_dup hx hb dX6_readsOne_214 rfl ?_
            refine va_get (D := E.1) (ci := 10) (v := .int (nI (z 10))) (C := RX6) (T := TX6) (N := 20) hx hb hts inX6 hown hK hP 0 rfl rfl 18 (by decide) (hts _ q1452) (fun _ h9 => h9) rfl dX6_readsOne_215 ?_
            refine lv_iconst (v := nI 1) hx hb dX6_readsOne_218 (by decide) ?_
            refine nv_iadd hx hb dX6_readsOne_219 ?_
            refine va_put (D := E.1) (ci := 10) (v := .int (nI (z 10 + 1))) (ty := .int) (C := RX6) (T := TX6) (N := 20) hx hb hts inX6 tyX6 tyX6_ok nmX6 hown hK hP hD hS 0 rfl rfl 18 (by decide) (hts _ q1452) (fun _ h9 => h9) rfl (by decide +kernel) rfl rfl (Nat.le_of_ble_eq_true rfl) dX6_readsOne_220 (fun H locs hP hD hS => ?_)
            have hP : va_P E.1 vwCl ([moC E b (upn (upn (upn (upn z 11 0) 8 s_41) 11 w_42) 10 (z 10 + 1)) g gs (upr (upr ar 1 (upn (ar 1) (5 * (z 10)) (srtN (hrE (z 9) (ar 0) (z 8))))) 1 t_43)] : List va_W).flatten H := hP
            have hD : va_D A ([moC E b (upn (upn (upn (upn z 11 0) 8 s_41) 11 w_42) 10 (z 10 + 1)) g gs (upr (upr ar 1 (upn (ar 1) (5 * (z 10)) (srtN (hrE (z 9) (ar 0) (z 8))))) 1 t_43)] : List va_W).flatten := hD
            have hK9 : rdT (ar 0) (z 9) (z 10) (z 8) (ar 1) = (upn (ar 1) (5 * (z 10)) (srtN (hrE (z 9) (ar 0) (z 8)))) := by unfold rdT; rw [if_neg (by rw [hE]; decide)]
            have hR : (rdR (ar 0) (z 9) (z 10) (z 8) (ar 1)) = (s_41, w_42, t_43) := by
              unfold rdR
              rw [if_neg (show ¬ hrE (z 9) (ar 0) (z 8) = 107 by omega), if_neg (show ¬ hrE (z 9) (ar 0) (z 8) = 120 by omega), if_neg (show ¬ hrE (z 9) (ar 0) (z 8) = 117 by omega), if_pos (show hrE (z 9) (ar 0) (z 8) = 99 by omega), if_neg (by rw [hE]; decide), hK9]
              exact hT_44
            have hzq : (upn (upn (upn (upn z 11 0) 8 s_41) 11 w_42) 10 (z 10 + 1)) = upn (upn (upn z 8 s_41) 11 w_42) 10 (z 10 + 1) := by
              funext j
              by_cases e8 : j = 8 <;> by_cases e11 : j = 11 <;> by_cases e10 : j = 10 <;> first | (exfalso; omega) | simp [upn, e8, e11, e10]
            have haq : (upr (upr ar 1 (upn (ar 1) (5 * (z 10)) (srtN (hrE (z 9) (ar 0) (z 8))))) 1 t_43) = upr ar 1 t_43 := by first | rfl | simp only [upr_upr]
            have hmE : moC E b (upn (upn (upn (upn z 11 0) 8 s_41) 11 w_42) 10 (z 10 + 1)) g gs (upr (upr ar 1 (upn (ar 1) (5 * (z 10)) (srtN (hrE (z 9) (ar 0) (z 8))))) 1 t_43) = moC E b (upn (upn (upn z 8 (rdR (ar 0) (z 9) (z 10) (z 8) (ar 1)).1) 11 (rdR (ar 0) (z 9) (z 10) (z 8) (ar 1)).2.1) 10 (z 10 + 1)) g gs (upr ar 1 (rdR (ar 0) (z 9) (z 10) (z 8) (ar 1)).2.2) := by rw [hR, hzq, haq]
            rw [hmE] at hP hD; clear hmE
            exact hret _ _ () _ _ hP hD hS trivial dX6_readsOne_223
          · exact absurd c_40 (by omega)
        by_cases k106 : ((hrE (z 9) (ar 0) (z 8 + 0) : Nat) : Int) - 1 = 106
        · exfalso; omega
        by_cases k113 : ((hrE (z 9) (ar 0) (z 8 + 0) : Nat) : Int) - 1 = 113
        · exfalso; omega
        by_cases k116 : ((hrE (z 9) (ar 0) (z 8 + 0) : Nat) : Int) - 1 = 116
        · exfalso; omega
        by_cases k118 : ((hrE (z 9) (ar 0) (z 8 + 0) : Nat) : Int) - 1 = 118
        · exfalso; omega
        by_cases k119 : ((hrE (z 9) (ar 0) (z 8 + 0) : Nat) : Int) - 1 = 119
        · exfalso; omega
        exfalso; omega
      · exact absurd c_39 (by omega)
    · skip
      have hE : isE (ar 0) (z 9) (z 8) = true := decide_eq_true ⟨by omega, by omega⟩
      refine lv_iconst (v := nI 1) hx hb dX6_readsOne_22 (by decide) ?_
      refine lv_goto (tgt := 27) hx hb dX6_readsOne_23 (by decide) ?_
      refine lv_istore_n (lv' := [(2, .int (nI 1)), (1, .int (nI (hrE (z 9) (ar 0) (z 8 + 0)) - 1)), (0, .ref (b 0))]) hx hb dX6_readsOne_27 rfl hl (by decide) rfl (fun ls hl => ?_)
      refine lv_aload_n hx hb dX6_readsOne_28 rfl (lv_at hl 2 rfl) ?_
      refine va_get (D := E.1) (ci := 10) (v := .ref (b 7)) (C := RX6) (T := TX6) (N := 20) hx hb hts inX6 hown hK hP 0 rfl rfl 9 (by decide) (hts _ q1443) (fun _ h9 => h9) rfl dX6_readsOne_29 ?_
      refine lv_iconst (v := nI 5) hx hb dX6_readsOne_32 (by decide) ?_
      refine lv_aload_n hx hb dX6_readsOne_33 rfl (lv_at hl 2 rfl) ?_
      refine va_get (D := E.1) (ci := 10) (v := .int (nI (z 10))) (C := RX6) (T := TX6) (N := 20) hx hb hts inX6 hown hK hP 0 rfl rfl 18 (by decide) (hts _ q1452) (fun _ h9 => h9) rfl dX6_readsOne_34 ?_
      refine nv_imul hx hb dX6_readsOne_37 ?_
      refine lv_iload_n hx hb dX6_readsOne_38 rfl (lv_at hl 0 rfl) ?_
      refine nv_if_eq (X := ((1 : Nat) : Int)) hx hb (nI_toInt (by omega)) (tgt := 47) dX6_readsOne_39 (by decide) (fun c_45 => ?_) (fun c_45 => ?_)
      · exact absurd c_45 (by omega)
      · skip
        refine lv_bipush (v := nI 101) hx hb dX6_readsOne_42 (by decide) ?_
        refine lv_goto (tgt := 48) hx hb dX6_readsOne_44 (by decide) ?_
        refine nv_iast (f := (ar 1)) (i := 5 * (z 10)) (v := 101) (n := 300) hx hb hK hP hD hS 7 0 rfl rfl (by omega) (by decide) dX6_readsOne_48 (fun H locs hP hD hS => ?_)
        have hP : va_P E.1 vwCl ([moC E b (upn z 11 0) g gs (upr ar 1 (upn (ar 1) (5 * (z 10)) 101))] : List va_W).flatten H := hP
        have hD : va_D A ([moC E b (upn z 11 0) g gs (upr ar 1 (upn (ar 1) (5 * (z 10)) 101))] : List va_W).flatten := hD
        refine lv_iload_n hx hb dX6_readsOne_49 rfl (lv_at hl 1 rfl) ?_
        by_cases k98 : ((hrE (z 9) (ar 0) (z 8 + 0) : Nat) : Int) - 1 = 98
        · skip
          refine nv_lk (X := ((hrE (z 9) (ar 0) (z 8 + 0) : Nat) : Int) - 1) hx hb (m1_t (by omega)) dX6_readsOne_50 (by decide) (by rw [k98]; first | done | decide) (tgt := 162) (by decide) ?_
          refine lv_iload_n hx hb dX6_readsOne_162 rfl (lv_at hl 0 rfl) ?_
          refine nv_if_eq (X := ((1 : Nat) : Int)) hx hb (nI_toInt (by omega)) (tgt := 177) dX6_readsOne_163 (by decide) (fun c_46 => ?_) (fun c_46 => ?_)
          · exact absurd c_46 (by omega)
          · skip
            refine lv_aload_n hx hb dX6_readsOne_166 rfl (lv_at hl 2 rfl) ?_
            refine va_ldcS hx hb hown (hZ.2.2.2.2.1 35 ("CricketCooperativeModel", 208, "beats ") rfl).2 dX6_readsOne_167 ?_
            refine lv_iconst (v := nI 1) hx hb dX6_readsOne_169 (by decide) ?_
            refine lv_iconst (v := nI 2) hx hb dX6_readsOne_170 (by decide) ?_
            refine run_v (S := Unit) (run_V (As := [.ref (E.2.2 35), .int (nI 1), .int (nI 2)]) (rest := []) (bs := [moC E b (upn z 11 0) g gs (upr ar 1 (upn (ar 1) (5 * (z 10)) 101))]) (cb := [moC E b (upn z 11 0) g gs (upr ar 1 (upn (ar 1) (5 * (z 10)) 101))]) hx hb hml hown hts hK hZ hA (c_X6_number l E _ b (upn z 11 0) g gs (upr ar 1 (upn (ar 1) (5 * (z 10)) 101)) 35 ("CricketCooperativeModel", 208, "beats ") rfl 1 2 (show z 8 ≤ z 9 by omega) (show z 9 ≤ 60 by omega) (show 0 ≤ 1 by omega) ho (show z 10 ≤ 50 by omega) (by omega) (by omega)) l_X6_193 rfl ⟨⟨rfl, rfl⟩, Nat.le_of_ble_eq_true rfl, Nat.le_of_ble_eq_true rfl⟩ 10 rfl [0] rfl (by decide) rfl hP hD hS hl.1 rfl (Nat.le_of_ble_eq_true rfl) dX6_readsOne_171 ⟨Nat.zero_le _, Nat.zero_le _⟩) hA hP hD hS (isC := [0]) rfl [] [0] (br := []) (bs2 := fun _ => [moC E b (upn (upn (upn z 11 0) 8 ((numR (ar 0) (z 9) (tl "beats ") 2 (z 8) (0)).1)) 11 ((numR (ar 0) (z 9) (tl "beats ") 2 (z 8) (0)).2.1)) g gs (upr (upr ar 1 (upn (ar 1) (5 * (z 10)) 101)) 1 (upn (upn (ar 1) (5 * (z 10)) 101) (5 * (z 10) + 1) (numR (ar 0) (z 9) (tl "beats ") 2 (z 8) (0)).2.2))]) rfl (by decide) (fun _ => rfl) (by decide) (fun u H locs hw hP hD hS => ?_)
            have hN_50L := numR_le (tx := (ar 0)) (t := tl "beats ") (most := 2) (show z 8 ≤ z 9 by omega) (show 0 ≤ 1 by omega)
            rcases hN_50 : numR (ar 0) (z 9) (tl "beats ") 2 (z 8) (0) with ⟨s_47, w_48, n_49⟩
            rw [hN_50] at hP hD hN_50L
            obtain ⟨hN_50a, hN_50b, hN_50c, hN_50d⟩ := hN_50L
            have hN_50a : z 8 ≤ s_47 := hN_50a
            have hN_50b : s_47 ≤ z 9 := hN_50b
            have hN_50c : w_48 ≤ 1 := hN_50c
            have hP : va_P E.1 vwCl ([moC E b (upn (upn (upn z 11 0) 8 s_47) 11 w_48) g gs (upr (upr ar 1 (upn (ar 1) (5 * (z 10)) 101)) 1 (upn (upn (ar 1) (5 * (z 10)) 101) (5 * (z 10) + 1) n_49))] : List va_W).flatten H := hP
            have hD : va_D A ([moC E b (upn (upn (upn z 11 0) 8 s_47) 11 w_48) g gs (upr (upr ar 1 (upn (ar 1) (5 * (z 10)) 101)) 1 (upn (upn (ar 1) (5 * (z 10)) 101) (5 * (z 10) + 1) n_49))] : List va_W).flatten := hD
            refine lv_goto (tgt := 213) hx hb dX6_readsOne_174 (by decide) ?_
            refine lv_aload_n hx hb dX6_readsOne_213 rfl (lv_at hl 2 rfl) ?_
            refine lv_dup hx hb dX6_readsOne_214 rfl ?_
            refine va_get (D := E.1) (ci := 10) (v := .int (nI (z 10))) (C := RX6) (T := TX6) (N := 20) hx hb hts inX6 hown hK hP 0 rfl rfl 18 (by decide) (hts _ q1452) (fun _ h9 => h9) rfl dX6_readsOne_215 ?_
            refine lv_iconst (v := nI 1) hx hb dX6_readsOne_218 (by decide) ?_
            refine nv_iadd hx hb dX6_readsOne_219 ?_
            refine va_put (D := E.1) (ci := 10) (v := .int (nI (z 10 + 1))) (ty := .int) (C := RX6) (T := TX6) (N := 20) hx hb hts inX6 tyX6 tyX6_ok nmX6 hown hK hP hD hS 0 rfl rfl 18 (by decide) (hts _ q1452) (fun _ h9 => h9) rfl (by decide +kernel) rfl rfl (Nat.le_of_ble_eq_true rfl) dX6_readsOne_220 (fun H locs hP hD hS => ?_)
            have hP : va_P E.1 vwCl ([moC E b (upn (upn (upn (upn z 11 0) 8 s_47) 11 w_48) 10 (z 10 + 1)) g gs (upr (upr ar 1 (upn (ar 1) (5 * (z 10)) 101)) 1 (upn (upn (ar 1) (5 * (z 10)) 101) (5 * (z 10) + 1) n_49))] : List va_W).flatten H := hP
            have hD : va_D A ([moC E b (upn (upn (upn (upn z 11 0) 8 s_47) 11 w_48) 10 (z 10 + 1)) g gs (upr (upr ar 1 (upn (ar 1) (5 * (z 10)) 101)) 1 (upn (upn (ar 1) (5 * (z 10)) 101) (5 * (z 10) + 1) n_49))] : List va_W).flatten := hD
            have hK9 : rdT (ar 0) (z 9) (z 10) (z 8) (ar 1) = (upn (ar 1) (5 * (z 10)) 101) := by unfold rdT; rw [if_pos hE]
            have hR : (rdR (ar 0) (z 9) (z 10) (z 8) (ar 1)) = (s_47, w_48, (upn (upn (ar 1) (5 * (z 10)) 101) (5 * (z 10) + 1) n_49)) := by
              unfold rdR
              rw [if_neg (show ¬ hrE (z 9) (ar 0) (z 8) = 107 by omega), if_neg (show ¬ hrE (z 9) (ar 0) (z 8) = 120 by omega), if_neg (show ¬ hrE (z 9) (ar 0) (z 8) = 117 by omega), if_pos (show hrE (z 9) (ar 0) (z 8) = 99 by omega), if_pos hE, hK9]
              unfold LE9
              rw [seqR_s hN_50]; rfl
            have hzq : (upn (upn (upn (upn z 11 0) 8 s_47) 11 w_48) 10 (z 10 + 1)) = upn (upn (upn z 8 s_47) 11 w_48) 10 (z 10 + 1) := by
              funext j
              by_cases e8 : j = 8 <;> by_cases e11 : j = 11 <;> by_cases e10 : j = 10 <;> first | (exfalso; omega) | simp [upn, e8, e11, e10]
            have haq : (upr (upr ar 1 (upn (ar 1) (5 * (z 10)) 101)) 1 (upn (upn (ar 1) (5 * (z 10)) 101) (5 * (z 10) + 1) n_49)) = upr ar 1 (upn (upn (ar 1) (5 * (z 10)) 101) (5 * (z 10) + 1) n_49) := by first | rfl | simp only [upr_upr]
            have hmE : moC E b (upn (upn (upn (upn z 11 0) 8 s_47) 11 w_48) 10 (z 10 + 1)) g gs (upr (upr ar 1 (upn (ar 1) (5 * (z 10)) 101)) 1 (upn (upn (ar 1) (5 * (z 10)) 101) (5 * (z 10) + 1) n_49)) = moC E b (upn (upn (upn z 8 (rdR (ar 0) (z 9) (z 10) (z 8) (ar 1)).1) 11 (rdR (ar 0) (z 9) (z 10) (z 8) (ar 1)).2.1) 10 (z 10 + 1)) g gs (upr ar 1 (rdR (ar 0) (z 9) (z 10) (z 8) (ar 1)).2.2) := by rw [hR, hzq, haq]
            rw [hmE] at hP hD; clear hmE
            exact hret _ _ () _ _ hP hD hS trivial dX6_readsOne_223
        by_cases k106 : ((hrE (z 9) (ar 0) (z 8 + 0) : Nat) : Int) - 1 = 106
        · exfalso; omega
        by_cases k113 : ((hrE (z 9) (ar 0) (z 8 + 0) : Nat) : Int) - 1 = 113
        · exfalso; omega
        by_cases k116 : ((hrE (z 9) (ar 0) (z 8 + 0) : Nat) : Int) - 1 = 116
        · exfalso; omega
        by_cases k118 : ((hrE (z 9) (ar 0) (z 8 + 0) : Nat) : Int) - 1 = 118
        · exfalso; omega
        by_cases k119 : ((hrE (z 9) (ar 0) (z 8 + 0) : Nat) : Int) - 1 = 119
        · exfalso; omega
        exfalso; omega
