def LGo (p : Program) (l : Launch) (e : Env) (s : State) (m : MethodId) (args : Array Value) (below : List Frame) (meth : Method) (c : Code) (E : EE) (A : Nat → Prop) (Q : State → Prop) (X hs : Nat → Nat → Nat) (g2 : GG) (os n cells slots : Nat) : Prop :=
  ∀ (w : Nat → Nat) (g : GG) (hg : Nat → GG) (nx ct : Nat) (j : JT) (made : Nat) (f : Nat → Int64) (H : Heap) (locs : List Loc) (ls : Array Slot), TRN n g hg nx ct j made f → va_P E.1 vwCl (OB E X hs w g g2 hg nx ct j ++ [smC E os f] : List va_W).flatten H → va_D A (OB E X hs w g g2 hg nx ct j ++ [smC E os f] : List va_W).flatten → va_S A s.heap H locs → lv_has ls 32 [(0, .ref (E.2.2 202)), (1, .ref (X 0 0)), (2, .ref os), (3, .int (nI made)), (4, .int (nI (5 * n))), (5, .int (nI n))] → W p l e room_1 s m args below meth c H locs cells slots Q (F0 m 28 ls [])
set_option maxHeartbeats 8000000 in
set_option maxRecDepth 100000 in
theorem tail_T {p : Program} {l : Launch} {e : Env} {s : State} {m : MethodId} {args : Array Value} {below : List Frame} {meth : Method} {c : Code} {E : EE} {A : Nat → Prop} {Q : State → Prop} (X hs : Nat → Nat → Nat) (os : Nat) (f : Nat → Int64) (w : Nat → Nat) (g g2 : GG) (B : Nat) (hI : IB B g) (hg : Nat → GG) (nx ct : Nat) (hnx : nx < 8) (hct : ct ≤ 8) (j : JT) (hj : JV j) (hJ : JG g) (bf : Int64) (n9 made : Nat) (hn : n9 < 56) (hmd : made ≤ n9) (hR : ∀ j9, JV j9 → TRN (n9 + 1) g hg nx ct j9 (made + 1) (vp_updL f (made + 1) (sumF g))) (C : LCL p l s m args c E A) {cells slots kc ks : Nat} (hcs : cells + 1760 ≤ 800000 ∧ slots + 14850 ≤ 6680000) (hk : cells + 1760 ≤ kc ∧ slots + 14850 ≤ ks) (K : LGo p l e s m args below meth c E A Q X hs g2 os (n9 + 1) kc ks) {H : Heap} {locs : List Loc} {ls : Array Slot} (hP : va_P E.1 vwCl (OB E X hs w g g2 hg nx ct j ++ [smC E os f] : List va_W).flatten H) (hD : va_D A (OB E X hs w g g2 hg nx ct j ++ [smC E os f] : List va_W).flatten) (hS : va_S A s.heap H locs) (hl : lv_has ls 32 [(0, .ref (E.2.2 202)), (1, .ref (X 0 0)), (2, .ref os), (3, .int (nI made)), (4, .int (nI (5 * n9))), (5, .int (nI n9)), (6, .long bf), (29, .int (nI 1)), (30, .int (nI 1))]) : W p l e room_1 s m args below meth c H locs cells slots Q (F0 m 745 ls []) := by
  have C0 := C
  obtain ⟨hx, hb, hml, hown, hts, hK, hZ, hDD, hA, hst, hL⟩ := C
  have hmc := hI.mc
  have hbud := hI.bud
  refine lv_iinc (v := nI (5 * n9 + 5)) (lv' := [(4, .int (nI (5 * n9 + 5))), (0, .ref (E.2.2 202)), (1, .ref (X 0 0)), (2, .ref os), (3, .int (nI made)), (5, .int (nI n9)), (6, .long bf), (29, .int (nI 1)), (30, .int (nI 1))]) hx hb dL_law_745 hl (k := 4) rfl (nI_add (5 * n9) 5) (by decide) rfl (fun ls hl => ?_)
  refine lv_iload hx hb dL_law_748 (lv_at hl 8 rfl) ?_
  refine nv_if_eq (X := ((1 : Nat) : Int)) hx hb (nI_toInt (by omega)) (tgt := 776) dL_law_750 (by decide) (fun c_1 => ?_) (fun c_1 => ?_)
  · exact absurd c_1 (by omega)
  · skip
    refine lv_aload_n hx hb dL_law_753 rfl (lv_at hl 2 rfl) ?_
    refine lv_aload_n hx hb dL_law_754 rfl (lv_at hl 1 rfl) ?_
    refine lv_iload hx hb dL_law_755 (lv_at hl 0 rfl) ?_
    refine lv_iload hx hb dL_law_757 (lv_at hl 5 rfl) ?_
    refine lv_iconst (v := nI 4) hx hb dL_law_759 (by decide) ?_
    refine nv_irem hx hb (by omega) (by omega) (by omega) dL_law_760 ?_
    refine lv_iconst (v := nI 3) hx hb dL_law_761 (by decide) ?_
    refine nv_icmp_ne (X := ((n9 % 4 : Nat) : Int)) (Y := ((3 : Nat) : Int)) hx hb (nI_toInt (by omega)) (nI_toInt (by omega)) (tgt := 769) dL_law_762 (by decide) (fun c_2 => ?_) (fun c_2 => ?_)
    · skip
      refine lv_iconst (v := nI 0) hx hb dL_law_769 (by decide) ?_
      refine tp_i (show nI 0 = bI false from rfl) ?_
      refine run_i (S := JT) (run_Sx (As := [.ref (X 0 0), .ref (E.2.2 202), .int (nI (5 * n9 + 5)), .int (bI false)]) (rest := []) (bs := OB E X hs w g g2 hg nx ct j ++ [smC E os f]) (cb := OB E X hs w g g2 hg nx ct j) hx hb hml hown hts hK hZ hDD hA (c_L_isWhole l hst E _ X hs w g g2 B hI hg nx ct hnx hct j hj hJ hL (5 * n9 + 5) (by omega) false) l_L_219 rfl ⟨⟨rfl, rfl⟩, Nat.le_of_ble_eq_true rfl, Nat.le_of_ble_eq_true rfl⟩ [0, 1, 2, 3, 4, 5, 6, 7, 8, 9] rfl (by decide) hP hD hS hl.1 rfl (Nat.le_of_ble_eq_true rfl) dL_law_770 ⟨by show cells + 1700 ≤ 800891; omega, by show slots + 14500 ≤ 6687511; omega⟩) hA hP hD hS (isC := [0, 1, 2, 3, 4, 5, 6, 7, 8, 9]) rfl [10] [1, 2, 3, 4, 5, 6, 7, 8, 9, 10, 0] (br := [smC E os f]) (bs2 := fun u => OB E X hs w g g2 hg nx ct u ++ [smC E os f]) rfl (by decide) (fun _ => rfl) (by decide) (fun r j_3 H locs hw hP hD hS => ?_)
      obtain ⟨hw, hj_4⟩ := hw
      subst hw
      refine nv_if_ne (X := ((1 : Nat) : Int)) hx hb (nI_toInt (by omega)) (tgt := 778) dL_law_773 (by decide) (fun c_5 => ?_) (fun c_5 => ?_)
      · skip
        refine lv_iload hx hb dL_law_778 (lv_at hl 7 rfl) ?_
        refine nv_if_ne (X := ((1 : Nat) : Int)) hx hb (nI_toInt (by omega)) (tgt := 795) dL_law_780 (by decide) (fun c_6 => ?_) (fun c_6 => ?_)
        · skip
          refine lv_iinc (v := nI (made + 1)) (lv' := [(3, .int (nI (made + 1))), (4, .int (nI (5 * n9 + 5))), (0, .ref (E.2.2 202)), (1, .ref (X 0 0)), (2, .ref os), (5, .int (nI n9)), (6, .long bf), (29, .int (nI 1)), (30, .int (nI 1))]) hx hb dL_law_795 hl (k := 4) rfl (nI_add made 1) (by decide) rfl (fun ls hl => ?_)
          refine lv_aload_n hx hb dL_law_798 rfl (lv_at hl 4 rfl) ?_
          refine lv_iload_n hx hb dL_law_799 rfl (lv_at hl 0 rfl) ?_
          refine lv_aload_n hx hb dL_law_800 rfl (lv_at hl 3 rfl) ?_
          refine run_l (S := JT) (run_Sx (As := [.ref (X 0 0)]) (rest := [.int (nI (made + 1)), .ref os]) (bs := OB E X hs w g g2 hg nx ct j_3 ++ [smC E os f]) (cb := OB E X hs w g g2 hg nx ct j_3) hx hb hml hown hts hK hZ hDD hA (c_L_sum l hst E _ X hs w g g2 B hI hg nx ct hnx hct j_3 hj_4) l_L_172 rfl ⟨⟨rfl, rfl⟩, Nat.le_of_ble_eq_true rfl, Nat.le_of_ble_eq_true rfl⟩ [0, 1, 2, 3, 4, 5, 6, 7, 8, 9] rfl (by decide) hP hD hS hl.1 rfl (Nat.le_of_ble_eq_true rfl) dL_law_801 ⟨by show (cells + 1700) + 58 ≤ 800891; omega, by show (slots + 14500) + 348 ≤ 6687511; omega⟩) hA hP hD hS (isC := [0, 1, 2, 3, 4, 5, 6, 7, 8, 9]) rfl [10] [1, 2, 3, 4, 5, 6, 7, 8, 9, 10, 0] (br := [smC E os f]) (bs2 := fun u => OB E X hs w g g2 hg nx ct u ++ [smC E os f]) rfl (by decide) (fun _ => rfl) (by decide) (fun r j_7 H locs hw hP hD hS => ?_)
          obtain ⟨hw, hj_8⟩ := hw
          subst hw
          refine va_last hx hb hK hP hD hS 114 4 rfl rfl (vp_in_nI (show made + 1 < 70 by omega) (by decide)) dL_law_804 (fun H locs hP hD hS => ?_)
          rw [nI_clamp (show made + 1 < 2 ^ 31 by omega)] at hP hD
          have hP : va_P E.1 vwCl (OB E X hs w g g2 hg nx ct j_7 ++ [smC E os (vp_updL f (made + 1) (sumF g))] : List va_W).flatten H := hP
          have hD : va_D A (OB E X hs w g g2 hg nx ct j_7 ++ [smC E os (vp_updL f (made + 1) (sumF g))] : List va_W).flatten := hD
          refine lv_iinc (v := nI (n9 + 1)) (lv' := [(5, .int (nI (n9 + 1))), (3, .int (nI (made + 1))), (4, .int (nI (5 * n9 + 5))), (0, .ref (E.2.2 202)), (1, .ref (X 0 0)), (2, .ref os), (6, .long bf), (29, .int (nI 1)), (30, .int (nI 1))]) hx hb dL_law_805 hl (k := 5) rfl (nI_add n9 1) (by decide) rfl (fun ls hl => ?_)
          have hl : lv_has ls 32 [(5, .int (nI (n9 + 1))), (3, .int (nI (made + 1))), (4, .int (nI (5 * (n9 + 1)))), (0, .ref (E.2.2 202)), (1, .ref (X 0 0)), (2, .ref os), (6, .long bf), (29, .int (nI 1)), (30, .int (nI 1))] := by rw [show nI (5 * (n9 + 1)) = nI (5 * n9 + 5) from congrArg nI (by omega)]; exact hl
          refine lv_goto (tgt := 28) hx hb dL_law_808 (by decide) ?_
          exact W_widen (by omega) (by omega) (K _ _ _ _ _ j_7 (made + 1) _ _ _ _ (hR j_7 hj_8) hP hD hS (lv_sub hl [3, 4, 5, 1, 2, 0] rfl))
        · exact absurd c_6 (by omega)
      · exact absurd c_5 (by omega)
    · skip
      refine lv_iconst (v := nI 1) hx hb dL_law_765 (by decide) ?_
      refine lv_goto (tgt := 770) hx hb dL_law_766 (by decide) ?_
      refine tp_i (show nI 1 = bI true from rfl) ?_
      refine run_i (S := JT) (run_Sx (As := [.ref (X 0 0), .ref (E.2.2 202), .int (nI (5 * n9 + 5)), .int (bI true)]) (rest := []) (bs := OB E X hs w g g2 hg nx ct j ++ [smC E os f]) (cb := OB E X hs w g g2 hg nx ct j) hx hb hml hown hts hK hZ hDD hA (c_L_isWhole l hst E _ X hs w g g2 B hI hg nx ct hnx hct j hj hJ hL (5 * n9 + 5) (by omega) true) l_L_219 rfl ⟨⟨rfl, rfl⟩, Nat.le_of_ble_eq_true rfl, Nat.le_of_ble_eq_true rfl⟩ [0, 1, 2, 3, 4, 5, 6, 7, 8, 9] rfl (by decide) hP hD hS hl.1 rfl (Nat.le_of_ble_eq_true rfl) dL_law_770 ⟨by show cells + 1700 ≤ 800891; omega, by show slots + 14500 ≤ 6687511; omega⟩) hA hP hD hS (isC := [0, 1, 2, 3, 4, 5, 6, 7, 8, 9]) rfl [10] [1, 2, 3, 4, 5, 6, 7, 8, 9, 10, 0] (br := [smC E os f]) (bs2 := fun u => OB E X hs w g g2 hg nx ct u ++ [smC E os f]) rfl (by decide) (fun _ => rfl) (by decide) (fun r j_9 H locs hw hP hD hS => ?_)
      obtain ⟨hw, hj_10⟩ := hw
      subst hw
      refine nv_if_ne (X := ((1 : Nat) : Int)) hx hb (nI_toInt (by omega)) (tgt := 778) dL_law_773 (by decide) (fun c_11 => ?_) (fun c_11 => ?_)
      · skip
        refine lv_iload hx hb dL_law_778 (lv_at hl 7 rfl) ?_
        refine nv_if_ne (X := ((1 : Nat) : Int)) hx hb (nI_toInt (by omega)) (tgt := 795) dL_law_780 (by decide) (fun c_12 => ?_) (fun c_12 => ?_)
        · skip
          refine lv_iinc (v := nI (made + 1)) (lv' := [(3, .int (nI (made + 1))), (4, .int (nI (5 * n9 + 5))), (0, .ref (E.2.2 202)), (1, .ref (X 0 0)), (2, .ref os), (5, .int (nI n9)), (6, .long bf), (29, .int (nI 1)), (30, .int (nI 1))]) hx hb dL_law_795 hl (k := 4) rfl (nI_add made 1) (by decide) rfl (fun ls hl => ?_)
          refine lv_aload_n hx hb dL_law_798 rfl (lv_at hl 4 rfl) ?_
          refine lv_iload_n hx hb dL_law_799 rfl (lv_at hl 0 rfl) ?_
          refine lv_aload_n hx hb dL_law_800 rfl (lv_at hl 3 rfl) ?_
          refine run_l (S := JT) (run_Sx (As := [.ref (X 0 0)]) (rest := [.int (nI (made + 1)), .ref os]) (bs := OB E X hs w g g2 hg nx ct j_9 ++ [smC E os f]) (cb := OB E X hs w g g2 hg nx ct j_9) hx hb hml hown hts hK hZ hDD hA (c_L_sum l hst E _ X hs w g g2 B hI hg nx ct hnx hct j_9 hj_10) l_L_172 rfl ⟨⟨rfl, rfl⟩, Nat.le_of_ble_eq_true rfl, Nat.le_of_ble_eq_true rfl⟩ [0, 1, 2, 3, 4, 5, 6, 7, 8, 9] rfl (by decide) hP hD hS hl.1 rfl (Nat.le_of_ble_eq_true rfl) dL_law_801 ⟨by show (cells + 1700) + 58 ≤ 800891; omega, by show (slots + 14500) + 348 ≤ 6687511; omega⟩) hA hP hD hS (isC := [0, 1, 2, 3, 4, 5, 6, 7, 8, 9]) rfl [10] [1, 2, 3, 4, 5, 6, 7, 8, 9, 10, 0] (br := [smC E os f]) (bs2 := fun u => OB E X hs w g g2 hg nx ct u ++ [smC E os f]) rfl (by decide) (fun _ => rfl) (by decide) (fun r j_13 H locs hw hP hD hS => ?_)
          obtain ⟨hw, hj_14⟩ := hw
          subst hw
          refine va_last hx hb hK hP hD hS 114 4 rfl rfl (vp_in_nI (show made + 1 < 70 by omega) (by decide)) dL_law_804 (fun H locs hP hD hS => ?_)
          rw [nI_clamp (show made + 1 < 2 ^ 31 by omega)] at hP hD
          have hP : va_P E.1 vwCl (OB E X hs w g g2 hg nx ct j_13 ++ [smC E os (vp_updL f (made + 1) (sumF g))] : List va_W).flatten H := hP
          have hD : va_D A (OB E X hs w g g2 hg nx ct j_13 ++ [smC E os (vp_updL f (made + 1) (sumF g))] : List va_W).flatten := hD
          refine lv_iinc (v := nI (n9 + 1)) (lv' := [(5, .int (nI (n9 + 1))), (3, .int (nI (made + 1))), (4, .int (nI (5 * n9 + 5))), (0, .ref (E.2.2 202)), (1, .ref (X 0 0)), (2, .ref os), (6, .long bf), (29, .int (nI 1)), (30, .int (nI 1))]) hx hb dL_law_805 hl (k := 5) rfl (nI_add n9 1) (by decide) rfl (fun ls hl => ?_)
          have hl : lv_has ls 32 [(5, .int (nI (n9 + 1))), (3, .int (nI (made + 1))), (4, .int (nI (5 * (n9 + 1)))), (0, .ref (E.2.2 202)), (1, .ref (X 0 0)), (2, .ref os), (6, .long bf), (29, .int (nI 1)), (30, .int (nI 1))] := by rw [show nI (5 * (n9 + 1)) = nI (5 * n9 + 5) from congrArg nI (by omega)]; exact hl
          refine lv_goto (tgt := 28) hx hb dL_law_808 (by decide) ?_
          exact W_widen (by omega) (by omega) (K _ _ _ _ _ j_13 (made + 1) _ _ _ _ (hR j_13 hj_14) hP hD hS (lv_sub hl [3, 4, 5, 1, 2, 0] rfl))
        · exact absurd c_12 (by omega)
      · exact absurd c_11 (by omega)
set_option maxHeartbeats 8000000 in
set_option maxRecDepth 100000 in
theorem tail_F {p : Program} {l : Launch} {e : Env} {s : State} {m : MethodId} {args : Array Value} {below : List Frame} {meth : Method} {c : Code} {E : EE} {A : Nat → Prop} {Q : State → Prop} (X hs : Nat → Nat → Nat) (os : Nat) (f : Nat → Int64) (w : Nat → Nat) (g g2 : GG) (B : Nat) (hI : IB B g) (hg : Nat → GG) (nx ct : Nat) (hnx : nx < 8) (hct : ct ≤ 8) (j : JT) (hj : JV j) (hJ : JG g) (bf : Int64) (n9 made : Nat) (hn : n9 < 56) (hmd : made ≤ n9) (hR : ∀ j9, JV j9 → TRN (n9 + 1) g hg nx ct j9 (made) f) (C : LCL p l s m args c E A) {cells slots kc ks : Nat} (hcs : cells + 1760 ≤ 800000 ∧ slots + 14850 ≤ 6680000) (hk : cells + 1760 ≤ kc ∧ slots + 14850 ≤ ks) (K : LGo p l e s m args below meth c E A Q X hs g2 os (n9 + 1) kc ks) {H : Heap} {locs : List Loc} {ls : Array Slot} (hP : va_P E.1 vwCl (OB E X hs w g g2 hg nx ct j ++ [smC E os f] : List va_W).flatten H) (hD : va_D A (OB E X hs w g g2 hg nx ct j ++ [smC E os f] : List va_W).flatten) (hS : va_S A s.heap H locs) (hl : lv_has ls 32 [(0, .ref (E.2.2 202)), (1, .ref (X 0 0)), (2, .ref os), (3, .int (nI made)), (4, .int (nI (5 * n9))), (5, .int (nI n9)), (6, .long (sumF g)), (29, .int (nI 0)), (30, .int (nI 1))]) : W p l e room_1 s m args below meth c H locs cells slots Q (F0 m 745 ls []) := by
  have C0 := C
  obtain ⟨hx, hb, hml, hown, hts, hK, hZ, hDD, hA, hst, hL⟩ := C
  have hmc := hI.mc
  have hbud := hI.bud
  refine lv_iinc (v := nI (5 * n9 + 5)) (lv' := [(4, .int (nI (5 * n9 + 5))), (0, .ref (E.2.2 202)), (1, .ref (X 0 0)), (2, .ref os), (3, .int (nI made)), (5, .int (nI n9)), (6, .long (sumF g)), (29, .int (nI 0)), (30, .int (nI 1))]) hx hb dL_law_745 hl (k := 4) rfl (nI_add (5 * n9) 5) (by decide) rfl (fun ls hl => ?_)
  refine lv_iload hx hb dL_law_748 (lv_at hl 8 rfl) ?_
  refine nv_if_eq (X := ((1 : Nat) : Int)) hx hb (nI_toInt (by omega)) (tgt := 776) dL_law_750 (by decide) (fun c_1 => ?_) (fun c_1 => ?_)
  · exact absurd c_1 (by omega)
  · skip
    refine lv_aload_n hx hb dL_law_753 rfl (lv_at hl 2 rfl) ?_
    refine lv_aload_n hx hb dL_law_754 rfl (lv_at hl 1 rfl) ?_
    refine lv_iload hx hb dL_law_755 (lv_at hl 0 rfl) ?_
    refine lv_iload hx hb dL_law_757 (lv_at hl 5 rfl) ?_
    refine lv_iconst (v := nI 4) hx hb dL_law_759 (by decide) ?_
    refine nv_irem hx hb (by omega) (by omega) (by omega) dL_law_760 ?_
    refine lv_iconst (v := nI 3) hx hb dL_law_761 (by decide) ?_
    refine nv_icmp_ne (X := ((n9 % 4 : Nat) : Int)) (Y := ((3 : Nat) : Int)) hx hb (nI_toInt (by omega)) (nI_toInt (by omega)) (tgt := 769) dL_law_762 (by decide) (fun c_2 => ?_) (fun c_2 => ?_)
    · skip
      refine lv_iconst (v := nI 0) hx hb dL_law_769 (by decide) ?_
      refine tp_i (show nI 0 = bI false from rfl) ?_
      refine run_i (S := JT) (run_Sx (As := [.ref (X 0 0), .ref (E.2.2 202), .int (nI (5 * n9 + 5)), .int (bI false)]) (rest := []) (bs := OB E X hs w g g2 hg nx ct j ++ [smC E os f]) (cb := OB E X hs w g g2 hg nx ct j) hx hb hml hown hts hK hZ hDD hA (c_L_isWhole l hst E _ X hs w g g2 B hI hg nx ct hnx hct j hj hJ hL (5 * n9 + 5) (by omega) false) l_L_219 rfl ⟨⟨rfl, rfl⟩, Nat.le_of_ble_eq_true rfl, Nat.le_of_ble_eq_true rfl⟩ [0, 1, 2, 3, 4, 5, 6, 7, 8, 9] rfl (by decide) hP hD hS hl.1 rfl (Nat.le_of_ble_eq_true rfl) dL_law_770 ⟨by show cells + 1700 ≤ 800891; omega, by show slots + 14500 ≤ 6687511; omega⟩) hA hP hD hS (isC := [0, 1, 2, 3, 4, 5, 6, 7, 8, 9]) rfl [10] [1, 2, 3, 4, 5, 6, 7, 8, 9, 10, 0] (br := [smC E os f]) (bs2 := fun u => OB E X hs w g g2 hg nx ct u ++ [smC E os f]) rfl (by decide) (fun _ => rfl) (by decide) (fun r j_3 H locs hw hP hD hS => ?_)
      obtain ⟨hw, hj_4⟩ := hw
      subst hw
      refine nv_if_ne (X := ((1 : Nat) : Int)) hx hb (nI_toInt (by omega)) (tgt := 778) dL_law_773 (by decide) (fun c_5 => ?_) (fun c_5 => ?_)
      · skip
        refine lv_iload hx hb dL_law_778 (lv_at hl 7 rfl) ?_
        refine nv_if_ne (X := ((0 : Nat) : Int)) hx hb (nI_toInt (by omega)) (tgt := 795) dL_law_780 (by decide) (fun c_6 => ?_) (fun c_6 => ?_)
        · exact absurd c_6 (by omega)
        · skip
          refine lv_aload_n hx hb dL_law_783 rfl (lv_at hl 2 rfl) ?_
          refine run_l (S := JT) (run_Sx (As := [.ref (X 0 0)]) (rest := []) (bs := OB E X hs w g g2 hg nx ct j_3 ++ [smC E os f]) (cb := OB E X hs w g g2 hg nx ct j_3) hx hb hml hown hts hK hZ hDD hA (c_L_sum l hst E _ X hs w g g2 B hI hg nx ct hnx hct j_3 hj_4) l_L_172 rfl ⟨⟨rfl, rfl⟩, Nat.le_of_ble_eq_true rfl, Nat.le_of_ble_eq_true rfl⟩ [0, 1, 2, 3, 4, 5, 6, 7, 8, 9] rfl (by decide) hP hD hS hl.1 rfl (Nat.le_of_ble_eq_true rfl) dL_law_784 ⟨by show (cells + 1700) + 58 ≤ 800891; omega, by show (slots + 14500) + 348 ≤ 6687511; omega⟩) hA hP hD hS (isC := [0, 1, 2, 3, 4, 5, 6, 7, 8, 9]) rfl [10] [1, 2, 3, 4, 5, 6, 7, 8, 9, 10, 0] (br := [smC E os f]) (bs2 := fun u => OB E X hs w g g2 hg nx ct u ++ [smC E os f]) rfl (by decide) (fun _ => rfl) (by decide) (fun r j_7 H locs hw hP hD hS => ?_)
          obtain ⟨hw, hj_8⟩ := hw
          subst hw
          refine lv_lload hx hb dL_law_787 (lv_at hl 6 rfl) ?_
          refine W.lcmp hx hb dL_law_789 ?_
          refine tp_i (show lg_cmp (sumF g) (sumF g) = nI 0 from lg_eq _) ?_
          refine nv_if_eq (X := ((0 : Nat) : Int)) hx hb (nI_toInt (by omega)) (tgt := 805) dL_law_790 (by decide) (fun c_9 => ?_) (fun c_9 => ?_)
          · skip
            refine lv_iinc (v := nI (n9 + 1)) (lv' := [(5, .int (nI (n9 + 1))), (4, .int (nI (5 * n9 + 5))), (0, .ref (E.2.2 202)), (1, .ref (X 0 0)), (2, .ref os), (3, .int (nI made)), (6, .long (sumF g)), (29, .int (nI 0)), (30, .int (nI 1))]) hx hb dL_law_805 hl (k := 5) rfl (nI_add n9 1) (by decide) rfl (fun ls hl => ?_)
            have hl : lv_has ls 32 [(5, .int (nI (n9 + 1))), (4, .int (nI (5 * (n9 + 1)))), (0, .ref (E.2.2 202)), (1, .ref (X 0 0)), (2, .ref os), (3, .int (nI made)), (6, .long (sumF g)), (29, .int (nI 0)), (30, .int (nI 1))] := by rw [show nI (5 * (n9 + 1)) = nI (5 * n9 + 5) from congrArg nI (by omega)]; exact hl
            refine lv_goto (tgt := 28) hx hb dL_law_808 (by decide) ?_
            exact W_widen (by omega) (by omega) (K _ _ _ _ _ j_7 (made) _ _ _ _ (hR j_7 hj_8) hP hD hS (lv_sub hl [2, 3, 4, 5, 1, 0] rfl))
          · exact absurd c_9 (by omega)
      · exact absurd c_5 (by omega)
    · skip
      refine lv_iconst (v := nI 1) hx hb dL_law_765 (by decide) ?_
      refine lv_goto (tgt := 770) hx hb dL_law_766 (by decide) ?_
      refine tp_i (show nI 1 = bI true from rfl) ?_
      refine run_i (S := JT) (run_Sx (As := [.ref (X 0 0), .ref (E.2.2 202), .int (nI (5 * n9 + 5)), .int (bI true)]) (rest := []) (bs := OB E X hs w g g2 hg nx ct j ++ [smC E os f]) (cb := OB E X hs w g g2 hg nx ct j) hx hb hml hown hts hK hZ hDD hA (c_L_isWhole l hst E _ X hs w g g2 B hI hg nx ct hnx hct j hj hJ hL (5 * n9 + 5) (by omega) true) l_L_219 rfl ⟨⟨rfl, rfl⟩, Nat.le_of_ble_eq_true rfl, Nat.le_of_ble_eq_true rfl⟩ [0, 1, 2, 3, 4, 5, 6, 7, 8, 9] rfl (by decide) hP hD hS hl.1 rfl (Nat.le_of_ble_eq_true rfl) dL_law_770 ⟨by show cells + 1700 ≤ 800891; omega, by show slots + 14500 ≤ 6687511; omega⟩) hA hP hD hS (isC := [0, 1, 2, 3, 4, 5, 6, 7, 8, 9]) rfl [10] [1, 2, 3, 4, 5, 6, 7, 8, 9, 10, 0] (br := [smC E os f]) (bs2 := fun u => OB E X hs w g g2 hg nx ct u ++ [smC E os f]) rfl (by decide) (fun _ => rfl) (by decide) (fun r j_10 H locs hw hP hD hS => ?_)
      obtain ⟨hw, hj_11⟩ := hw
      subst hw
      refine nv_if_ne (X := ((1 : Nat) : Int)) hx hb (nI_toInt (by omega)) (tgt := 778) dL_law_773 (by decide) (fun c_12 => ?_) (fun c_12 => ?_)
      · skip
        refine lv_iload hx hb dL_law_778 (lv_at hl 7 rfl) ?_
        refine nv_if_ne (X := ((0 : Nat) : Int)) hx hb (nI_toInt (by omega)) (tgt := 795) dL_law_780 (by decide) (fun c_13 => ?_) (fun c_13 => ?_)
        · exact absurd c_13 (by omega)
        · skip
          refine lv_aload_n hx hb dL_law_783 rfl (lv_at hl 2 rfl) ?_
          refine run_l (S := JT) (run_Sx (As := [.ref (X 0 0)]) (rest := []) (bs := OB E X hs w g g2 hg nx ct j_10 ++ [smC E os f]) (cb := OB E X hs w g g2 hg nx ct j_10) hx hb hml hown hts hK hZ hDD hA (c_L_sum l hst E _ X hs w g g2 B hI hg nx ct hnx hct j_10 hj_11) l_L_172 rfl ⟨⟨rfl, rfl⟩, Nat.le_of_ble_eq_true rfl, Nat.le_of_ble_eq_true rfl⟩ [0, 1, 2, 3, 4, 5, 6, 7, 8, 9] rfl (by decide) hP hD hS hl.1 rfl (Nat.le_of_ble_eq_true rfl) dL_law_784 ⟨by show (cells + 1700) + 58 ≤ 800891; omega, by show (slots + 14500) + 348 ≤ 6687511; omega⟩) hA hP hD hS (isC := [0, 1, 2, 3, 4, 5, 6, 7, 8, 9]) rfl [10] [1, 2, 3, 4, 5, 6, 7, 8, 9, 10, 0] (br := [smC E os f]) (bs2 := fun u => OB E X hs w g g2 hg nx ct u ++ [smC E os f]) rfl (by decide) (fun _ => rfl) (by decide) (fun r j_14 H locs hw hP hD hS => ?_)
          obtain ⟨hw, hj_15⟩ := hw
          subst hw
          refine lv_lload hx hb dL_law_787 (lv_at hl 6 rfl) ?_
          refine W.lcmp hx hb dL_law_789 ?_
          refine tp_i (show lg_cmp (sumF g) (sumF g) = nI 0 from lg_eq _) ?_
          refine nv_if_eq (X := ((0 : Nat) : Int)) hx hb (nI_toInt (by omega)) (tgt := 805) dL_law_790 (by decide) (fun c_16 => ?_) (fun c_16 => ?_)
          · skip
            refine lv_iinc (v := nI (n9 + 1)) (lv' := [(5, .int (nI (n9 + 1))), (4, .int (nI (5 * n9 + 5))), (0, .ref (E.2.2 202)), (1, .ref (X 0 0)), (2, .ref os), (3, .int (nI made)), (6, .long (sumF g)), (29, .int (nI 0)), (30, .int (nI 1))]) hx hb dL_law_805 hl (k := 5) rfl (nI_add n9 1) (by decide) rfl (fun ls hl => ?_)
            have hl : lv_has ls 32 [(5, .int (nI (n9 + 1))), (4, .int (nI (5 * (n9 + 1)))), (0, .ref (E.2.2 202)), (1, .ref (X 0 0)), (2, .ref os), (3, .int (nI made)), (6, .long (sumF g)), (29, .int (nI 0)), (30, .int (nI 1))] := by rw [show nI (5 * (n9 + 1)) = nI (5 * n9 + 5) from congrArg nI (by omega)]; exact hl
            refine lv_goto (tgt := 28) hx hb dL_law_808 (by decide) ?_
            exact W_widen (by omega) (by omega) (K _ _ _ _ _ j_14 (made) _ _ _ _ (hR j_14 hj_15) hP hD hS (lv_sub hl [2, 3, 4, 5, 1, 0] rfl))
          · exact absurd c_16 (by omega)
      · exact absurd c_12 (by omega)
