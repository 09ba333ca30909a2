set_option maxHeartbeats 8000000 in
set_option maxRecDepth 100000 in
theorem chk_F1 {p : Program} {l : Launch} {e : Env} {s : State} {m : MethodId} {args : Array Value} {below : List Frame} {meth : Method} {c : Code} {E : EE} {A : Nat → Prop} {Q : State → Prop} (X hs : Nat → Nat → Nat) (os : Nat) (f : Nat → Int64) (w : Nat → Nat) (g g2 : GG) (B : Nat) (hI : IB B g) (hg : Nat → GG) (nx ct : Nat) (hnx : nx < 8) (hct : ct ≤ 8) (j : JT) (hj : JV j) (bf : Int64) (kd sz m9 beats ea tone tol fav qu ho be su ch bo made k9 n9 : Nat) (v21 v22 v23 v24 v25 v26 : Int32) (r : Int32) (hsz : sz ≤ 8) (hm9 : m9 ≤ 8) (hbe : g 8 1 = be) (hch : g 8 6 = ch) (hr : r.toInt ≤ -76) (hk : kd < 31) (C : LCL p l s m args c E A) {cells slots : Nat} (hcs : cells + 100 ≤ 800000 ∧ slots + 600 ≤ 6680000) (kk : ∀ (j9 : JT) (H : Heap) (locs : List Loc) (ls : Array Slot), JV j9 → va_P E.1 vwCl (OB E X hs w g g2 hg nx ct j9 ++ [smC E os f] : List va_W).flatten H → va_D A (OB E X hs w g g2 hg nx ct j9 ++ [smC E os f] : List va_W).flatten → va_S A s.heap H locs → lv_has ls 32 [(0, .ref (E.2.2 202)), (1, .ref (X 0 0)), (2, .ref os), (3, .int (nI made)), (4, .int (nI k9)), (5, .int (nI n9)), (6, .long bf), (29, .int (nI 0)), (30, .int (nI 1))] → W p l e room_1 s m args below meth c H locs (cells + 40) (slots + 240) Q (F0 m 745 ls [])) {H : Heap} {locs : List Loc} {ls : Array Slot} (hP : va_P E.1 vwCl (OB E X hs w g g2 hg nx ct j ++ [smC E os f] : List va_W).flatten H) (hD : va_D A (OB E X hs w g g2 hg nx ct j ++ [smC E os f] : List va_W).flatten) (hS : va_S A s.heap H locs) (hl : lv_has ls 32 [(0, .ref (E.2.2 202)), (1, .ref (X 0 0)), (2, .ref os), (3, .int (nI made)), (4, .int (nI k9)), (5, .int (nI n9)), (6, .long bf), (8, .int (nI kd)), (9, .int (nI sz)), (10, .int (nI m9)), (11, .int (nI beats)), (12, .int (nI ea)), (13, .int (nI tone)), (14, .int (nI tol)), (15, .int (nI fav)), (16, .int (nI qu)), (17, .int (nI ho)), (18, .int (nI be)), (19, .int (nI su)), (20, .int (nI ch)), (21, .int v21), (22, .int v22), (23, .int v23), (24, .int v24), (25, .int v25), (26, .int v26), (27, .int (nI bo))]) : W p l e room_1 s m args below meth c H locs cells slots Q (F0 m 276 ls [.int r]) := by
  have C0 := C
  obtain ⟨hx, hb, hml, hown, hts, hK, hZ, hDD, hA, hst, hL⟩ := C
  have hmc := hI.mc
  have hbud := hI.bud
  refine lv_istore (lv' := [(28, .int r), (0, .ref (E.2.2 202)), (1, .ref (X 0 0)), (2, .ref os), (3, .int (nI made)), (4, .int (nI k9)), (5, .int (nI n9)), (6, .long bf), (8, .int (nI kd)), (9, .int (nI sz)), (10, .int (nI m9)), (11, .int (nI beats)), (12, .int (nI ea)), (13, .int (nI tone)), (14, .int (nI tol)), (15, .int (nI fav)), (16, .int (nI qu)), (17, .int (nI ho)), (18, .int (nI be)), (19, .int (nI su)), (20, .int (nI ch)), (21, .int v21), (22, .int v22), (23, .int v23), (24, .int v24), (25, .int v25), (26, .int v26), (27, .int (nI bo))]) hx hb dL_law_276 hl (by decide) rfl (fun ls hl => ?_)
  refine lv_iload hx hb dL_law_278 (lv_at hl 0 rfl) ?_
  refine lv_bipush (v := -70) hx hb dL_law_280 (by decide) ?_
  refine nv_icmp_le (X := r.toInt) (Y := (-70)) hx hb rfl (by decide) (tgt := 289) dL_law_282 (by decide) (fun c_1 => ?_) (fun c_1 => ?_)
  · skip
    refine lv_iconst (v := nI 0) hx hb dL_law_289 (by decide) ?_
    refine lv_istore (lv' := [(29, .int (nI 0)), (28, .int r), (0, .ref (E.2.2 202)), (1, .ref (X 0 0)), (2, .ref os), (3, .int (nI made)), (4, .int (nI k9)), (5, .int (nI n9)), (6, .long bf), (8, .int (nI kd)), (9, .int (nI sz)), (10, .int (nI m9)), (11, .int (nI beats)), (12, .int (nI ea)), (13, .int (nI tone)), (14, .int (nI tol)), (15, .int (nI fav)), (16, .int (nI qu)), (17, .int (nI ho)), (18, .int (nI be)), (19, .int (nI su)), (20, .int (nI ch)), (21, .int v21), (22, .int v22), (23, .int v23), (24, .int v24), (25, .int v25), (26, .int v26), (27, .int (nI bo))]) hx hb dL_law_290 hl (by decide) rfl (fun ls hl => ?_)
    refine lv_iload hx hb dL_law_292 (lv_at hl 0 rfl) ?_
    refine nv_if_eq (X := ((0 : Nat) : Int)) hx hb (nI_toInt (by omega)) (tgt := 337) dL_law_294 (by decide) (fun c_2 => ?_) (fun c_2 => ?_)
    · skip
      refine lv_iconst (v := nI 1) hx hb dL_law_337 (by decide) ?_
      refine lv_goto (tgt := 342) hx hb dL_law_338 (by decide) ?_
      refine lv_istore (lv' := [(30, .int (nI 1)), (29, .int (nI 0)), (28, .int r), (0, .ref (E.2.2 202)), (1, .ref (X 0 0)), (2, .ref os), (3, .int (nI made)), (4, .int (nI k9)), (5, .int (nI n9)), (6, .long bf), (8, .int (nI kd)), (9, .int (nI sz)), (10, .int (nI m9)), (11, .int (nI beats)), (12, .int (nI ea)), (13, .int (nI tone)), (14, .int (nI tol)), (15, .int (nI fav)), (16, .int (nI qu)), (17, .int (nI ho)), (18, .int (nI be)), (19, .int (nI su)), (20, .int (nI ch)), (21, .int v21), (22, .int v22), (23, .int v23), (24, .int v24), (25, .int v25), (26, .int v26), (27, .int (nI bo))]) hx hb dL_law_342 hl (by decide) rfl (fun ls hl => ?_)
      refine lv_iload hx hb dL_law_344 (lv_at hl 0 rfl) ?_
      refine lv_iload hx hb dL_law_346 (lv_at hl 1 rfl) ?_
      refine nv_if_eq (X := ((0 : Nat) : Int)) hx hb (nI_toInt (by omega)) (tgt := 405) dL_law_348 (by decide) (fun c_3 => ?_) (fun c_3 => ?_)
      · skip
        refine lv_iconst (v := nI 1) hx hb dL_law_405 (by decide) ?_
        refine lv_goto (tgt := 410) hx hb dL_law_406 (by decide) ?_
        refine lv_iand hx hb dL_law_410 ?_
        refine tp_i (show nI 1 &&& nI 1 = nI 1 from by decide) ?_
        refine lv_istore (lv' := [(30, .int (nI 1)), (29, .int (nI 0)), (28, .int r), (0, .ref (E.2.2 202)), (1, .ref (X 0 0)), (2, .ref os), (3, .int (nI made)), (4, .int (nI k9)), (5, .int (nI n9)), (6, .long bf), (8, .int (nI kd)), (9, .int (nI sz)), (10, .int (nI m9)), (11, .int (nI beats)), (12, .int (nI ea)), (13, .int (nI tone)), (14, .int (nI tol)), (15, .int (nI fav)), (16, .int (nI qu)), (17, .int (nI ho)), (18, .int (nI be)), (19, .int (nI su)), (20, .int (nI ch)), (21, .int v21), (22, .int v22), (23, .int v23), (24, .int v24), (25, .int v25), (26, .int v26), (27, .int (nI bo))]) hx hb dL_law_411 hl (by decide) rfl (fun ls hl => ?_)
        refine lv_iload hx hb dL_law_413 (lv_at hl 1 rfl) ?_
        refine nv_if_eq (X := ((0 : Nat) : Int)) hx hb (nI_toInt (by omega)) (tgt := 436) dL_law_415 (by decide) (fun c_4 => ?_) (fun c_4 => ?_)
        · skip
          refine lv_iconst (v := nI 0) hx hb dL_law_436 (by decide) ?_
          refine lv_istore (lv' := [(31, .int (nI 0)), (30, .int (nI 1)), (29, .int (nI 0)), (28, .int r), (0, .ref (E.2.2 202)), (1, .ref (X 0 0)), (2, .ref os), (3, .int (nI made)), (4, .int (nI k9)), (5, .int (nI n9)), (6, .long bf), (8, .int (nI kd)), (9, .int (nI sz)), (10, .int (nI m9)), (11, .int (nI beats)), (12, .int (nI ea)), (13, .int (nI tone)), (14, .int (nI tol)), (15, .int (nI fav)), (16, .int (nI qu)), (17, .int (nI ho)), (18, .int (nI be)), (19, .int (nI su)), (20, .int (nI ch)), (21, .int v21), (22, .int v22), (23, .int v23), (24, .int v24), (25, .int v25), (26, .int v26), (27, .int (nI bo))]) hx hb dL_law_437 hl (by decide) rfl (fun ls hl => ?_)
          refine lv_iload hx hb dL_law_439 (lv_at hl 1 rfl) ?_
          refine lv_iload hx hb dL_law_441 (lv_at hl 0 rfl) ?_
          refine nv_if_eq (X := ((0 : Nat) : Int)) hx hb (nI_toInt (by omega)) (tgt := 540) dL_law_443 (by decide) (fun c_5 => ?_) (fun c_5 => ?_)
          · skip
            refine lv_iconst (v := nI 1) hx hb dL_law_540 (by decide) ?_
            refine lv_goto (tgt := 545) hx hb dL_law_541 (by decide) ?_
            refine lv_iand hx hb dL_law_545 ?_
            refine tp_i (show nI 1 &&& nI 1 = nI 1 from by decide) ?_
            refine lv_istore (lv' := [(30, .int (nI 1)), (31, .int (nI 0)), (29, .int (nI 0)), (28, .int r), (0, .ref (E.2.2 202)), (1, .ref (X 0 0)), (2, .ref os), (3, .int (nI made)), (4, .int (nI k9)), (5, .int (nI n9)), (6, .long bf), (8, .int (nI kd)), (9, .int (nI sz)), (10, .int (nI m9)), (11, .int (nI beats)), (12, .int (nI ea)), (13, .int (nI tone)), (14, .int (nI tol)), (15, .int (nI fav)), (16, .int (nI qu)), (17, .int (nI ho)), (18, .int (nI be)), (19, .int (nI su)), (20, .int (nI ch)), (21, .int v21), (22, .int v22), (23, .int v23), (24, .int v24), (25, .int v25), (26, .int v26), (27, .int (nI bo))]) hx hb dL_law_546 hl (by decide) rfl (fun ls hl => ?_)
            refine lv_iload hx hb dL_law_548 (lv_at hl 0 rfl) ?_
            refine lv_iload hx hb dL_law_550 (lv_at hl 2 rfl) ?_
            refine nv_if_eq (X := ((0 : Nat) : Int)) hx hb (nI_toInt (by omega)) (tgt := 604) dL_law_552 (by decide) (fun c_6 => ?_) (fun c_6 => ?_)
            · skip
              refine lv_iconst (v := nI 1) hx hb dL_law_604 (by decide) ?_
              refine lv_goto (tgt := 609) hx hb dL_law_605 (by decide) ?_
              refine lv_iand hx hb dL_law_609 ?_
              refine tp_i (show nI 1 &&& nI 1 = nI 1 from by decide) ?_
              refine lv_istore (lv' := [(30, .int (nI 1)), (31, .int (nI 0)), (29, .int (nI 0)), (28, .int r), (0, .ref (E.2.2 202)), (1, .ref (X 0 0)), (2, .ref os), (3, .int (nI made)), (4, .int (nI k9)), (5, .int (nI n9)), (6, .long bf), (8, .int (nI kd)), (9, .int (nI sz)), (10, .int (nI m9)), (11, .int (nI beats)), (12, .int (nI ea)), (13, .int (nI tone)), (14, .int (nI tol)), (15, .int (nI fav)), (16, .int (nI qu)), (17, .int (nI ho)), (18, .int (nI be)), (19, .int (nI su)), (20, .int (nI ch)), (21, .int v21), (22, .int v22), (23, .int v23), (24, .int v24), (25, .int v25), (26, .int v26), (27, .int (nI bo))]) hx hb dL_law_610 hl (by decide) rfl (fun ls hl => ?_)
              refine lv_iload hx hb dL_law_612 (lv_at hl 0 rfl) ?_
              refine lv_iload hx hb dL_law_614 (lv_at hl 11 rfl) ?_
              refine lv_bipush (v := nI 31) hx hb dL_law_616 (by decide) ?_
              refine nv_icmp_lt (X := ((kd : Nat) : Int)) (Y := ((31 : Nat) : Int)) hx hb (nI_toInt (by omega)) (nI_toInt (by omega)) (tgt := 697) dL_law_618 (by decide) (fun c_7 => ?_) (fun c_7 => ?_)
              · skip
                refine lv_iconst (v := nI 1) hx hb dL_law_697 (by decide) ?_
                refine lv_goto (tgt := 702) hx hb dL_law_698 (by decide) ?_
                refine lv_iand hx hb dL_law_702 ?_
                refine tp_i (show nI 1 &&& nI 1 = nI 1 from by decide) ?_
                refine lv_istore (lv' := [(30, .int (nI 1)), (31, .int (nI 0)), (29, .int (nI 0)), (28, .int r), (0, .ref (E.2.2 202)), (1, .ref (X 0 0)), (2, .ref os), (3, .int (nI made)), (4, .int (nI k9)), (5, .int (nI n9)), (6, .long bf), (8, .int (nI kd)), (9, .int (nI sz)), (10, .int (nI m9)), (11, .int (nI beats)), (12, .int (nI ea)), (13, .int (nI tone)), (14, .int (nI tol)), (15, .int (nI fav)), (16, .int (nI qu)), (17, .int (nI ho)), (18, .int (nI be)), (19, .int (nI su)), (20, .int (nI ch)), (21, .int v21), (22, .int v22), (23, .int v23), (24, .int v24), (25, .int v25), (26, .int v26), (27, .int (nI bo))]) hx hb dL_law_703 hl (by decide) rfl (fun ls hl => ?_)
                refine lv_iload hx hb dL_law_705 (lv_at hl 0 rfl) ?_
                refine lv_iload hx hb dL_law_707 (lv_at hl 1 rfl) ?_
                refine nv_if_ne (X := ((0 : Nat) : Int)) hx hb (nI_toInt (by omega)) (tgt := 737) dL_law_709 (by decide) (fun c_8 => ?_) (fun c_8 => ?_)
                · exact absurd c_8 (by omega)
                · skip
                  refine lv_iload hx hb dL_law_712 (lv_at hl 11 rfl) ?_
                  refine lv_bipush (v := nI 35) hx hb dL_law_714 (by decide) ?_
                  refine nv_icmp_gt (X := ((kd : Nat) : Int)) (Y := ((35 : Nat) : Int)) hx hb (nI_toInt (by omega)) (nI_toInt (by omega)) (tgt := 737) dL_law_716 (by decide) (fun c_9 => ?_) (fun c_9 => ?_)
                  · exact absurd c_9 (by omega)
                  · skip
                    refine lv_aload_n hx hb dL_law_719 rfl (lv_at hl 5 rfl) ?_
                    refine run_i (S := Unit) (run_V (As := []) (rest := [.int (nI 1)]) (bs := OB E X hs w g g2 hg nx ct j ++ [smC E os f]) (cb := [coC E (X 0) (X 1) (X 2) (X 3) (X 4) (X 5) (X 6) (X 7) (X 8) w, stC E (X 1) g]) hx hb hml hown hts hK hZ hA (c_X5_beat l E _ (X 0) (X 1) (X 2) (X 3) (X 4) (X 5) (X 6) (X 7) (X 8) w g B hI) l_L_194 rfl ⟨⟨rfl, rfl⟩, Nat.le_of_ble_eq_true rfl, Nat.le_of_ble_eq_true rfl⟩ 9 rfl [0, 1] rfl (by decide) rfl hP hD hS hl.1 rfl (Nat.le_of_ble_eq_true rfl) dL_law_720 ⟨by show cells + 0 ≤ 800891; omega, by show slots + 0 ≤ 6687511; omega⟩) hA hP hD hS (isC := [0, 1]) rfl [2, 3, 4, 5, 6, 7, 8, 9, 10] [9, 10, 0, 1, 2, 3, 4, 5, 6, 7, 8] (br := [stC E (X 2) g2, stC E (X 3) j.1, hhC E (X 4) hs hg nx ct, diC E (X 5) j.2.1 j.2.2.1, grC E (X 6) j.2.2.2.1 j.2.2.2.2.1, prC E (X 7) j.2.2.2.2.2.1 j.2.2.2.2.2.2.1, sbO E (X 8) j.2.2.2.2.2.2.2.1 j.2.2.2.2.2.2.2.2.1 j.2.2.2.2.2.2.2.2.2.1, baC E j.2.2.2.2.2.2.2.1 j.2.2.2.2.2.2.2.2.2.2.1 j.2.2.2.2.2.2.2.2.2.2.2, smC E os f]) (bs2 := fun _ => OB E X hs w g g2 hg nx ct j ++ [smC E os f]) rfl (by decide) (fun _ => rfl) (by decide) (fun r u H locs hw hP hD hS => ?_)
                    subst hw
                    refine lv_iload hx hb dL_law_723 (lv_at hl 21 rfl) ?_
                    refine nv_icmp_ne (X := ((g 8 1 : Nat) : Int)) (Y := ((be : Nat) : Int)) hx hb (nI_toInt (by omega)) (nI_toInt (by omega)) (tgt := 741) dL_law_725 (by decide) (fun c_10 => ?_) (fun c_10 => ?_)
                    · exact absurd c_10 (by omega)
                    · skip
                      refine lv_aload_n hx hb dL_law_728 rfl (lv_at hl 5 rfl) ?_
                      refine run_i (S := Unit) (run_V (As := []) (rest := [.int (nI 1)]) (bs := OB E X hs w g g2 hg nx ct j ++ [smC E os f]) (cb := [coC E (X 0) (X 1) (X 2) (X 3) (X 4) (X 5) (X 6) (X 7) (X 8) w, stC E (X 1) g]) hx hb hml hown hts hK hZ hA (c_X5_chirps l E _ (X 0) (X 1) (X 2) (X 3) (X 4) (X 5) (X 6) (X 7) (X 8) w g B hI) l_L_200 rfl ⟨⟨rfl, rfl⟩, Nat.le_of_ble_eq_true rfl, Nat.le_of_ble_eq_true rfl⟩ 9 rfl [0, 1] rfl (by decide) rfl hP hD hS hl.1 rfl (Nat.le_of_ble_eq_true rfl) dL_law_729 ⟨by show cells + 0 ≤ 800891; omega, by show slots + 0 ≤ 6687511; omega⟩) hA hP hD hS (isC := [0, 1]) rfl [2, 3, 4, 5, 6, 7, 8, 9, 10] [9, 10, 0, 1, 2, 3, 4, 5, 6, 7, 8] (br := [stC E (X 2) g2, stC E (X 3) j.1, hhC E (X 4) hs hg nx ct, diC E (X 5) j.2.1 j.2.2.1, grC E (X 6) j.2.2.2.1 j.2.2.2.2.1, prC E (X 7) j.2.2.2.2.2.1 j.2.2.2.2.2.2.1, sbO E (X 8) j.2.2.2.2.2.2.2.1 j.2.2.2.2.2.2.2.2.1 j.2.2.2.2.2.2.2.2.2.1, baC E j.2.2.2.2.2.2.2.1 j.2.2.2.2.2.2.2.2.2.2.1 j.2.2.2.2.2.2.2.2.2.2.2, smC E os f]) (bs2 := fun _ => OB E X hs w g g2 hg nx ct j ++ [smC E os f]) rfl (by decide) (fun _ => rfl) (by decide) (fun r u H locs hw hP hD hS => ?_)
                      subst hw
                      refine lv_iload hx hb dL_law_732 (lv_at hl 23 rfl) ?_
                      refine nv_icmp_ne (X := ((g 8 6 : Nat) : Int)) (Y := ((ch : Nat) : Int)) hx hb (nI_toInt (by omega)) (nI_toInt (by omega)) (tgt := 741) dL_law_734 (by decide) (fun c_11 => ?_) (fun c_11 => ?_)
                      · exact absurd c_11 (by omega)
                      · skip
                        refine lv_iconst (v := nI 1) hx hb dL_law_737 (by decide) ?_
                        refine lv_goto (tgt := 742) hx hb dL_law_738 (by decide) ?_
                        refine lv_iand hx hb dL_law_742 ?_
                        refine tp_i (show nI 1 &&& nI 1 = nI 1 from by decide) ?_
                        refine lv_istore (lv' := [(30, .int (nI 1)), (31, .int (nI 0)), (29, .int (nI 0)), (28, .int r), (0, .ref (E.2.2 202)), (1, .ref (X 0 0)), (2, .ref os), (3, .int (nI made)), (4, .int (nI k9)), (5, .int (nI n9)), (6, .long bf), (8, .int (nI kd)), (9, .int (nI sz)), (10, .int (nI m9)), (11, .int (nI beats)), (12, .int (nI ea)), (13, .int (nI tone)), (14, .int (nI tol)), (15, .int (nI fav)), (16, .int (nI qu)), (17, .int (nI ho)), (18, .int (nI be)), (19, .int (nI su)), (20, .int (nI ch)), (21, .int v21), (22, .int v22), (23, .int v23), (24, .int v24), (25, .int v25), (26, .int v26), (27, .int (nI bo))]) hx hb dL_law_743 hl (by decide) rfl (fun ls hl => ?_)
                        exact W_widen (by omega) (by omega) (kk j _ _ _ hj hP hD hS (lv_sub hl [4, 5, 6, 7, 8, 9, 10, 2, 0] rfl))
              · exact absurd c_7 (by omega)
            · exact absurd c_6 (by omega)
          · exact absurd c_5 (by omega)
        · exact absurd c_4 (by omega)
      · exact absurd c_3 (by omega)
    · exact absurd c_2 (by omega)
  · exact absurd c_1 (by omega)
set_option maxHeartbeats 8000000 in
set_option maxRecDepth 100000 in
theorem chk_F2 {p : Program} {l : Launch} {e : Env} {s : State} {m : MethodId} {args : Array Value} {below : List Frame} {meth : Method} {c : Code} {E : EE} {A : Nat → Prop} {Q : State → Prop} (X hs : Nat → Nat → Nat) (os : Nat) (f : Nat → Int64) (w : Nat → Nat) (g g2 : GG) (B : Nat) (hI : IB B g) (hg : Nat → GG) (nx ct : Nat) (hnx : nx < 8) (hct : ct ≤ 8) (j : JT) (hj : JV j) (bf : Int64) (kd sz m9 beats ea tone tol fav qu ho be su ch bo made k9 n9 : Nat) (v21 v22 v23 v24 v25 v26 : Int32) (r : Int32) (hsz : sz ≤ 8) (hm9 : m9 ≤ 8) (hbe : g 8 1 = be) (hch : g 8 6 = ch) (hr : r.toInt ≤ -76) (hk : 35 < kd) (hk2 : kd < 38) (C : LCL p l s m args c E A) {cells slots : Nat} (hcs : cells + 100 ≤ 800000 ∧ slots + 600 ≤ 6680000) (kk : ∀ (j9 : JT) (H : Heap) (locs : List Loc) (ls : Array Slot), JV j9 → va_P E.1 vwCl (OB E X hs w g g2 hg nx ct j9 ++ [smC E os f] : List va_W).flatten H → va_D A (OB E X hs w g g2 hg nx ct j9 ++ [smC E os f] : List va_W).flatten → va_S A s.heap H locs → lv_has ls 32 [(0, .ref (E.2.2 202)), (1, .ref (X 0 0)), (2, .ref os), (3, .int (nI made)), (4, .int (nI k9)), (5, .int (nI n9)), (6, .long bf), (29, .int (nI 0)), (30, .int (nI 1))] → W p l e room_1 s m args below meth c H locs (cells + 40) (slots + 240) Q (F0 m 745 ls [])) {H : Heap} {locs : List Loc} {ls : Array Slot} (hP : va_P E.1 vwCl (OB E X hs w g g2 hg nx ct j ++ [smC E os f] : List va_W).flatten H) (hD : va_D A (OB E X hs w g g2 hg nx ct j ++ [smC E os f] : List va_W).flatten) (hS : va_S A s.heap H locs) (hl : lv_has ls 32 [(0, .ref (E.2.2 202)), (1, .ref (X 0 0)), (2, .ref os), (3, .int (nI made)), (4, .int (nI k9)), (5, .int (nI n9)), (6, .long bf), (8, .int (nI kd)), (9, .int (nI sz)), (10, .int (nI m9)), (11, .int (nI beats)), (12, .int (nI ea)), (13, .int (nI tone)), (14, .int (nI tol)), (15, .int (nI fav)), (16, .int (nI qu)), (17, .int (nI ho)), (18, .int (nI be)), (19, .int (nI su)), (20, .int (nI ch)), (21, .int v21), (22, .int v22), (23, .int v23), (24, .int v24), (25, .int v25), (26, .int v26), (27, .int (nI bo))]) : W p l e room_1 s m args below meth c H locs cells slots Q (F0 m 276 ls [.int r]) := by
  have C0 := C
  obtain ⟨hx, hb, hml, hown, hts, hK, hZ, hDD, hA, hst, hL⟩ := C
  have hmc := hI.mc
  have hbud := hI.bud
  refine lv_istore (lv' := [(28, .int r), (0, .ref (E.2.2 202)), (1, .ref (X 0 0)), (2, .ref os), (3, .int (nI made)), (4, .int (nI k9)), (5, .int (nI n9)), (6, .long bf), (8, .int (nI kd)), (9, .int (nI sz)), (10, .int (nI m9)), (11, .int (nI beats)), (12, .int (nI ea)), (13, .int (nI tone)), (14, .int (nI tol)), (15, .int (nI fav)), (16, .int (nI qu)), (17, .int (nI ho)), (18, .int (nI be)), (19, .int (nI su)), (20, .int (nI ch)), (21, .int v21), (22, .int v22), (23, .int v23), (24, .int v24), (25, .int v25), (26, .int v26), (27, .int (nI bo))]) hx hb dL_law_276 hl (by decide) rfl (fun ls hl => ?_)
  refine lv_iload hx hb dL_law_278 (lv_at hl 0 rfl) ?_
  refine lv_bipush (v := -70) hx hb dL_law_280 (by decide) ?_
  refine nv_icmp_le (X := r.toInt) (Y := (-70)) hx hb rfl (by decide) (tgt := 289) dL_law_282 (by decide) (fun c_1 => ?_) (fun c_1 => ?_)
  · skip
    refine lv_iconst (v := nI 0) hx hb dL_law_289 (by decide) ?_
    refine lv_istore (lv' := [(29, .int (nI 0)), (28, .int r), (0, .ref (E.2.2 202)), (1, .ref (X 0 0)), (2, .ref os), (3, .int (nI made)), (4, .int (nI k9)), (5, .int (nI n9)), (6, .long bf), (8, .int (nI kd)), (9, .int (nI sz)), (10, .int (nI m9)), (11, .int (nI beats)), (12, .int (nI ea)), (13, .int (nI tone)), (14, .int (nI tol)), (15, .int (nI fav)), (16, .int (nI qu)), (17, .int (nI ho)), (18, .int (nI be)), (19, .int (nI su)), (20, .int (nI ch)), (21, .int v21), (22, .int v22), (23, .int v23), (24, .int v24), (25, .int v25), (26, .int v26), (27, .int (nI bo))]) hx hb dL_law_290 hl (by decide) rfl (fun ls hl => ?_)
    refine lv_iload hx hb dL_law_292 (lv_at hl 0 rfl) ?_
    refine nv_if_eq (X := ((0 : Nat) : Int)) hx hb (nI_toInt (by omega)) (tgt := 337) dL_law_294 (by decide) (fun c_2 => ?_) (fun c_2 => ?_)
    · skip
      refine lv_iconst (v := nI 1) hx hb dL_law_337 (by decide) ?_
      refine lv_goto (tgt := 342) hx hb dL_law_338 (by decide) ?_
      refine lv_istore (lv' := [(30, .int (nI 1)), (29, .int (nI 0)), (28, .int r), (0, .ref (E.2.2 202)), (1, .ref (X 0 0)), (2, .ref os), (3, .int (nI made)), (4, .int (nI k9)), (5, .int (nI n9)), (6, .long bf), (8, .int (nI kd)), (9, .int (nI sz)), (10, .int (nI m9)), (11, .int (nI beats)), (12, .int (nI ea)), (13, .int (nI tone)), (14, .int (nI tol)), (15, .int (nI fav)), (16, .int (nI qu)), (17, .int (nI ho)), (18, .int (nI be)), (19, .int (nI su)), (20, .int (nI ch)), (21, .int v21), (22, .int v22), (23, .int v23), (24, .int v24), (25, .int v25), (26, .int v26), (27, .int (nI bo))]) hx hb dL_law_342 hl (by decide) rfl (fun ls hl => ?_)
      refine lv_iload hx hb dL_law_344 (lv_at hl 0 rfl) ?_
      refine lv_iload hx hb dL_law_346 (lv_at hl 1 rfl) ?_
      refine nv_if_eq (X := ((0 : Nat) : Int)) hx hb (nI_toInt (by omega)) (tgt := 405) dL_law_348 (by decide) (fun c_3 => ?_) (fun c_3 => ?_)
      · skip
        refine lv_iconst (v := nI 1) hx hb dL_law_405 (by decide) ?_
        refine lv_goto (tgt := 410) hx hb dL_law_406 (by decide) ?_
        refine lv_iand hx hb dL_law_410 ?_
        refine tp_i (show nI 1 &&& nI 1 = nI 1 from by decide) ?_
        refine lv_istore (lv' := [(30, .int (nI 1)), (29, .int (nI 0)), (28, .int r), (0, .ref (E.2.2 202)), (1, .ref (X 0 0)), (2, .ref os), (3, .int (nI made)), (4, .int (nI k9)), (5, .int (nI n9)), (6, .long bf), (8, .int (nI kd)), (9, .int (nI sz)), (10, .int (nI m9)), (11, .int (nI beats)), (12, .int (nI ea)), (13, .int (nI tone)), (14, .int (nI tol)), (15, .int (nI fav)), (16, .int (nI qu)), (17, .int (nI ho)), (18, .int (nI be)), (19, .int (nI su)), (20, .int (nI ch)), (21, .int v21), (22, .int v22), (23, .int v23), (24, .int v24), (25, .int v25), (26, .int v26), (27, .int (nI bo))]) hx hb dL_law_411 hl (by decide) rfl (fun ls hl => ?_)
        refine lv_iload hx hb dL_law_413 (lv_at hl 1 rfl) ?_
        refine nv_if_eq (X := ((0 : Nat) : Int)) hx hb (nI_toInt (by omega)) (tgt := 436) dL_law_415 (by decide) (fun c_4 => ?_) (fun c_4 => ?_)
        · skip
          refine lv_iconst (v := nI 0) hx hb dL_law_436 (by decide) ?_
          refine lv_istore (lv' := [(31, .int (nI 0)), (30, .int (nI 1)), (29, .int (nI 0)), (28, .int r), (0, .ref (E.2.2 202)), (1, .ref (X 0 0)), (2, .ref os), (3, .int (nI made)), (4, .int (nI k9)), (5, .int (nI n9)), (6, .long bf), (8, .int (nI kd)), (9, .int (nI sz)), (10, .int (nI m9)), (11, .int (nI beats)), (12, .int (nI ea)), (13, .int (nI tone)), (14, .int (nI tol)), (15, .int (nI fav)), (16, .int (nI qu)), (17, .int (nI ho)), (18, .int (nI be)), (19, .int (nI su)), (20, .int (nI ch)), (21, .int v21), (22, .int v22), (23, .int v23), (24, .int v24), (25, .int v25), (26, .int v26), (27, .int (nI bo))]) hx hb dL_law_437 hl (by decide) rfl (fun ls hl => ?_)
          refine lv_iload hx hb dL_law_439 (lv_at hl 1 rfl) ?_
          refine lv_iload hx hb dL_law_441 (lv_at hl 0 rfl) ?_
          refine nv_if_eq (X := ((0 : Nat) : Int)) hx hb (nI_toInt (by omega)) (tgt := 540) dL_law_443 (by decide) (fun c_5 => ?_) (fun c_5 => ?_)
          · skip
            refine lv_iconst (v := nI 1) hx hb dL_law_540 (by decide) ?_
            refine lv_goto (tgt := 545) hx hb dL_law_541 (by decide) ?_
            refine lv_iand hx hb dL_law_545 ?_
            refine tp_i (show nI 1 &&& nI 1 = nI 1 from by decide) ?_
            refine lv_istore (lv' := [(30, .int (nI 1)), (31, .int (nI 0)), (29, .int (nI 0)), (28, .int r), (0, .ref (E.2.2 202)), (1, .ref (X 0 0)), (2, .ref os), (3, .int (nI made)), (4, .int (nI k9)), (5, .int (nI n9)), (6, .long bf), (8, .int (nI kd)), (9, .int (nI sz)), (10, .int (nI m9)), (11, .int (nI beats)), (12, .int (nI ea)), (13, .int (nI tone)), (14, .int (nI tol)), (15, .int (nI fav)), (16, .int (nI qu)), (17, .int (nI ho)), (18, .int (nI be)), (19, .int (nI su)), (20, .int (nI ch)), (21, .int v21), (22, .int v22), (23, .int v23), (24, .int v24), (25, .int v25), (26, .int v26), (27, .int (nI bo))]) hx hb dL_law_546 hl (by decide) rfl (fun ls hl => ?_)
            refine lv_iload hx hb dL_law_548 (lv_at hl 0 rfl) ?_
            refine lv_iload hx hb dL_law_550 (lv_at hl 2 rfl) ?_
            refine nv_if_eq (X := ((0 : Nat) : Int)) hx hb (nI_toInt (by omega)) (tgt := 604) dL_law_552 (by decide) (fun c_6 => ?_) (fun c_6 => ?_)
            · skip
              refine lv_iconst (v := nI 1) hx hb dL_law_604 (by decide) ?_
              refine lv_goto (tgt := 609) hx hb dL_law_605 (by decide) ?_
              refine lv_iand hx hb dL_law_609 ?_
              refine tp_i (show nI 1 &&& nI 1 = nI 1 from by decide) ?_
              refine lv_istore (lv' := [(30, .int (nI 1)), (31, .int (nI 0)), (29, .int (nI 0)), (28, .int r), (0, .ref (E.2.2 202)), (1, .ref (X 0 0)), (2, .ref os), (3, .int (nI made)), (4, .int (nI k9)), (5, .int (nI n9)), (6, .long bf), (8, .int (nI kd)), (9, .int (nI sz)), (10, .int (nI m9)), (11, .int (nI beats)), (12, .int (nI ea)), (13, .int (nI tone)), (14, .int (nI tol)), (15, .int (nI fav)), (16, .int (nI qu)), (17, .int (nI ho)), (18, .int (nI be)), (19, .int (nI su)), (20, .int (nI ch)), (21, .int v21), (22, .int v22), (23, .int v23), (24, .int v24), (25, .int v25), (26, .int v26), (27, .int (nI bo))]) hx hb dL_law_610 hl (by decide) rfl (fun ls hl => ?_)
              refine lv_iload hx hb dL_law_612 (lv_at hl 0 rfl) ?_
              refine lv_iload hx hb dL_law_614 (lv_at hl 11 rfl) ?_
              refine lv_bipush (v := nI 31) hx hb dL_law_616 (by decide) ?_
              refine nv_icmp_lt (X := ((kd : Nat) : Int)) (Y := ((31 : Nat) : Int)) hx hb (nI_toInt (by omega)) (nI_toInt (by omega)) (tgt := 697) dL_law_618 (by decide) (fun c_7 => ?_) (fun c_7 => ?_)
              · exact absurd c_7 (by omega)
              · skip
                refine lv_iload hx hb dL_law_621 (lv_at hl 11 rfl) ?_
                refine lv_bipush (v := nI 35) hx hb dL_law_623 (by decide) ?_
                refine nv_icmp_gt (X := ((kd : Nat) : Int)) (Y := ((35 : Nat) : Int)) hx hb (nI_toInt (by omega)) (nI_toInt (by omega)) (tgt := 697) dL_law_625 (by decide) (fun c_8 => ?_) (fun c_8 => ?_)
                · skip
                  refine lv_iconst (v := nI 1) hx hb dL_law_697 (by decide) ?_
                  refine lv_goto (tgt := 702) hx hb dL_law_698 (by decide) ?_
                  refine lv_iand hx hb dL_law_702 ?_
                  refine tp_i (show nI 1 &&& nI 1 = nI 1 from by decide) ?_
                  refine lv_istore (lv' := [(30, .int (nI 1)), (31, .int (nI 0)), (29, .int (nI 0)), (28, .int r), (0, .ref (E.2.2 202)), (1, .ref (X 0 0)), (2, .ref os), (3, .int (nI made)), (4, .int (nI k9)), (5, .int (nI n9)), (6, .long bf), (8, .int (nI kd)), (9, .int (nI sz)), (10, .int (nI m9)), (11, .int (nI beats)), (12, .int (nI ea)), (13, .int (nI tone)), (14, .int (nI tol)), (15, .int (nI fav)), (16, .int (nI qu)), (17, .int (nI ho)), (18, .int (nI be)), (19, .int (nI su)), (20, .int (nI ch)), (21, .int v21), (22, .int v22), (23, .int v23), (24, .int v24), (25, .int v25), (26, .int v26), (27, .int (nI bo))]) hx hb dL_law_703 hl (by decide) rfl (fun ls hl => ?_)
                  refine lv_iload hx hb dL_law_705 (lv_at hl 0 rfl) ?_
                  refine lv_iload hx hb dL_law_707 (lv_at hl 1 rfl) ?_
                  refine nv_if_ne (X := ((0 : Nat) : Int)) hx hb (nI_toInt (by omega)) (tgt := 737) dL_law_709 (by decide) (fun c_9 => ?_) (fun c_9 => ?_)
                  · exact absurd c_9 (by omega)
                  · skip
                    refine lv_iload hx hb dL_law_712 (lv_at hl 11 rfl) ?_
                    refine lv_bipush (v := nI 35) hx hb dL_law_714 (by decide) ?_
                    refine nv_icmp_gt (X := ((kd : Nat) : Int)) (Y := ((35 : Nat) : Int)) hx hb (nI_toInt (by omega)) (nI_toInt (by omega)) (tgt := 737) dL_law_716 (by decide) (fun c_10 => ?_) (fun c_10 => ?_)
                    · skip
                      refine lv_iconst (v := nI 1) hx hb dL_law_737 (by decide) ?_
                      refine lv_goto (tgt := 742) hx hb dL_law_738 (by decide) ?_
                      refine lv_iand hx hb dL_law_742 ?_
                      refine tp_i (show nI 1 &&& nI 1 = nI 1 from by decide) ?_
                      refine lv_istore (lv' := [(30, .int (nI 1)), (31, .int (nI 0)), (29, .int (nI 0)), (28, .int r), (0, .ref (E.2.2 202)), (1, .ref (X 0 0)), (2, .ref os), (3, .int (nI made)), (4, .int (nI k9)), (5, .int (nI n9)), (6, .long bf), (8, .int (nI kd)), (9, .int (nI sz)), (10, .int (nI m9)), (11, .int (nI beats)), (12, .int (nI ea)), (13, .int (nI tone)), (14, .int (nI tol)), (15, .int (nI fav)), (16, .int (nI qu)), (17, .int (nI ho)), (18, .int (nI be)), (19, .int (nI su)), (20, .int (nI ch)), (21, .int v21), (22, .int v22), (23, .int v23), (24, .int v24), (25, .int v25), (26, .int v26), (27, .int (nI bo))]) hx hb dL_law_743 hl (by decide) rfl (fun ls hl => ?_)
                      exact W_widen (by omega) (by omega) (kk j _ _ _ hj hP hD hS (lv_sub hl [4, 5, 6, 7, 8, 9, 10, 2, 0] rfl))
                    · exact absurd c_10 (by omega)
                · exact absurd c_8 (by omega)
            · exact absurd c_6 (by omega)
          · exact absurd c_5 (by omega)
        · exact absurd c_4 (by omega)
      · exact absurd c_3 (by omega)
    · exact absurd c_2 (by omega)
  · exact absurd c_1 (by omega)
set_option maxHeartbeats 8000000 in
set_option maxRecDepth 100000 in
theorem chk_K0 {p : Program} {l : Launch} {e : Env} {s : State} {m : MethodId} {args : Array Value} {below : List Frame} {meth : Method} {c : Code} {E : EE} {A : Nat → Prop} {Q : State → Prop} (X hs : Nat → Nat → Nat) (os : Nat) (f : Nat → Int64) (w : Nat → Nat) (g g2 : GG) (B : Nat) (hI : IB B g) (hg : Nat → GG) (nx ct : Nat) (hnx : nx < 8) (hct : ct ≤ 8) (j : JT) (hj : JV j) (bf : Int64) (kd sz m9 beats ea tone tol fav qu ho be su ch bo made k9 n9 : Nat) (v21 v22 v23 v24 v25 v26 : Int32) (hsz : sz ≤ 8) (hm9 : m9 ≤ 8) (hbe : g 8 1 = be) (hch : g 8 6 = ch) (hk : kd < 4) (h0 : g 8 0 = sz + 1) (h4 : g 4 sz = 0) (h5 : g 5 sz = 0) (h6 : g 6 sz = 0) (C : LCL p l s m args c E A) {cells slots : Nat} (hcs : cells + 100 ≤ 800000 ∧ slots + 600 ≤ 6680000) (kk : ∀ (j9 : JT) (H : Heap) (locs : List Loc) (ls : Array Slot), JV j9 → va_P E.1 vwCl (OB E X hs w g g2 hg nx ct j9 ++ [smC E os f] : List va_W).flatten H → va_D A (OB E X hs w g g2 hg nx ct j9 ++ [smC E os f] : List va_W).flatten → va_S A s.heap H locs → lv_has ls 32 [(0, .ref (E.2.2 202)), (1, .ref (X 0 0)), (2, .ref os), (3, .int (nI made)), (4, .int (nI k9)), (5, .int (nI n9)), (6, .long bf), (29, .int (nI 1)), (30, .int (nI 1))] → W p l e room_1 s m args below meth c H locs (cells + 40) (slots + 240) Q (F0 m 745 ls [])) {H : Heap} {locs : List Loc} {ls : Array Slot} (hP : va_P E.1 vwCl (OB E X hs w g g2 hg nx ct j ++ [smC E os f] : List va_W).flatten H) (hD : va_D A (OB E X hs w g g2 hg nx ct j ++ [smC E os f] : List va_W).flatten) (hS : va_S A s.heap H locs) (hl : lv_has ls 32 [(0, .ref (E.2.2 202)), (1, .ref (X 0 0)), (2, .ref os), (3, .int (nI made)), (4, .int (nI k9)), (5, .int (nI n9)), (6, .long bf), (8, .int (nI kd)), (9, .int (nI sz)), (10, .int (nI m9)), (11, .int (nI beats)), (12, .int (nI ea)), (13, .int (nI tone)), (14, .int (nI tol)), (15, .int (nI fav)), (16, .int (nI qu)), (17, .int (nI ho)), (18, .int (nI be)), (19, .int (nI su)), (20, .int (nI ch)), (21, .int v21), (22, .int v22), (23, .int v23), (24, .int v24), (25, .int v25), (26, .int v26), (27, .int (nI bo))]) : W p l e room_1 s m args below meth c H locs cells slots Q (F0 m 276 ls [.int (nI sz)]) := by
  have C0 := C
  obtain ⟨hx, hb, hml, hown, hts, hK, hZ, hDD, hA, hst, hL⟩ := C
  have hmc := hI.mc
  have hbud := hI.bud
  refine lv_istore (lv' := [(28, .int (nI sz)), (0, .ref (E.2.2 202)), (1, .ref (X 0 0)), (2, .ref os), (3, .int (nI made)), (4, .int (nI k9)), (5, .int (nI n9)), (6, .long bf), (8, .int (nI kd)), (9, .int (nI sz)), (10, .int (nI m9)), (11, .int (nI beats)), (12, .int (nI ea)), (13, .int (nI tone)), (14, .int (nI tol)), (15, .int (nI fav)), (16, .int (nI qu)), (17, .int (nI ho)), (18, .int (nI be)), (19, .int (nI su)), (20, .int (nI ch)), (21, .int v21), (22, .int v22), (23, .int v23), (24, .int v24), (25, .int v25), (26, .int v26), (27, .int (nI bo))]) hx hb dL_law_276 hl (by decide) rfl (fun ls hl => ?_)
  refine lv_iload hx hb dL_law_278 (lv_at hl 0 rfl) ?_
  refine lv_bipush (v := -70) hx hb dL_law_280 (by decide) ?_
  refine nv_icmp_le (X := ((sz : Nat) : Int)) (Y := (-70)) hx hb (nI_toInt (by omega)) (by decide) (tgt := 289) dL_law_282 (by decide) (fun c_1 => ?_) (fun c_1 => ?_)
  · exact absurd c_1 (by omega)
  · skip
    refine lv_iconst (v := nI 1) hx hb dL_law_285 (by decide) ?_
    refine lv_goto (tgt := 290) hx hb dL_law_286 (by decide) ?_
    refine lv_istore (lv' := [(29, .int (nI 1)), (28, .int (nI sz)), (0, .ref (E.2.2 202)), (1, .ref (X 0 0)), (2, .ref os), (3, .int (nI made)), (4, .int (nI k9)), (5, .int (nI n9)), (6, .long bf), (8, .int (nI kd)), (9, .int (nI sz)), (10, .int (nI m9)), (11, .int (nI beats)), (12, .int (nI ea)), (13, .int (nI tone)), (14, .int (nI tol)), (15, .int (nI fav)), (16, .int (nI qu)), (17, .int (nI ho)), (18, .int (nI be)), (19, .int (nI su)), (20, .int (nI ch)), (21, .int v21), (22, .int v22), (23, .int v23), (24, .int v24), (25, .int v25), (26, .int v26), (27, .int (nI bo))]) hx hb dL_law_290 hl (by decide) rfl (fun ls hl => ?_)
    refine lv_iload hx hb dL_law_292 (lv_at hl 0 rfl) ?_
    refine nv_if_eq (X := ((1 : Nat) : Int)) hx hb (nI_toInt (by omega)) (tgt := 337) dL_law_294 (by decide) (fun c_2 => ?_) (fun c_2 => ?_)
    · exact absurd c_2 (by omega)
    · skip
      refine lv_iload hx hb dL_law_297 (lv_at hl 9 rfl) ?_
      refine lv_iconst (v := nI 3) hx hb dL_law_299 (by decide) ?_
      refine nv_icmp_gt (X := ((kd : Nat) : Int)) (Y := ((3 : Nat) : Int)) hx hb (nI_toInt (by omega)) (nI_toInt (by omega)) (tgt := 337) dL_law_300 (by decide) (fun c_3 => ?_) (fun c_3 => ?_)
      · exact absurd c_3 (by omega)
      · skip
        refine lv_iload hx hb dL_law_303 (lv_at hl 1 rfl) ?_
        refine lv_iload hx hb dL_law_305 (lv_at hl 10 rfl) ?_
        refine nv_icmp_ne (X := ((sz : Nat) : Int)) (Y := ((sz : Nat) : Int)) hx hb (nI_toInt (by omega)) (nI_toInt (by omega)) (tgt := 341) dL_law_307 (by decide) (fun c_4 => ?_) (fun c_4 => ?_)
        · exact absurd c_4 (by omega)
        · skip
          refine lv_aload_n hx hb dL_law_310 rfl (lv_at hl 3 rfl) ?_
          refine lv_iload hx hb dL_law_311 (lv_at hl 1 rfl) ?_
          refine run_i (S := JT) (run_SX (As := [.ref (X 0 0), .int (nI sz)]) (rest := []) (bs := OB E X hs w g g2 hg nx ct j ++ [smC E os f]) (cb := OB E X hs w g g2 hg nx ct j) hx hb hml hown hts hK hZ hDD hA (c_L_spring l hst E _ X hs w g g2 B hI hg nx ct hnx hct j hj (nI sz)) l_L_213 rfl ⟨⟨rfl, rfl⟩, Nat.le_of_ble_eq_true rfl, Nat.le_of_ble_eq_true rfl⟩ [0, 1, 2, 3, 4, 5, 6, 7, 8, 9] rfl (by decide) hP hD hS hl.1 rfl (Nat.le_of_ble_eq_true rfl) dL_law_313 ⟨by show cells + 1 ≤ 800891; omega, by show slots + 6 ≤ 6687511; omega⟩) hA hP hD hS (isC := [0, 1, 2, 3, 4, 5, 6, 7, 8, 9]) rfl [10] [1, 2, 3, 4, 5, 6, 7, 8, 9, 10, 0] (br := [smC E os f]) (bs2 := fun u => OB E X hs w g g2 hg nx ct u ++ [smC E os f]) rfl (by decide) (fun _ => rfl) (by decide) (fun r j_5 H locs hw hP hD hS => ?_)
          obtain ⟨hw, hj_6⟩ := hw
          refine tp_i hw ?_
          refine tp_i (show wf g (g 4) (nI sz) = nI 0 from (wf_in (f := g 4) hmc (show sz < g 8 0 by omega)).trans (congrArg nI h4)) ?_
          refine nv_if_ne (X := ((0 : Nat) : Int)) hx hb (nI_toInt (by omega)) (tgt := 341) dL_law_316 (by decide) (fun c_7 => ?_) (fun c_7 => ?_)
          · exact absurd c_7 (by omega)
          · skip
            refine lv_aload_n hx hb dL_law_319 rfl (lv_at hl 3 rfl) ?_
            refine lv_iload hx hb dL_law_320 (lv_at hl 1 rfl) ?_
            refine run_i (S := JT) (run_SX (As := [.ref (X 0 0), .int (nI sz)]) (rest := []) (bs := OB E X hs w g g2 hg nx ct j_5 ++ [smC E os f]) (cb := OB E X hs w g g2 hg nx ct j_5) hx hb hml hown hts hK hZ hDD hA (c_L_purse l hst E _ X hs w g g2 B hI hg nx ct hnx hct j_5 hj_6 (nI sz)) l_L_207 rfl ⟨⟨rfl, rfl⟩, Nat.le_of_ble_eq_true rfl, Nat.le_of_ble_eq_true rfl⟩ [0, 1, 2, 3, 4, 5, 6, 7, 8, 9] rfl (by decide) hP hD hS hl.1 rfl (Nat.le_of_ble_eq_true rfl) dL_law_322 ⟨by show (cells + 1) + 1 ≤ 800891; omega, by show (slots + 6) + 6 ≤ 6687511; omega⟩) hA hP hD hS (isC := [0, 1, 2, 3, 4, 5, 6, 7, 8, 9]) rfl [10] [1, 2, 3, 4, 5, 6, 7, 8, 9, 10, 0] (br := [smC E os f]) (bs2 := fun u => OB E X hs w g g2 hg nx ct u ++ [smC E os f]) rfl (by decide) (fun _ => rfl) (by decide) (fun r j_8 H locs hw hP hD hS => ?_)
            obtain ⟨hw, hj_9⟩ := hw
            refine tp_i hw ?_
            refine tp_i (show wf g (g 5) (nI sz) = nI 0 from (wf_in (f := g 5) hmc (show sz < g 8 0 by omega)).trans (congrArg nI h5)) ?_
            refine nv_if_ne (X := ((0 : Nat) : Int)) hx hb (nI_toInt (by omega)) (tgt := 341) dL_law_325 (by decide) (fun c_10 => ?_) (fun c_10 => ?_)
            · exact absurd c_10 (by omega)
            · skip
              refine lv_aload_n hx hb dL_law_328 rfl (lv_at hl 3 rfl) ?_
              refine lv_iload hx hb dL_law_329 (lv_at hl 1 rfl) ?_
              refine run_i (S := JT) (run_SX (As := [.ref (X 0 0), .int (nI sz)]) (rest := []) (bs := OB E X hs w g g2 hg nx ct j_8 ++ [smC E os f]) (cb := OB E X hs w g g2 hg nx ct j_8) hx hb hml hown hts hK hZ hDD hA (c_L_dissents l hst E _ X hs w g g2 B hI hg nx ct hnx hct j_8 hj_9 (nI sz)) l_L_211 rfl ⟨⟨rfl, rfl⟩, Nat.le_of_ble_eq_true rfl, Nat.le_of_ble_eq_true rfl⟩ [0, 1, 2, 3, 4, 5, 6, 7, 8, 9] rfl (by decide) hP hD hS hl.1 rfl (Nat.le_of_ble_eq_true rfl) dL_law_331 ⟨by show ((cells + 1) + 1) + 1 ≤ 800891; omega, by show ((slots + 6) + 6) + 6 ≤ 6687511; omega⟩) hA hP hD hS (isC := [0, 1, 2, 3, 4, 5, 6, 7, 8, 9]) rfl [10] [1, 2, 3, 4, 5, 6, 7, 8, 9, 10, 0] (br := [smC E os f]) (bs2 := fun u => OB E X hs w g g2 hg nx ct u ++ [smC E os f]) rfl (by decide) (fun _ => rfl) (by decide) (fun r j_11 H locs hw hP hD hS => ?_)
              obtain ⟨hw, hj_12⟩ := hw
              refine tp_i hw ?_
              refine tp_i (show wf g (g 6) (nI sz) = nI 0 from (wf_in (f := g 6) hmc (show sz < g 8 0 by omega)).trans (congrArg nI h6)) ?_
              refine nv_if_ne (X := ((0 : Nat) : Int)) hx hb (nI_toInt (by omega)) (tgt := 341) dL_law_334 (by decide) (fun c_13 => ?_) (fun c_13 => ?_)
              · exact absurd c_13 (by omega)
              · skip
                refine lv_iconst (v := nI 1) hx hb dL_law_337 (by decide) ?_
                refine lv_goto (tgt := 342) hx hb dL_law_338 (by decide) ?_
                refine lv_istore (lv' := [(30, .int (nI 1)), (29, .int (nI 1)), (28, .int (nI sz)), (0, .ref (E.2.2 202)), (1, .ref (X 0 0)), (2, .ref os), (3, .int (nI made)), (4, .int (nI k9)), (5, .int (nI n9)), (6, .long bf), (8, .int (nI kd)), (9, .int (nI sz)), (10, .int (nI m9)), (11, .int (nI beats)), (12, .int (nI ea)), (13, .int (nI tone)), (14, .int (nI tol)), (15, .int (nI fav)), (16, .int (nI qu)), (17, .int (nI ho)), (18, .int (nI be)), (19, .int (nI su)), (20, .int (nI ch)), (21, .int v21), (22, .int v22), (23, .int v23), (24, .int v24), (25, .int v25), (26, .int v26), (27, .int (nI bo))]) hx hb dL_law_342 hl (by decide) rfl (fun ls hl => ?_)
                refine lv_iload hx hb dL_law_344 (lv_at hl 0 rfl) ?_
                refine lv_iload hx hb dL_law_346 (lv_at hl 1 rfl) ?_
                refine nv_if_eq (X := ((1 : Nat) : Int)) hx hb (nI_toInt (by omega)) (tgt := 405) dL_law_348 (by decide) (fun c_14 => ?_) (fun c_14 => ?_)
                · exact absurd c_14 (by omega)
                · skip
                  refine lv_iload hx hb dL_law_351 (lv_at hl 10 rfl) ?_
                  refine lv_bipush (v := nI 16) hx hb dL_law_353 (by decide) ?_
                  refine nv_icmp_lt (X := ((kd : Nat) : Int)) (Y := ((16 : Nat) : Int)) hx hb (nI_toInt (by omega)) (nI_toInt (by omega)) (tgt := 405) dL_law_355 (by decide) (fun c_15 => ?_) (fun c_15 => ?_)
                  · skip
                    refine lv_iconst (v := nI 1) hx hb dL_law_405 (by decide) ?_
                    refine lv_goto (tgt := 410) hx hb dL_law_406 (by decide) ?_
                    refine lv_iand hx hb dL_law_410 ?_
                    refine tp_i (show nI 1 &&& nI 1 = nI 1 from by decide) ?_
                    refine lv_istore (lv' := [(30, .int (nI 1)), (29, .int (nI 1)), (28, .int (nI sz)), (0, .ref (E.2.2 202)), (1, .ref (X 0 0)), (2, .ref os), (3, .int (nI made)), (4, .int (nI k9)), (5, .int (nI n9)), (6, .long bf), (8, .int (nI kd)), (9, .int (nI sz)), (10, .int (nI m9)), (11, .int (nI beats)), (12, .int (nI ea)), (13, .int (nI tone)), (14, .int (nI tol)), (15, .int (nI fav)), (16, .int (nI qu)), (17, .int (nI ho)), (18, .int (nI be)), (19, .int (nI su)), (20, .int (nI ch)), (21, .int v21), (22, .int v22), (23, .int v23), (24, .int v24), (25, .int v25), (26, .int v26), (27, .int (nI bo))]) hx hb dL_law_411 hl (by decide) rfl (fun ls hl => ?_)
                    refine lv_iload hx hb dL_law_413 (lv_at hl 1 rfl) ?_
                    refine nv_if_eq (X := ((1 : Nat) : Int)) hx hb (nI_toInt (by omega)) (tgt := 436) dL_law_415 (by decide) (fun c_16 => ?_) (fun c_16 => ?_)
                    · exact absurd c_16 (by omega)
                    · skip
                      refine lv_iload hx hb dL_law_418 (lv_at hl 10 rfl) ?_
                      refine lv_bipush (v := nI 18) hx hb dL_law_420 (by decide) ?_
                      refine nv_icmp_le (X := ((kd : Nat) : Int)) (Y := ((18 : Nat) : Int)) hx hb (nI_toInt (by omega)) (nI_toInt (by omega)) (tgt := 436) dL_law_422 (by decide) (fun c_17 => ?_) (fun c_17 => ?_)
                      · skip
                        refine lv_iconst (v := nI 0) hx hb dL_law_436 (by decide) ?_
                        refine lv_istore (lv' := [(31, .int (nI 0)), (30, .int (nI 1)), (29, .int (nI 1)), (28, .int (nI sz)), (0, .ref (E.2.2 202)), (1, .ref (X 0 0)), (2, .ref os), (3, .int (nI made)), (4, .int (nI k9)), (5, .int (nI n9)), (6, .long bf), (8, .int (nI kd)), (9, .int (nI sz)), (10, .int (nI m9)), (11, .int (nI beats)), (12, .int (nI ea)), (13, .int (nI tone)), (14, .int (nI tol)), (15, .int (nI fav)), (16, .int (nI qu)), (17, .int (nI ho)), (18, .int (nI be)), (19, .int (nI su)), (20, .int (nI ch)), (21, .int v21), (22, .int v22), (23, .int v23), (24, .int v24), (25, .int v25), (26, .int v26), (27, .int (nI bo))]) hx hb dL_law_437 hl (by decide) rfl (fun ls hl => ?_)
                        refine lv_iload hx hb dL_law_439 (lv_at hl 1 rfl) ?_
                        refine lv_iload hx hb dL_law_441 (lv_at hl 0 rfl) ?_
                        refine nv_if_eq (X := ((0 : Nat) : Int)) hx hb (nI_toInt (by omega)) (tgt := 540) dL_law_443 (by decide) (fun c_18 => ?_) (fun c_18 => ?_)
                        · skip
                          refine lv_iconst (v := nI 1) hx hb dL_law_540 (by decide) ?_
                          refine lv_goto (tgt := 545) hx hb dL_law_541 (by decide) ?_
                          refine lv_iand hx hb dL_law_545 ?_
                          refine tp_i (show nI 1 &&& nI 1 = nI 1 from by decide) ?_
                          refine lv_istore (lv' := [(30, .int (nI 1)), (31, .int (nI 0)), (29, .int (nI 1)), (28, .int (nI sz)), (0, .ref (E.2.2 202)), (1, .ref (X 0 0)), (2, .ref os), (3, .int (nI made)), (4, .int (nI k9)), (5, .int (nI n9)), (6, .long bf), (8, .int (nI kd)), (9, .int (nI sz)), (10, .int (nI m9)), (11, .int (nI beats)), (12, .int (nI ea)), (13, .int (nI tone)), (14, .int (nI tol)), (15, .int (nI fav)), (16, .int (nI qu)), (17, .int (nI ho)), (18, .int (nI be)), (19, .int (nI su)), (20, .int (nI ch)), (21, .int v21), (22, .int v22), (23, .int v23), (24, .int v24), (25, .int v25), (26, .int v26), (27, .int (nI bo))]) hx hb dL_law_546 hl (by decide) rfl (fun ls hl => ?_)
                          refine lv_iload hx hb dL_law_548 (lv_at hl 0 rfl) ?_
                          refine lv_iload hx hb dL_law_550 (lv_at hl 2 rfl) ?_
                          refine nv_if_eq (X := ((1 : Nat) : Int)) hx hb (nI_toInt (by omega)) (tgt := 604) dL_law_552 (by decide) (fun c_19 => ?_) (fun c_19 => ?_)
                          · exact absurd c_19 (by omega)
                          · skip
                            refine lv_iload hx hb dL_law_555 (lv_at hl 11 rfl) ?_
                            refine lv_bipush (v := nI 28) hx hb dL_law_557 (by decide) ?_
                            refine nv_icmp_lt (X := ((kd : Nat) : Int)) (Y := ((28 : Nat) : Int)) hx hb (nI_toInt (by omega)) (nI_toInt (by omega)) (tgt := 604) dL_law_559 (by decide) (fun c_20 => ?_) (fun c_20 => ?_)
                            · skip
                              refine lv_iconst (v := nI 1) hx hb dL_law_604 (by decide) ?_
                              refine lv_goto (tgt := 609) hx hb dL_law_605 (by decide) ?_
                              refine lv_iand hx hb dL_law_609 ?_
                              refine tp_i (show nI 1 &&& nI 1 = nI 1 from by decide) ?_
                              refine lv_istore (lv' := [(30, .int (nI 1)), (31, .int (nI 0)), (29, .int (nI 1)), (28, .int (nI sz)), (0, .ref (E.2.2 202)), (1, .ref (X 0 0)), (2, .ref os), (3, .int (nI made)), (4, .int (nI k9)), (5, .int (nI n9)), (6, .long bf), (8, .int (nI kd)), (9, .int (nI sz)), (10, .int (nI m9)), (11, .int (nI beats)), (12, .int (nI ea)), (13, .int (nI tone)), (14, .int (nI tol)), (15, .int (nI fav)), (16, .int (nI qu)), (17, .int (nI ho)), (18, .int (nI be)), (19, .int (nI su)), (20, .int (nI ch)), (21, .int v21), (22, .int v22), (23, .int v23), (24, .int v24), (25, .int v25), (26, .int v26), (27, .int (nI bo))]) hx hb dL_law_610 hl (by decide) rfl (fun ls hl => ?_)
                              refine lv_iload hx hb dL_law_612 (lv_at hl 0 rfl) ?_
                              refine lv_iload hx hb dL_law_614 (lv_at hl 11 rfl) ?_
                              refine lv_bipush (v := nI 31) hx hb dL_law_616 (by decide) ?_
                              refine nv_icmp_lt (X := ((kd : Nat) : Int)) (Y := ((31 : Nat) : Int)) hx hb (nI_toInt (by omega)) (nI_toInt (by omega)) (tgt := 697) dL_law_618 (by decide) (fun c_21 => ?_) (fun c_21 => ?_)
                              · skip
                                refine lv_iconst (v := nI 1) hx hb dL_law_697 (by decide) ?_
                                refine lv_goto (tgt := 702) hx hb dL_law_698 (by decide) ?_
                                refine lv_iand hx hb dL_law_702 ?_
                                refine tp_i (show nI 1 &&& nI 1 = nI 1 from by decide) ?_
                                refine lv_istore (lv' := [(30, .int (nI 1)), (31, .int (nI 0)), (29, .int (nI 1)), (28, .int (nI sz)), (0, .ref (E.2.2 202)), (1, .ref (X 0 0)), (2, .ref os), (3, .int (nI made)), (4, .int (nI k9)), (5, .int (nI n9)), (6, .long bf), (8, .int (nI kd)), (9, .int (nI sz)), (10, .int (nI m9)), (11, .int (nI beats)), (12, .int (nI ea)), (13, .int (nI tone)), (14, .int (nI tol)), (15, .int (nI fav)), (16, .int (nI qu)), (17, .int (nI ho)), (18, .int (nI be)), (19, .int (nI su)), (20, .int (nI ch)), (21, .int v21), (22, .int v22), (23, .int v23), (24, .int v24), (25, .int v25), (26, .int v26), (27, .int (nI bo))]) hx hb dL_law_703 hl (by decide) rfl (fun ls hl => ?_)
                                refine lv_iload hx hb dL_law_705 (lv_at hl 0 rfl) ?_
                                refine lv_iload hx hb dL_law_707 (lv_at hl 1 rfl) ?_
                                refine nv_if_ne (X := ((0 : Nat) : Int)) hx hb (nI_toInt (by omega)) (tgt := 737) dL_law_709 (by decide) (fun c_22 => ?_) (fun c_22 => ?_)
                                · exact absurd c_22 (by omega)
                                · skip
                                  refine lv_iload hx hb dL_law_712 (lv_at hl 11 rfl) ?_
                                  refine lv_bipush (v := nI 35) hx hb dL_law_714 (by decide) ?_
                                  refine nv_icmp_gt (X := ((kd : Nat) : Int)) (Y := ((35 : Nat) : Int)) hx hb (nI_toInt (by omega)) (nI_toInt (by omega)) (tgt := 737) dL_law_716 (by decide) (fun c_23 => ?_) (fun c_23 => ?_)
                                  · exact absurd c_23 (by omega)
                                  · skip
                                    refine lv_aload_n hx hb dL_law_719 rfl (lv_at hl 5 rfl) ?_
                                    refine run_i (S := Unit) (run_V (As := []) (rest := [.int (nI 1)]) (bs := OB E X hs w g g2 hg nx ct j_11 ++ [smC E os f]) (cb := [coC E (X 0) (X 1) (X 2) (X 3) (X 4) (X 5) (X 6) (X 7) (X 8) w, stC E (X 1) g]) hx hb hml hown hts hK hZ hA (c_X5_beat l E _ (X 0) (X 1) (X 2) (X 3) (X 4) (X 5) (X 6) (X 7) (X 8) w g B hI) l_L_194 rfl ⟨⟨rfl, rfl⟩, Nat.le_of_ble_eq_true rfl, Nat.le_of_ble_eq_true rfl⟩ 9 rfl [0, 1] rfl (by decide) rfl hP hD hS hl.1 rfl (Nat.le_of_ble_eq_true rfl) dL_law_720 ⟨by show (((cells + 1) + 1) + 1) + 0 ≤ 800891; omega, by show (((slots + 6) + 6) + 6) + 0 ≤ 6687511; omega⟩) hA hP hD hS (isC := [0, 1]) rfl [2, 3, 4, 5, 6, 7, 8, 9, 10] [9, 10, 0, 1, 2, 3, 4, 5, 6, 7, 8] (br := [stC E (X 2) g2, stC E (X 3) j_11.1, hhC E (X 4) hs hg nx ct, diC E (X 5) j_11.2.1 j_11.2.2.1, grC E (X 6) j_11.2.2.2.1 j_11.2.2.2.2.1, prC E (X 7) j_11.2.2.2.2.2.1 j_11.2.2.2.2.2.2.1, sbO E (X 8) j_11.2.2.2.2.2.2.2.1 j_11.2.2.2.2.2.2.2.2.1 j_11.2.2.2.2.2.2.2.2.2.1, baC E j_11.2.2.2.2.2.2.2.1 j_11.2.2.2.2.2.2.2.2.2.2.1 j_11.2.2.2.2.2.2.2.2.2.2.2, smC E os f]) (bs2 := fun _ => OB E X hs w g g2 hg nx ct j_11 ++ [smC E os f]) rfl (by decide) (fun _ => rfl) (by decide) (fun r u H locs hw hP hD hS => ?_)
                                    subst hw
                                    refine lv_iload hx hb dL_law_723 (lv_at hl 21 rfl) ?_
                                    refine nv_icmp_ne (X := ((g 8 1 : Nat) : Int)) (Y := ((be : Nat) : Int)) hx hb (nI_toInt (by omega)) (nI_toInt (by omega)) (tgt := 741) dL_law_725 (by decide) (fun c_24 => ?_) (fun c_24 => ?_)
                                    · exact absurd c_24 (by omega)
                                    · skip
                                      refine lv_aload_n hx hb dL_law_728 rfl (lv_at hl 5 rfl) ?_
                                      refine run_i (S := Unit) (run_V (As := []) (rest := [.int (nI 1)]) (bs := OB E X hs w g g2 hg nx ct j_11 ++ [smC E os f]) (cb := [coC E (X 0) (X 1) (X 2) (X 3) (X 4) (X 5) (X 6) (X 7) (X 8) w, stC E (X 1) g]) hx hb hml hown hts hK hZ hA (c_X5_chirps l E _ (X 0) (X 1) (X 2) (X 3) (X 4) (X 5) (X 6) (X 7) (X 8) w g B hI) l_L_200 rfl ⟨⟨rfl, rfl⟩, Nat.le_of_ble_eq_true rfl, Nat.le_of_ble_eq_true rfl⟩ 9 rfl [0, 1] rfl (by decide) rfl hP hD hS hl.1 rfl (Nat.le_of_ble_eq_true rfl) dL_law_729 ⟨by show (((cells + 1) + 1) + 1) + 0 ≤ 800891; omega, by show (((slots + 6) + 6) + 6) + 0 ≤ 6687511; omega⟩) hA hP hD hS (isC := [0, 1]) rfl [2, 3, 4, 5, 6, 7, 8, 9, 10] [9, 10, 0, 1, 2, 3, 4, 5, 6, 7, 8] (br := [stC E (X 2) g2, stC E (X 3) j_11.1, hhC E (X 4) hs hg nx ct, diC E (X 5) j_11.2.1 j_11.2.2.1, grC E (X 6) j_11.2.2.2.1 j_11.2.2.2.2.1, prC E (X 7) j_11.2.2.2.2.2.1 j_11.2.2.2.2.2.2.1, sbO E (X 8) j_11.2.2.2.2.2.2.2.1 j_11.2.2.2.2.2.2.2.2.1 j_11.2.2.2.2.2.2.2.2.2.1, baC E j_11.2.2.2.2.2.2.2.1 j_11.2.2.2.2.2.2.2.2.2.2.1 j_11.2.2.2.2.2.2.2.2.2.2.2, smC E os f]) (bs2 := fun _ => OB E X hs w g g2 hg nx ct j_11 ++ [smC E os f]) rfl (by decide) (fun _ => rfl) (by decide) (fun r u H locs hw hP hD hS => ?_)
                                      subst hw
                                      refine lv_iload hx hb dL_law_732 (lv_at hl 23 rfl) ?_
                                      refine nv_icmp_ne (X := ((g 8 6 : Nat) : Int)) (Y := ((ch : Nat) : Int)) hx hb (nI_toInt (by omega)) (nI_toInt (by omega)) (tgt := 741) dL_law_734 (by decide) (fun c_25 => ?_) (fun c_25 => ?_)
                                      · exact absurd c_25 (by omega)
                                      · skip
                                        refine lv_iconst (v := nI 1) hx hb dL_law_737 (by decide) ?_
                                        refine lv_goto (tgt := 742) hx hb dL_law_738 (by decide) ?_
                                        refine lv_iand hx hb dL_law_742 ?_
                                        refine tp_i (show nI 1 &&& nI 1 = nI 1 from by decide) ?_
                                        refine lv_istore (lv' := [(30, .int (nI 1)), (31, .int (nI 0)), (29, .int (nI 1)), (28, .int (nI sz)), (0, .ref (E.2.2 202)), (1, .ref (X 0 0)), (2, .ref os), (3, .int (nI made)), (4, .int (nI k9)), (5, .int (nI n9)), (6, .long bf), (8, .int (nI kd)), (9, .int (nI sz)), (10, .int (nI m9)), (11, .int (nI beats)), (12, .int (nI ea)), (13, .int (nI tone)), (14, .int (nI tol)), (15, .int (nI fav)), (16, .int (nI qu)), (17, .int (nI ho)), (18, .int (nI be)), (19, .int (nI su)), (20, .int (nI ch)), (21, .int v21), (22, .int v22), (23, .int v23), (24, .int v24), (25, .int v25), (26, .int v26), (27, .int (nI bo))]) hx hb dL_law_743 hl (by decide) rfl (fun ls hl => ?_)
                                        exact W_widen (by omega) (by omega) (kk j_11 _ _ _ hj_12 hP hD hS (lv_sub hl [4, 5, 6, 7, 8, 9, 10, 2, 0] rfl))
                              · exact absurd c_21 (by omega)
                            · exact absurd c_20 (by omega)
                        · exact absurd c_18 (by omega)
                      · exact absurd c_17 (by omega)
                  · exact absurd c_15 (by omega)
set_option maxHeartbeats 8000000 in
set_option maxRecDepth 100000 in
theorem chk_K1 {p : Program} {l : Launch} {e : Env} {s : State} {m : MethodId} {args : Array Value} {below : List Frame} {meth : Method} {c : Code} {E : EE} {A : Nat → Prop} {Q : State → Prop} (X hs : Nat → Nat → Nat) (os : Nat) (f : Nat → Int64) (w : Nat → Nat) (g g2 : GG) (B : Nat) (hI : IB B g) (hg : Nat → GG) (nx ct : Nat) (hnx : nx < 8) (hct : ct ≤ 8) (j : JT) (hj : JV j) (bf : Int64) (kd sz m9 beats ea tone tol fav qu ho be su ch bo made k9 n9 : Nat) (v21 v22 v23 v24 v25 v26 : Int32) (rr : Nat) (hrr : rr < 2147483648) (hsz : sz ≤ 8) (hm9 : m9 ≤ 8) (hbe : g 8 1 = be) (hch : g 8 6 = ch) (hk : 4 ≤ kd) (hk2 : kd < 16) (C : LCL p l s m args c E A) {cells slots : Nat} (hcs : cells + 100 ≤ 800000 ∧ slots + 600 ≤ 6680000) (kk : ∀ (j9 : JT) (H : Heap) (locs : List Loc) (ls : Array Slot), JV j9 → va_P E.1 vwCl (OB E X hs w g g2 hg nx ct j9 ++ [smC E os f] : List va_W).flatten H → va_D A (OB E X hs w g g2 hg nx ct j9 ++ [smC E os f] : List va_W).flatten → va_S A s.heap H locs → lv_has ls 32 [(0, .ref (E.2.2 202)), (1, .ref (X 0 0)), (2, .ref os), (3, .int (nI made)), (4, .int (nI k9)), (5, .int (nI n9)), (6, .long bf), (29, .int (nI 1)), (30, .int (nI 1))] → W p l e room_1 s m args below meth c H locs (cells + 40) (slots + 240) Q (F0 m 745 ls [])) {H : Heap} {locs : List Loc} {ls : Array Slot} (hP : va_P E.1 vwCl (OB E X hs w g g2 hg nx ct j ++ [smC E os f] : List va_W).flatten H) (hD : va_D A (OB E X hs w g g2 hg nx ct j ++ [smC E os f] : List va_W).flatten) (hS : va_S A s.heap H locs) (hl : lv_has ls 32 [(0, .ref (E.2.2 202)), (1, .ref (X 0 0)), (2, .ref os), (3, .int (nI made)), (4, .int (nI k9)), (5, .int (nI n9)), (6, .long bf), (8, .int (nI kd)), (9, .int (nI sz)), (10, .int (nI m9)), (11, .int (nI beats)), (12, .int (nI ea)), (13, .int (nI tone)), (14, .int (nI tol)), (15, .int (nI fav)), (16, .int (nI qu)), (17, .int (nI ho)), (18, .int (nI be)), (19, .int (nI su)), (20, .int (nI ch)), (21, .int v21), (22, .int v22), (23, .int v23), (24, .int v24), (25, .int v25), (26, .int v26), (27, .int (nI bo))]) : W p l e room_1 s m args below meth c H locs cells slots Q (F0 m 276 ls [.int (nI rr)]) := by
  have C0 := C
  obtain ⟨hx, hb, hml, hown, hts, hK, hZ, hDD, hA, hst, hL⟩ := C
  have hmc := hI.mc
  have hbud := hI.bud
  refine lv_istore (lv' := [(28, .int (nI rr)), (0, .ref (E.2.2 202)), (1, .ref (X 0 0)), (2, .ref os), (3, .int (nI made)), (4, .int (nI k9)), (5, .int (nI n9)), (6, .long bf), (8, .int (nI kd)), (9, .int (nI sz)), (10, .int (nI m9)), (11, .int (nI beats)), (12, .int (nI ea)), (13, .int (nI tone)), (14, .int (nI tol)), (15, .int (nI fav)), (16, .int (nI qu)), (17, .int (nI ho)), (18, .int (nI be)), (19, .int (nI su)), (20, .int (nI ch)), (21, .int v21), (22, .int v22), (23, .int v23), (24, .int v24), (25, .int v25), (26, .int v26), (27, .int (nI bo))]) hx hb dL_law_276 hl (by decide) rfl (fun ls hl => ?_)
  refine lv_iload hx hb dL_law_278 (lv_at hl 0 rfl) ?_
  refine lv_bipush (v := -70) hx hb dL_law_280 (by decide) ?_
  refine nv_icmp_le (X := ((rr : Nat) : Int)) (Y := (-70)) hx hb (nI_toInt (by omega)) (by decide) (tgt := 289) dL_law_282 (by decide) (fun c_1 => ?_) (fun c_1 => ?_)
  · exact absurd c_1 (by omega)
  · skip
    refine lv_iconst (v := nI 1) hx hb dL_law_285 (by decide) ?_
    refine lv_goto (tgt := 290) hx hb dL_law_286 (by decide) ?_
    refine lv_istore (lv' := [(29, .int (nI 1)), (28, .int (nI rr)), (0, .ref (E.2.2 202)), (1, .ref (X 0 0)), (2, .ref os), (3, .int (nI made)), (4, .int (nI k9)), (5, .int (nI n9)), (6, .long bf), (8, .int (nI kd)), (9, .int (nI sz)), (10, .int (nI m9)), (11, .int (nI beats)), (12, .int (nI ea)), (13, .int (nI tone)), (14, .int (nI tol)), (15, .int (nI fav)), (16, .int (nI qu)), (17, .int (nI ho)), (18, .int (nI be)), (19, .int (nI su)), (20, .int (nI ch)), (21, .int v21), (22, .int v22), (23, .int v23), (24, .int v24), (25, .int v25), (26, .int v26), (27, .int (nI bo))]) hx hb dL_law_290 hl (by decide) rfl (fun ls hl => ?_)
    refine lv_iload hx hb dL_law_292 (lv_at hl 0 rfl) ?_
    refine nv_if_eq (X := ((1 : Nat) : Int)) hx hb (nI_toInt (by omega)) (tgt := 337) dL_law_294 (by decide) (fun c_2 => ?_) (fun c_2 => ?_)
    · exact absurd c_2 (by omega)
    · skip
      refine lv_iload hx hb dL_law_297 (lv_at hl 9 rfl) ?_
      refine lv_iconst (v := nI 3) hx hb dL_law_299 (by decide) ?_
      refine nv_icmp_gt (X := ((kd : Nat) : Int)) (Y := ((3 : Nat) : Int)) hx hb (nI_toInt (by omega)) (nI_toInt (by omega)) (tgt := 337) dL_law_300 (by decide) (fun c_3 => ?_) (fun c_3 => ?_)
      · skip
        refine lv_iconst (v := nI 1) hx hb dL_law_337 (by decide) ?_
        refine lv_goto (tgt := 342) hx hb dL_law_338 (by decide) ?_
        refine lv_istore (lv' := [(30, .int (nI 1)), (29, .int (nI 1)), (28, .int (nI rr)), (0, .ref (E.2.2 202)), (1, .ref (X 0 0)), (2, .ref os), (3, .int (nI made)), (4, .int (nI k9)), (5, .int (nI n9)), (6, .long bf), (8, .int (nI kd)), (9, .int (nI sz)), (10, .int (nI m9)), (11, .int (nI beats)), (12, .int (nI ea)), (13, .int (nI tone)), (14, .int (nI tol)), (15, .int (nI fav)), (16, .int (nI qu)), (17, .int (nI ho)), (18, .int (nI be)), (19, .int (nI su)), (20, .int (nI ch)), (21, .int v21), (22, .int v22), (23, .int v23), (24, .int v24), (25, .int v25), (26, .int v26), (27, .int (nI bo))]) hx hb dL_law_342 hl (by decide) rfl (fun ls hl => ?_)
        refine lv_iload hx hb dL_law_344 (lv_at hl 0 rfl) ?_
        refine lv_iload hx hb dL_law_346 (lv_at hl 1 rfl) ?_
        refine nv_if_eq (X := ((1 : Nat) : Int)) hx hb (nI_toInt (by omega)) (tgt := 405) dL_law_348 (by decide) (fun c_4 => ?_) (fun c_4 => ?_)
        · exact absurd c_4 (by omega)
        · skip
          refine lv_iload hx hb dL_law_351 (lv_at hl 10 rfl) ?_
          refine lv_bipush (v := nI 16) hx hb dL_law_353 (by decide) ?_
          refine nv_icmp_lt (X := ((kd : Nat) : Int)) (Y := ((16 : Nat) : Int)) hx hb (nI_toInt (by omega)) (nI_toInt (by omega)) (tgt := 405) dL_law_355 (by decide) (fun c_5 => ?_) (fun c_5 => ?_)
          · skip
            refine lv_iconst (v := nI 1) hx hb dL_law_405 (by decide) ?_
            refine lv_goto (tgt := 410) hx hb dL_law_406 (by decide) ?_
            refine lv_iand hx hb dL_law_410 ?_
            refine tp_i (show nI 1 &&& nI 1 = nI 1 from by decide) ?_
            refine lv_istore (lv' := [(30, .int (nI 1)), (29, .int (nI 1)), (28, .int (nI rr)), (0, .ref (E.2.2 202)), (1, .ref (X 0 0)), (2, .ref os), (3, .int (nI made)), (4, .int (nI k9)), (5, .int (nI n9)), (6, .long bf), (8, .int (nI kd)), (9, .int (nI sz)), (10, .int (nI m9)), (11, .int (nI beats)), (12, .int (nI ea)), (13, .int (nI tone)), (14, .int (nI tol)), (15, .int (nI fav)), (16, .int (nI qu)), (17, .int (nI ho)), (18, .int (nI be)), (19, .int (nI su)), (20, .int (nI ch)), (21, .int v21), (22, .int v22), (23, .int v23), (24, .int v24), (25, .int v25), (26, .int v26), (27, .int (nI bo))]) hx hb dL_law_411 hl (by decide) rfl (fun ls hl => ?_)
            refine lv_iload hx hb dL_law_413 (lv_at hl 1 rfl) ?_
            refine nv_if_eq (X := ((1 : Nat) : Int)) hx hb (nI_toInt (by omega)) (tgt := 436) dL_law_415 (by decide) (fun c_6 => ?_) (fun c_6 => ?_)
            · exact absurd c_6 (by omega)
            · skip
              refine lv_iload hx hb dL_law_418 (lv_at hl 10 rfl) ?_
              refine lv_bipush (v := nI 18) hx hb dL_law_420 (by decide) ?_
              refine nv_icmp_le (X := ((kd : Nat) : Int)) (Y := ((18 : Nat) : Int)) hx hb (nI_toInt (by omega)) (nI_toInt (by omega)) (tgt := 436) dL_law_422 (by decide) (fun c_7 => ?_) (fun c_7 => ?_)
              · skip
                refine lv_iconst (v := nI 0) hx hb dL_law_436 (by decide) ?_
                refine lv_istore (lv' := [(31, .int (nI 0)), (30, .int (nI 1)), (29, .int (nI 1)), (28, .int (nI rr)), (0, .ref (E.2.2 202)), (1, .ref (X 0 0)), (2, .ref os), (3, .int (nI made)), (4, .int (nI k9)), (5, .int (nI n9)), (6, .long bf), (8, .int (nI kd)), (9, .int (nI sz)), (10, .int (nI m9)), (11, .int (nI beats)), (12, .int (nI ea)), (13, .int (nI tone)), (14, .int (nI tol)), (15, .int (nI fav)), (16, .int (nI qu)), (17, .int (nI ho)), (18, .int (nI be)), (19, .int (nI su)), (20, .int (nI ch)), (21, .int v21), (22, .int v22), (23, .int v23), (24, .int v24), (25, .int v25), (26, .int v26), (27, .int (nI bo))]) hx hb dL_law_437 hl (by decide) rfl (fun ls hl => ?_)
                refine lv_iload hx hb dL_law_439 (lv_at hl 1 rfl) ?_
                refine lv_iload hx hb dL_law_441 (lv_at hl 0 rfl) ?_
                refine nv_if_eq (X := ((0 : Nat) : Int)) hx hb (nI_toInt (by omega)) (tgt := 540) dL_law_443 (by decide) (fun c_8 => ?_) (fun c_8 => ?_)
                · skip
                  refine lv_iconst (v := nI 1) hx hb dL_law_540 (by decide) ?_
                  refine lv_goto (tgt := 545) hx hb dL_law_541 (by decide) ?_
                  refine lv_iand hx hb dL_law_545 ?_
                  refine tp_i (show nI 1 &&& nI 1 = nI 1 from by decide) ?_
                  refine lv_istore (lv' := [(30, .int (nI 1)), (31, .int (nI 0)), (29, .int (nI 1)), (28, .int (nI rr)), (0, .ref (E.2.2 202)), (1, .ref (X 0 0)), (2, .ref os), (3, .int (nI made)), (4, .int (nI k9)), (5, .int (nI n9)), (6, .long bf), (8, .int (nI kd)), (9, .int (nI sz)), (10, .int (nI m9)), (11, .int (nI beats)), (12, .int (nI ea)), (13, .int (nI tone)), (14, .int (nI tol)), (15, .int (nI fav)), (16, .int (nI qu)), (17, .int (nI ho)), (18, .int (nI be)), (19, .int (nI su)), (20, .int (nI ch)), (21, .int v21), (22, .int v22), (23, .int v23), (24, .int v24), (25, .int v25), (26, .int v26), (27, .int (nI bo))]) hx hb dL_law_546 hl (by decide) rfl (fun ls hl => ?_)
                  refine lv_iload hx hb dL_law_548 (lv_at hl 0 rfl) ?_
                  refine lv_iload hx hb dL_law_550 (lv_at hl 2 rfl) ?_
                  refine nv_if_eq (X := ((1 : Nat) : Int)) hx hb (nI_toInt (by omega)) (tgt := 604) dL_law_552 (by decide) (fun c_9 => ?_) (fun c_9 => ?_)
                  · exact absurd c_9 (by omega)
                  · skip
                    refine lv_iload hx hb dL_law_555 (lv_at hl 11 rfl) ?_
                    refine lv_bipush (v := nI 28) hx hb dL_law_557 (by decide) ?_
                    refine nv_icmp_lt (X := ((kd : Nat) : Int)) (Y := ((28 : Nat) : Int)) hx hb (nI_toInt (by omega)) (nI_toInt (by omega)) (tgt := 604) dL_law_559 (by decide) (fun c_10 => ?_) (fun c_10 => ?_)
                    · skip
                      refine lv_iconst (v := nI 1) hx hb dL_law_604 (by decide) ?_
                      refine lv_goto (tgt := 609) hx hb dL_law_605 (by decide) ?_
                      refine lv_iand hx hb dL_law_609 ?_
                      refine tp_i (show nI 1 &&& nI 1 = nI 1 from by decide) ?_
                      refine lv_istore (lv' := [(30, .int (nI 1)), (31, .int (nI 0)), (29, .int (nI 1)), (28, .int (nI rr)), (0, .ref (E.2.2 202)), (1, .ref (X 0 0)), (2, .ref os), (3, .int (nI made)), (4, .int (nI k9)), (5, .int (nI n9)), (6, .long bf), (8, .int (nI kd)), (9, .int (nI sz)), (10, .int (nI m9)), (11, .int (nI beats)), (12, .int (nI ea)), (13, .int (nI tone)), (14, .int (nI tol)), (15, .int (nI fav)), (16, .int (nI qu)), (17, .int (nI ho)), (18, .int (nI be)), (19, .int (nI su)), (20, .int (nI ch)), (21, .int v21), (22, .int v22), (23, .int v23), (24, .int v24), (25, .int v25), (26, .int v26), (27, .int (nI bo))]) hx hb dL_law_610 hl (by decide) rfl (fun ls hl => ?_)
                      refine lv_iload hx hb dL_law_612 (lv_at hl 0 rfl) ?_
                      refine lv_iload hx hb dL_law_614 (lv_at hl 11 rfl) ?_
                      refine lv_bipush (v := nI 31) hx hb dL_law_616 (by decide) ?_
                      refine nv_icmp_lt (X := ((kd : Nat) : Int)) (Y := ((31 : Nat) : Int)) hx hb (nI_toInt (by omega)) (nI_toInt (by omega)) (tgt := 697) dL_law_618 (by decide) (fun c_11 => ?_) (fun c_11 => ?_)
                      · skip
                        refine lv_iconst (v := nI 1) hx hb dL_law_697 (by decide) ?_
                        refine lv_goto (tgt := 702) hx hb dL_law_698 (by decide) ?_
                        refine lv_iand hx hb dL_law_702 ?_
                        refine tp_i (show nI 1 &&& nI 1 = nI 1 from by decide) ?_
                        refine lv_istore (lv' := [(30, .int (nI 1)), (31, .int (nI 0)), (29, .int (nI 1)), (28, .int (nI rr)), (0, .ref (E.2.2 202)), (1, .ref (X 0 0)), (2, .ref os), (3, .int (nI made)), (4, .int (nI k9)), (5, .int (nI n9)), (6, .long bf), (8, .int (nI kd)), (9, .int (nI sz)), (10, .int (nI m9)), (11, .int (nI beats)), (12, .int (nI ea)), (13, .int (nI tone)), (14, .int (nI tol)), (15, .int (nI fav)), (16, .int (nI qu)), (17, .int (nI ho)), (18, .int (nI be)), (19, .int (nI su)), (20, .int (nI ch)), (21, .int v21), (22, .int v22), (23, .int v23), (24, .int v24), (25, .int v25), (26, .int v26), (27, .int (nI bo))]) hx hb dL_law_703 hl (by decide) rfl (fun ls hl => ?_)
                        refine lv_iload hx hb dL_law_705 (lv_at hl 0 rfl) ?_
                        refine lv_iload hx hb dL_law_707 (lv_at hl 1 rfl) ?_
                        refine nv_if_ne (X := ((0 : Nat) : Int)) hx hb (nI_toInt (by omega)) (tgt := 737) dL_law_709 (by decide) (fun c_12 => ?_) (fun c_12 => ?_)
                        · exact absurd c_12 (by omega)
                        · skip
                          refine lv_iload hx hb dL_law_712 (lv_at hl 11 rfl) ?_
                          refine lv_bipush (v := nI 35) hx hb dL_law_714 (by decide) ?_
                          refine nv_icmp_gt (X := ((kd : Nat) : Int)) (Y := ((35 : Nat) : Int)) hx hb (nI_toInt (by omega)) (nI_toInt (by omega)) (tgt := 737) dL_law_716 (by decide) (fun c_13 => ?_) (fun c_13 => ?_)
                          · exact absurd c_13 (by omega)
                          · skip
                            refine lv_aload_n hx hb dL_law_719 rfl (lv_at hl 5 rfl) ?_
                            refine run_i (S := Unit) (run_V (As := []) (rest := [.int (nI 1)]) (bs := OB E X hs w g g2 hg nx ct j ++ [smC E os f]) (cb := [coC E (X 0) (X 1) (X 2) (X 3) (X 4) (X 5) (X 6) (X 7) (X 8) w, stC E (X 1) g]) hx hb hml hown hts hK hZ hA (c_X5_beat l E _ (X 0) (X 1) (X 2) (X 3) (X 4) (X 5) (X 6) (X 7) (X 8) w g B hI) l_L_194 rfl ⟨⟨rfl, rfl⟩, Nat.le_of_ble_eq_true rfl, Nat.le_of_ble_eq_true rfl⟩ 9 rfl [0, 1] rfl (by decide) rfl hP hD hS hl.1 rfl (Nat.le_of_ble_eq_true rfl) dL_law_720 ⟨by show cells + 0 ≤ 800891; omega, by show slots + 0 ≤ 6687511; omega⟩) hA hP hD hS (isC := [0, 1]) rfl [2, 3, 4, 5, 6, 7, 8, 9, 10] [9, 10, 0, 1, 2, 3, 4, 5, 6, 7, 8] (br := [stC E (X 2) g2, stC E (X 3) j.1, hhC E (X 4) hs hg nx ct, diC E (X 5) j.2.1 j.2.2.1, grC E (X 6) j.2.2.2.1 j.2.2.2.2.1, prC E (X 7) j.2.2.2.2.2.1 j.2.2.2.2.2.2.1, sbO E (X 8) j.2.2.2.2.2.2.2.1 j.2.2.2.2.2.2.2.2.1 j.2.2.2.2.2.2.2.2.2.1, baC E j.2.2.2.2.2.2.2.1 j.2.2.2.2.2.2.2.2.2.2.1 j.2.2.2.2.2.2.2.2.2.2.2, smC E os f]) (bs2 := fun _ => OB E X hs w g g2 hg nx ct j ++ [smC E os f]) rfl (by decide) (fun _ => rfl) (by decide) (fun r u H locs hw hP hD hS => ?_)
                            subst hw
                            refine lv_iload hx hb dL_law_723 (lv_at hl 21 rfl) ?_
                            refine nv_icmp_ne (X := ((g 8 1 : Nat) : Int)) (Y := ((be : Nat) : Int)) hx hb (nI_toInt (by omega)) (nI_toInt (by omega)) (tgt := 741) dL_law_725 (by decide) (fun c_14 => ?_) (fun c_14 => ?_)
                            · exact absurd c_14 (by omega)
                            · skip
                              refine lv_aload_n hx hb dL_law_728 rfl (lv_at hl 5 rfl) ?_
                              refine run_i (S := Unit) (run_V (As := []) (rest := [.int (nI 1)]) (bs := OB E X hs w g g2 hg nx ct j ++ [smC E os f]) (cb := [coC E (X 0) (X 1) (X 2) (X 3) (X 4) (X 5) (X 6) (X 7) (X 8) w, stC E (X 1) g]) hx hb hml hown hts hK hZ hA (c_X5_chirps l E _ (X 0) (X 1) (X 2) (X 3) (X 4) (X 5) (X 6) (X 7) (X 8) w g B hI) l_L_200 rfl ⟨⟨rfl, rfl⟩, Nat.le_of_ble_eq_true rfl, Nat.le_of_ble_eq_true rfl⟩ 9 rfl [0, 1] rfl (by decide) rfl hP hD hS hl.1 rfl (Nat.le_of_ble_eq_true rfl) dL_law_729 ⟨by show cells + 0 ≤ 800891; omega, by show slots + 0 ≤ 6687511; omega⟩) hA hP hD hS (isC := [0, 1]) rfl [2, 3, 4, 5, 6, 7, 8, 9, 10] [9, 10, 0, 1, 2, 3, 4, 5, 6, 7, 8] (br := [stC E (X 2) g2, stC E (X 3) j.1, hhC E (X 4) hs hg nx ct, diC E (X 5) j.2.1 j.2.2.1, grC E (X 6) j.2.2.2.1 j.2.2.2.2.1, prC E (X 7) j.2.2.2.2.2.1 j.2.2.2.2.2.2.1, sbO E (X 8) j.2.2.2.2.2.2.2.1 j.2.2.2.2.2.2.2.2.1 j.2.2.2.2.2.2.2.2.2.1, baC E j.2.2.2.2.2.2.2.1 j.2.2.2.2.2.2.2.2.2.2.1 j.2.2.2.2.2.2.2.2.2.2.2, smC E os f]) (bs2 := fun _ => OB E X hs w g g2 hg nx ct j ++ [smC E os f]) rfl (by decide) (fun _ => rfl) (by decide) (fun r u H locs hw hP hD hS => ?_)
                              subst hw
                              refine lv_iload hx hb dL_law_732 (lv_at hl 23 rfl) ?_
                              refine nv_icmp_ne (X := ((g 8 6 : Nat) : Int)) (Y := ((ch : Nat) : Int)) hx hb (nI_toInt (by omega)) (nI_toInt (by omega)) (tgt := 741) dL_law_734 (by decide) (fun c_15 => ?_) (fun c_15 => ?_)
                              · exact absurd c_15 (by omega)
                              · skip
                                refine lv_iconst (v := nI 1) hx hb dL_law_737 (by decide) ?_
                                refine lv_goto (tgt := 742) hx hb dL_law_738 (by decide) ?_
                                refine lv_iand hx hb dL_law_742 ?_
                                refine tp_i (show nI 1 &&& nI 1 = nI 1 from by decide) ?_
                                refine lv_istore (lv' := [(30, .int (nI 1)), (31, .int (nI 0)), (29, .int (nI 1)), (28, .int (nI rr)), (0, .ref (E.2.2 202)), (1, .ref (X 0 0)), (2, .ref os), (3, .int (nI made)), (4, .int (nI k9)), (5, .int (nI n9)), (6, .long bf), (8, .int (nI kd)), (9, .int (nI sz)), (10, .int (nI m9)), (11, .int (nI beats)), (12, .int (nI ea)), (13, .int (nI tone)), (14, .int (nI tol)), (15, .int (nI fav)), (16, .int (nI qu)), (17, .int (nI ho)), (18, .int (nI be)), (19, .int (nI su)), (20, .int (nI ch)), (21, .int v21), (22, .int v22), (23, .int v23), (24, .int v24), (25, .int v25), (26, .int v26), (27, .int (nI bo))]) hx hb dL_law_743 hl (by decide) rfl (fun ls hl => ?_)
                                exact W_widen (by omega) (by omega) (kk j _ _ _ hj hP hD hS (lv_sub hl [4, 5, 6, 7, 8, 9, 10, 2, 0] rfl))
                      · exact absurd c_11 (by omega)
                    · exact absurd c_10 (by omega)
                · exact absurd c_8 (by omega)
              · exact absurd c_7 (by omega)
          · exact absurd c_5 (by omega)
      · exact absurd c_3 (by omega)
set_option maxHeartbeats 8000000 in
set_option maxRecDepth 100000 in
theorem chk_K3 {p : Program} {l : Launch} {e : Env} {s : State} {m : MethodId} {args : Array Value} {below : List Frame} {meth : Method} {c : Code} {E : EE} {A : Nat → Prop} {Q : State → Prop} (X hs : Nat → Nat → Nat) (os : Nat) (f : Nat → Int64) (w : Nat → Nat) (g g2 : GG) (B : Nat) (hI : IB B g) (hg : Nat → GG) (nx ct : Nat) (hnx : nx < 8) (hct : ct ≤ 8) (j : JT) (hj : JV j) (bf : Int64) (kd sz m9 beats ea tone tol fav qu ho be su ch bo made k9 n9 : Nat) (v21 v22 v23 v24 v25 v26 : Int32) (x23 x24 : Nat) (hsz : sz ≤ 8) (hm9 : m9 ≤ 8) (hbe : g 8 1 = be) (hch : g 8 6 = ch) (hk : 16 ≤ kd) (hk2 : kd < 19) (hm : m9 < g 8 0) (hv23 : v23 = nI x23) (hv24 : v24 = nI x24) (hx24 : x24 ≤ 50) (hbo : bo ≤ 3) (hx23 : x23 ≤ 300000) (h5x : 5 * bo ≤ x23) (h5 : g 5 m9 = x23 - 5 * bo) (h2 : g 8 2 = su + 5 * bo) (C : LCL p l s m args c E A) {cells slots : Nat} (hcs : cells + 100 ≤ 800000 ∧ slots + 600 ≤ 6680000) (kk : ∀ (j9 : JT) (H : Heap) (locs : List Loc) (ls : Array Slot), JV j9 → va_P E.1 vwCl (OB E X hs w g g2 hg nx ct j9 ++ [smC E os f] : List va_W).flatten H → va_D A (OB E X hs w g g2 hg nx ct j9 ++ [smC E os f] : List va_W).flatten → va_S A s.heap H locs → lv_has ls 32 [(0, .ref (E.2.2 202)), (1, .ref (X 0 0)), (2, .ref os), (3, .int (nI made)), (4, .int (nI k9)), (5, .int (nI n9)), (6, .long bf), (29, .int (nI 1)), (30, .int (nI 1))] → W p l e room_1 s m args below meth c H locs (cells + 40) (slots + 240) Q (F0 m 745 ls [])) {H : Heap} {locs : List Loc} {ls : Array Slot} (hP : va_P E.1 vwCl (OB E X hs w g g2 hg nx ct j ++ [smC E os f] : List va_W).flatten H) (hD : va_D A (OB E X hs w g g2 hg nx ct j ++ [smC E os f] : List va_W).flatten) (hS : va_S A s.heap H locs) (hl : lv_has ls 32 [(0, .ref (E.2.2 202)), (1, .ref (X 0 0)), (2, .ref os), (3, .int (nI made)), (4, .int (nI k9)), (5, .int (nI n9)), (6, .long bf), (8, .int (nI kd)), (9, .int (nI sz)), (10, .int (nI m9)), (11, .int (nI beats)), (12, .int (nI ea)), (13, .int (nI tone)), (14, .int (nI tol)), (15, .int (nI fav)), (16, .int (nI qu)), (17, .int (nI ho)), (18, .int (nI be)), (19, .int (nI su)), (20, .int (nI ch)), (21, .int v21), (22, .int v22), (23, .int v23), (24, .int v24), (25, .int v25), (26, .int v26), (27, .int (nI bo))]) : W p l e room_1 s m args below meth c H locs cells slots Q (F0 m 276 ls [.int (nI (x24 + bo))]) := by
  have C0 := C
  obtain ⟨hx, hb, hml, hown, hts, hK, hZ, hDD, hA, hst, hL⟩ := C
  have hmc := hI.mc
  have hbud := hI.bud
  have hl : lv_has ls 32 [(0, .ref (E.2.2 202)), (1, .ref (X 0 0)), (2, .ref os), (3, .int (nI made)), (4, .int (nI k9)), (5, .int (nI n9)), (6, .long bf), (8, .int (nI kd)), (9, .int (nI sz)), (10, .int (nI m9)), (11, .int (nI beats)), (12, .int (nI ea)), (13, .int (nI tone)), (14, .int (nI tol)), (15, .int (nI fav)), (16, .int (nI qu)), (17, .int (nI ho)), (18, .int (nI be)), (19, .int (nI su)), (20, .int (nI ch)), (21, .int v21), (22, .int v22), (23, .int (nI x23)), (24, .int v24), (25, .int v25), (26, .int v26), (27, .int (nI bo))] := by rw [show nI x23 = v23 from hv23.symm]; exact hl
  have hl : lv_has ls 32 [(0, .ref (E.2.2 202)), (1, .ref (X 0 0)), (2, .ref os), (3, .int (nI made)), (4, .int (nI k9)), (5, .int (nI n9)), (6, .long bf), (8, .int (nI kd)), (9, .int (nI sz)), (10, .int (nI m9)), (11, .int (nI beats)), (12, .int (nI ea)), (13, .int (nI tone)), (14, .int (nI tol)), (15, .int (nI fav)), (16, .int (nI qu)), (17, .int (nI ho)), (18, .int (nI be)), (19, .int (nI su)), (20, .int (nI ch)), (21, .int v21), (22, .int v22), (23, .int (nI x23)), (24, .int (nI x24)), (25, .int v25), (26, .int v26), (27, .int (nI bo))] := by rw [show nI x24 = v24 from hv24.symm]; exact hl
  refine lv_istore (lv' := [(28, .int (nI (x24 + bo))), (0, .ref (E.2.2 202)), (1, .ref (X 0 0)), (2, .ref os), (3, .int (nI made)), (4, .int (nI k9)), (5, .int (nI n9)), (6, .long bf), (8, .int (nI kd)), (9, .int (nI sz)), (10, .int (nI m9)), (11, .int (nI beats)), (12, .int (nI ea)), (13, .int (nI tone)), (14, .int (nI tol)), (15, .int (nI fav)), (16, .int (nI qu)), (17, .int (nI ho)), (18, .int (nI be)), (19, .int (nI su)), (20, .int (nI ch)), (21, .int v21), (22, .int v22), (23, .int (nI x23)), (24, .int (nI x24)), (25, .int v25), (26, .int v26), (27, .int (nI bo))]) hx hb dL_law_276 hl (by decide) rfl (fun ls hl => ?_)
  refine lv_iload hx hb dL_law_278 (lv_at hl 0 rfl) ?_
  refine lv_bipush (v := -70) hx hb dL_law_280 (by decide) ?_
  refine nv_icmp_le (X := ((x24 + bo : Nat) : Int)) (Y := (-70)) hx hb (nI_toInt (by omega)) (by decide) (tgt := 289) dL_law_282 (by decide) (fun c_1 => ?_) (fun c_1 => ?_)
  · exact absurd c_1 (by omega)
  · skip
    refine lv_iconst (v := nI 1) hx hb dL_law_285 (by decide) ?_
    refine lv_goto (tgt := 290) hx hb dL_law_286 (by decide) ?_
    refine lv_istore (lv' := [(29, .int (nI 1)), (28, .int (nI (x24 + bo))), (0, .ref (E.2.2 202)), (1, .ref (X 0 0)), (2, .ref os), (3, .int (nI made)), (4, .int (nI k9)), (5, .int (nI n9)), (6, .long bf), (8, .int (nI kd)), (9, .int (nI sz)), (10, .int (nI m9)), (11, .int (nI beats)), (12, .int (nI ea)), (13, .int (nI tone)), (14, .int (nI tol)), (15, .int (nI fav)), (16, .int (nI qu)), (17, .int (nI ho)), (18, .int (nI be)), (19, .int (nI su)), (20, .int (nI ch)), (21, .int v21), (22, .int v22), (23, .int (nI x23)), (24, .int (nI x24)), (25, .int v25), (26, .int v26), (27, .int (nI bo))]) hx hb dL_law_290 hl (by decide) rfl (fun ls hl => ?_)
    refine lv_iload hx hb dL_law_292 (lv_at hl 0 rfl) ?_
    refine nv_if_eq (X := ((1 : Nat) : Int)) hx hb (nI_toInt (by omega)) (tgt := 337) dL_law_294 (by decide) (fun c_2 => ?_) (fun c_2 => ?_)
    · exact absurd c_2 (by omega)
    · skip
      refine lv_iload hx hb dL_law_297 (lv_at hl 9 rfl) ?_
      refine lv_iconst (v := nI 3) hx hb dL_law_299 (by decide) ?_
      refine nv_icmp_gt (X := ((kd : Nat) : Int)) (Y := ((3 : Nat) : Int)) hx hb (nI_toInt (by omega)) (nI_toInt (by omega)) (tgt := 337) dL_law_300 (by decide) (fun c_3 => ?_) (fun c_3 => ?_)
      · skip
        refine lv_iconst (v := nI 1) hx hb dL_law_337 (by decide) ?_
        refine lv_goto (tgt := 342) hx hb dL_law_338 (by decide) ?_
        refine lv_istore (lv' := [(30, .int (nI 1)), (29, .int (nI 1)), (28, .int (nI (x24 + bo))), (0, .ref (E.2.2 202)), (1, .ref (X 0 0)), (2, .ref os), (3, .int (nI made)), (4, .int (nI k9)), (5, .int (nI n9)), (6, .long bf), (8, .int (nI kd)), (9, .int (nI sz)), (10, .int (nI m9)), (11, .int (nI beats)), (12, .int (nI ea)), (13, .int (nI tone)), (14, .int (nI tol)), (15, .int (nI fav)), (16, .int (nI qu)), (17, .int (nI ho)), (18, .int (nI be)), (19, .int (nI su)), (20, .int (nI ch)), (21, .int v21), (22, .int v22), (23, .int (nI x23)), (24, .int (nI x24)), (25, .int v25), (26, .int v26), (27, .int (nI bo))]) hx hb dL_law_342 hl (by decide) rfl (fun ls hl => ?_)
        refine lv_iload hx hb dL_law_344 (lv_at hl 0 rfl) ?_
        refine lv_iload hx hb dL_law_346 (lv_at hl 1 rfl) ?_
        refine nv_if_eq (X := ((1 : Nat) : Int)) hx hb (nI_toInt (by omega)) (tgt := 405) dL_law_348 (by decide) (fun c_4 => ?_) (fun c_4 => ?_)
        · exact absurd c_4 (by omega)
        · skip
          refine lv_iload hx hb dL_law_351 (lv_at hl 10 rfl) ?_
          refine lv_bipush (v := nI 16) hx hb dL_law_353 (by decide) ?_
          refine nv_icmp_lt (X := ((kd : Nat) : Int)) (Y := ((16 : Nat) : Int)) hx hb (nI_toInt (by omega)) (nI_toInt (by omega)) (tgt := 405) dL_law_355 (by decide) (fun c_5 => ?_) (fun c_5 => ?_)
          · exact absurd c_5 (by omega)
          · skip
            refine lv_iload hx hb dL_law_358 (lv_at hl 10 rfl) ?_
            refine lv_bipush (v := nI 18) hx hb dL_law_360 (by decide) ?_
            refine nv_icmp_gt (X := ((kd : Nat) : Int)) (Y := ((18 : Nat) : Int)) hx hb (nI_toInt (by omega)) (nI_toInt (by omega)) (tgt := 405) dL_law_362 (by decide) (fun c_6 => ?_) (fun c_6 => ?_)
            · exact absurd c_6 (by omega)
            · skip
              refine lv_iload hx hb dL_law_365 (lv_at hl 2 rfl) ?_
              refine lv_iload hx hb dL_law_367 (lv_at hl 26 rfl) ?_
              refine lv_iload hx hb dL_law_369 (lv_at hl 29 rfl) ?_
              refine nv_iadd hx hb dL_law_371 ?_
              refine nv_icmp_ne (X := ((x24 + bo : Nat) : Int)) (Y := ((x24 + bo : Nat) : Int)) hx hb (nI_toInt (by omega)) (nI_toInt (by omega)) (tgt := 409) dL_law_372 (by decide) (fun c_7 => ?_) (fun c_7 => ?_)
              · exact absurd c_7 (by omega)
              · skip
                refine lv_aload_n hx hb dL_law_375 rfl (lv_at hl 4 rfl) ?_
                refine lv_iload hx hb dL_law_376 (lv_at hl 12 rfl) ?_
                refine run_i (S := JT) (run_SX (As := [.ref (X 0 0), .int (nI m9)]) (rest := [.int (nI 1)]) (bs := OB E X hs w g g2 hg nx ct j ++ [smC E os f]) (cb := OB E X hs w g g2 hg nx ct j) hx hb hml hown hts hK hZ hDD hA (c_L_purse l hst E _ X hs w g g2 B hI hg nx ct hnx hct j hj (nI m9)) l_L_207 rfl ⟨⟨rfl, rfl⟩, Nat.le_of_ble_eq_true rfl, Nat.le_of_ble_eq_true rfl⟩ [0, 1, 2, 3, 4, 5, 6, 7, 8, 9] rfl (by decide) hP hD hS hl.1 rfl (Nat.le_of_ble_eq_true rfl) dL_law_378 ⟨by show cells + 1 ≤ 800891; omega, by show slots + 6 ≤ 6687511; omega⟩) hA hP hD hS (isC := [0, 1, 2, 3, 4, 5, 6, 7, 8, 9]) rfl [10] [1, 2, 3, 4, 5, 6, 7, 8, 9, 10, 0] (br := [smC E os f]) (bs2 := fun u => OB E X hs w g g2 hg nx ct u ++ [smC E os f]) rfl (by decide) (fun _ => rfl) (by decide) (fun r j_8 H locs hw hP hD hS => ?_)
                obtain ⟨hw, hj_9⟩ := hw
                refine tp_i hw ?_
                refine tp_i (show wf g (g 5) (nI m9) = nI (g 5 m9) from wf_in hmc hm) ?_
                refine lv_iload hx hb dL_law_381 (lv_at hl 25 rfl) ?_
                refine lv_iconst (v := nI 5) hx hb dL_law_383 (by decide) ?_
                refine lv_iload hx hb dL_law_384 (lv_at hl 29 rfl) ?_
                refine nv_imul hx hb dL_law_386 ?_
                refine nv_isub hx hb (by omega) dL_law_387 ?_
                refine nv_icmp_ne (X := ((g 5 m9 : Nat) : Int)) (Y := ((x23 - (5 * bo) : Nat) : Int)) hx hb (nI_toInt (by omega)) (nI_toInt (by omega)) (tgt := 409) dL_law_388 (by decide) (fun c_10 => ?_) (fun c_10 => ?_)
                · exact absurd c_10 (by omega)
                · skip
                  refine lv_aload_n hx hb dL_law_391 rfl (lv_at hl 4 rfl) ?_
                  refine run_i (S := Unit) (run_V (As := []) (rest := [.int (nI 1)]) (bs := OB E X hs w g g2 hg nx ct j_8 ++ [smC E os f]) (cb := [coC E (X 0) (X 1) (X 2) (X 3) (X 4) (X 5) (X 6) (X 7) (X 8) w, stC E (X 1) g]) hx hb hml hown hts hK hZ hA (c_X5_surplus l E _ (X 0) (X 1) (X 2) (X 3) (X 4) (X 5) (X 6) (X 7) (X 8) w g B hI) l_L_197 rfl ⟨⟨rfl, rfl⟩, Nat.le_of_ble_eq_true rfl, Nat.le_of_ble_eq_true rfl⟩ 9 rfl [0, 1] rfl (by decide) rfl hP hD hS hl.1 rfl (Nat.le_of_ble_eq_true rfl) dL_law_392 ⟨by show (cells + 1) + 0 ≤ 800891; omega, by show (slots + 6) + 0 ≤ 6687511; omega⟩) hA hP hD hS (isC := [0, 1]) rfl [2, 3, 4, 5, 6, 7, 8, 9, 10] [9, 10, 0, 1, 2, 3, 4, 5, 6, 7, 8] (br := [stC E (X 2) g2, stC E (X 3) j_8.1, hhC E (X 4) hs hg nx ct, diC E (X 5) j_8.2.1 j_8.2.2.1, grC E (X 6) j_8.2.2.2.1 j_8.2.2.2.2.1, prC E (X 7) j_8.2.2.2.2.2.1 j_8.2.2.2.2.2.2.1, sbO E (X 8) j_8.2.2.2.2.2.2.2.1 j_8.2.2.2.2.2.2.2.2.1 j_8.2.2.2.2.2.2.2.2.2.1, baC E j_8.2.2.2.2.2.2.2.1 j_8.2.2.2.2.2.2.2.2.2.2.1 j_8.2.2.2.2.2.2.2.2.2.2.2, smC E os f]) (bs2 := fun _ => OB E X hs w g g2 hg nx ct j_8 ++ [smC E os f]) rfl (by decide) (fun _ => rfl) (by decide) (fun r u H locs hw hP hD hS => ?_)
                  subst hw
                  refine lv_iload hx hb dL_law_395 (lv_at hl 21 rfl) ?_
                  refine lv_iconst (v := nI 5) hx hb dL_law_397 (by decide) ?_
                  refine lv_iload hx hb dL_law_398 (lv_at hl 29 rfl) ?_
                  refine nv_imul hx hb dL_law_400 ?_
                  refine nv_iadd hx hb dL_law_401 ?_
                  refine nv_icmp_ne (X := ((g 8 2 : Nat) : Int)) (Y := ((su + (5 * bo) : Nat) : Int)) hx hb (nI_toInt (by omega)) (nI_toInt (by omega)) (tgt := 409) dL_law_402 (by decide) (fun c_11 => ?_) (fun c_11 => ?_)
                  · exact absurd c_11 (by omega)
                  · skip
                    refine lv_iconst (v := nI 1) hx hb dL_law_405 (by decide) ?_
                    refine lv_goto (tgt := 410) hx hb dL_law_406 (by decide) ?_
                    refine lv_iand hx hb dL_law_410 ?_
                    refine tp_i (show nI 1 &&& nI 1 = nI 1 from by decide) ?_
                    refine lv_istore (lv' := [(30, .int (nI 1)), (29, .int (nI 1)), (28, .int (nI (x24 + bo))), (0, .ref (E.2.2 202)), (1, .ref (X 0 0)), (2, .ref os), (3, .int (nI made)), (4, .int (nI k9)), (5, .int (nI n9)), (6, .long bf), (8, .int (nI kd)), (9, .int (nI sz)), (10, .int (nI m9)), (11, .int (nI beats)), (12, .int (nI ea)), (13, .int (nI tone)), (14, .int (nI tol)), (15, .int (nI fav)), (16, .int (nI qu)), (17, .int (nI ho)), (18, .int (nI be)), (19, .int (nI su)), (20, .int (nI ch)), (21, .int v21), (22, .int v22), (23, .int (nI x23)), (24, .int (nI x24)), (25, .int v25), (26, .int v26), (27, .int (nI bo))]) hx hb dL_law_411 hl (by decide) rfl (fun ls hl => ?_)
                    refine lv_iload hx hb dL_law_413 (lv_at hl 1 rfl) ?_
                    refine nv_if_eq (X := ((1 : Nat) : Int)) hx hb (nI_toInt (by omega)) (tgt := 436) dL_law_415 (by decide) (fun c_12 => ?_) (fun c_12 => ?_)
                    · exact absurd c_12 (by omega)
                    · skip
                      refine lv_iload hx hb dL_law_418 (lv_at hl 10 rfl) ?_
                      refine lv_bipush (v := nI 18) hx hb dL_law_420 (by decide) ?_
                      refine nv_icmp_le (X := ((kd : Nat) : Int)) (Y := ((18 : Nat) : Int)) hx hb (nI_toInt (by omega)) (nI_toInt (by omega)) (tgt := 436) dL_law_422 (by decide) (fun c_13 => ?_) (fun c_13 => ?_)
                      · skip
                        refine lv_iconst (v := nI 0) hx hb dL_law_436 (by decide) ?_
                        refine lv_istore (lv' := [(31, .int (nI 0)), (30, .int (nI 1)), (29, .int (nI 1)), (28, .int (nI (x24 + bo))), (0, .ref (E.2.2 202)), (1, .ref (X 0 0)), (2, .ref os), (3, .int (nI made)), (4, .int (nI k9)), (5, .int (nI n9)), (6, .long bf), (8, .int (nI kd)), (9, .int (nI sz)), (10, .int (nI m9)), (11, .int (nI beats)), (12, .int (nI ea)), (13, .int (nI tone)), (14, .int (nI tol)), (15, .int (nI fav)), (16, .int (nI qu)), (17, .int (nI ho)), (18, .int (nI be)), (19, .int (nI su)), (20, .int (nI ch)), (21, .int v21), (22, .int v22), (23, .int (nI x23)), (24, .int (nI x24)), (25, .int v25), (26, .int v26), (27, .int (nI bo))]) hx hb dL_law_437 hl (by decide) rfl (fun ls hl => ?_)
                        refine lv_iload hx hb dL_law_439 (lv_at hl 1 rfl) ?_
                        refine lv_iload hx hb dL_law_441 (lv_at hl 0 rfl) ?_
                        refine nv_if_eq (X := ((0 : Nat) : Int)) hx hb (nI_toInt (by omega)) (tgt := 540) dL_law_443 (by decide) (fun c_14 => ?_) (fun c_14 => ?_)
                        · skip
                          refine lv_iconst (v := nI 1) hx hb dL_law_540 (by decide) ?_
                          refine lv_goto (tgt := 545) hx hb dL_law_541 (by decide) ?_
                          refine lv_iand hx hb dL_law_545 ?_
                          refine tp_i (show nI 1 &&& nI 1 = nI 1 from by decide) ?_
                          refine lv_istore (lv' := [(30, .int (nI 1)), (31, .int (nI 0)), (29, .int (nI 1)), (28, .int (nI (x24 + bo))), (0, .ref (E.2.2 202)), (1, .ref (X 0 0)), (2, .ref os), (3, .int (nI made)), (4, .int (nI k9)), (5, .int (nI n9)), (6, .long bf), (8, .int (nI kd)), (9, .int (nI sz)), (10, .int (nI m9)), (11, .int (nI beats)), (12, .int (nI ea)), (13, .int (nI tone)), (14, .int (nI tol)), (15, .int (nI fav)), (16, .int (nI qu)), (17, .int (nI ho)), (18, .int (nI be)), (19, .int (nI su)), (20, .int (nI ch)), (21, .int v21), (22, .int v22), (23, .int (nI x23)), (24, .int (nI x24)), (25, .int v25), (26, .int v26), (27, .int (nI bo))]) hx hb dL_law_546 hl (by decide) rfl (fun ls hl => ?_)
                          refine lv_iload hx hb dL_law_548 (lv_at hl 0 rfl) ?_
                          refine lv_iload hx hb dL_law_550 (lv_at hl 2 rfl) ?_
                          refine nv_if_eq (X := ((1 : Nat) : Int)) hx hb (nI_toInt (by omega)) (tgt := 604) dL_law_552 (by decide) (fun c_15 => ?_) (fun c_15 => ?_)
                          · exact absurd c_15 (by omega)
                          · skip
                            refine lv_iload hx hb dL_law_555 (lv_at hl 11 rfl) ?_
                            refine lv_bipush (v := nI 28) hx hb dL_law_557 (by decide) ?_
                            refine nv_icmp_lt (X := ((kd : Nat) : Int)) (Y := ((28 : Nat) : Int)) hx hb (nI_toInt (by omega)) (nI_toInt (by omega)) (tgt := 604) dL_law_559 (by decide) (fun c_16 => ?_) (fun c_16 => ?_)
                            · skip
                              refine lv_iconst (v := nI 1) hx hb dL_law_604 (by decide) ?_
                              refine lv_goto (tgt := 609) hx hb dL_law_605 (by decide) ?_
                              refine lv_iand hx hb dL_law_609 ?_
                              refine tp_i (show nI 1 &&& nI 1 = nI 1 from by decide) ?_
                              refine lv_istore (lv' := [(30, .int (nI 1)), (31, .int (nI 0)), (29, .int (nI 1)), (28, .int (nI (x24 + bo))), (0, .ref (E.2.2 202)), (1, .ref (X 0 0)), (2, .ref os), (3, .int (nI made)), (4, .int (nI k9)), (5, .int (nI n9)), (6, .long bf), (8, .int (nI kd)), (9, .int (nI sz)), (10, .int (nI m9)), (11, .int (nI beats)), (12, .int (nI ea)), (13, .int (nI tone)), (14, .int (nI tol)), (15, .int (nI fav)), (16, .int (nI qu)), (17, .int (nI ho)), (18, .int (nI be)), (19, .int (nI su)), (20, .int (nI ch)), (21, .int v21), (22, .int v22), (23, .int (nI x23)), (24, .int (nI x24)), (25, .int v25), (26, .int v26), (27, .int (nI bo))]) hx hb dL_law_610 hl (by decide) rfl (fun ls hl => ?_)
                              refine lv_iload hx hb dL_law_612 (lv_at hl 0 rfl) ?_
                              refine lv_iload hx hb dL_law_614 (lv_at hl 11 rfl) ?_
                              refine lv_bipush (v := nI 31) hx hb dL_law_616 (by decide) ?_
                              refine nv_icmp_lt (X := ((kd : Nat) : Int)) (Y := ((31 : Nat) : Int)) hx hb (nI_toInt (by omega)) (nI_toInt (by omega)) (tgt := 697) dL_law_618 (by decide) (fun c_17 => ?_) (fun c_17 => ?_)
                              · skip
                                refine lv_iconst (v := nI 1) hx hb dL_law_697 (by decide) ?_
                                refine lv_goto (tgt := 702) hx hb dL_law_698 (by decide) ?_
                                refine lv_iand hx hb dL_law_702 ?_
                                refine tp_i (show nI 1 &&& nI 1 = nI 1 from by decide) ?_
                                refine lv_istore (lv' := [(30, .int (nI 1)), (31, .int (nI 0)), (29, .int (nI 1)), (28, .int (nI (x24 + bo))), (0, .ref (E.2.2 202)), (1, .ref (X 0 0)), (2, .ref os), (3, .int (nI made)), (4, .int (nI k9)), (5, .int (nI n9)), (6, .long bf), (8, .int (nI kd)), (9, .int (nI sz)), (10, .int (nI m9)), (11, .int (nI beats)), (12, .int (nI ea)), (13, .int (nI tone)), (14, .int (nI tol)), (15, .int (nI fav)), (16, .int (nI qu)), (17, .int (nI ho)), (18, .int (nI be)), (19, .int (nI su)), (20, .int (nI ch)), (21, .int v21), (22, .int v22), (23, .int (nI x23)), (24, .int (nI x24)), (25, .int v25), (26, .int v26), (27, .int (nI bo))]) hx hb dL_law_703 hl (by decide) rfl (fun ls hl => ?_)
                                refine lv_iload hx hb dL_law_705 (lv_at hl 0 rfl) ?_
                                refine lv_iload hx hb dL_law_707 (lv_at hl 1 rfl) ?_
                                refine nv_if_ne (X := ((0 : Nat) : Int)) hx hb (nI_toInt (by omega)) (tgt := 737) dL_law_709 (by decide) (fun c_18 => ?_) (fun c_18 => ?_)
                                · exact absurd c_18 (by omega)
                                · skip
                                  refine lv_iload hx hb dL_law_712 (lv_at hl 11 rfl) ?_
                                  refine lv_bipush (v := nI 35) hx hb dL_law_714 (by decide) ?_
                                  refine nv_icmp_gt (X := ((kd : Nat) : Int)) (Y := ((35 : Nat) : Int)) hx hb (nI_toInt (by omega)) (nI_toInt (by omega)) (tgt := 737) dL_law_716 (by decide) (fun c_19 => ?_) (fun c_19 => ?_)
                                  · exact absurd c_19 (by omega)
                                  · skip
                                    refine lv_aload_n hx hb dL_law_719 rfl (lv_at hl 5 rfl) ?_
                                    refine run_i (S := Unit) (run_V (As := []) (rest := [.int (nI 1)]) (bs := OB E X hs w g g2 hg nx ct j_8 ++ [smC E os f]) (cb := [coC E (X 0) (X 1) (X 2) (X 3) (X 4) (X 5) (X 6) (X 7) (X 8) w, stC E (X 1) g]) hx hb hml hown hts hK hZ hA (c_X5_beat l E _ (X 0) (X 1) (X 2) (X 3) (X 4) (X 5) (X 6) (X 7) (X 8) w g B hI) l_L_194 rfl ⟨⟨rfl, rfl⟩, Nat.le_of_ble_eq_true rfl, Nat.le_of_ble_eq_true rfl⟩ 9 rfl [0, 1] rfl (by decide) rfl hP hD hS hl.1 rfl (Nat.le_of_ble_eq_true rfl) dL_law_720 ⟨by show (cells + 1) + 0 ≤ 800891; omega, by show (slots + 6) + 0 ≤ 6687511; omega⟩) hA hP hD hS (isC := [0, 1]) rfl [2, 3, 4, 5, 6, 7, 8, 9, 10] [9, 10, 0, 1, 2, 3, 4, 5, 6, 7, 8] (br := [stC E (X 2) g2, stC E (X 3) j_8.1, hhC E (X 4) hs hg nx ct, diC E (X 5) j_8.2.1 j_8.2.2.1, grC E (X 6) j_8.2.2.2.1 j_8.2.2.2.2.1, prC E (X 7) j_8.2.2.2.2.2.1 j_8.2.2.2.2.2.2.1, sbO E (X 8) j_8.2.2.2.2.2.2.2.1 j_8.2.2.2.2.2.2.2.2.1 j_8.2.2.2.2.2.2.2.2.2.1, baC E j_8.2.2.2.2.2.2.2.1 j_8.2.2.2.2.2.2.2.2.2.2.1 j_8.2.2.2.2.2.2.2.2.2.2.2, smC E os f]) (bs2 := fun _ => OB E X hs w g g2 hg nx ct j_8 ++ [smC E os f]) rfl (by decide) (fun _ => rfl) (by decide) (fun r u H locs hw hP hD hS => ?_)
                                    subst hw
                                    refine lv_iload hx hb dL_law_723 (lv_at hl 21 rfl) ?_
                                    refine nv_icmp_ne (X := ((g 8 1 : Nat) : Int)) (Y := ((be : Nat) : Int)) hx hb (nI_toInt (by omega)) (nI_toInt (by omega)) (tgt := 741) dL_law_725 (by decide) (fun c_20 => ?_) (fun c_20 => ?_)
                                    · exact absurd c_20 (by omega)
                                    · skip
                                      refine lv_aload_n hx hb dL_law_728 rfl (lv_at hl 5 rfl) ?_
                                      refine run_i (S := Unit) (run_V (As := []) (rest := [.int (nI 1)]) (bs := OB E X hs w g g2 hg nx ct j_8 ++ [smC E os f]) (cb := [coC E (X 0) (X 1) (X 2) (X 3) (X 4) (X 5) (X 6) (X 7) (X 8) w, stC E (X 1) g]) hx hb hml hown hts hK hZ hA (c_X5_chirps l E _ (X 0) (X 1) (X 2) (X 3) (X 4) (X 5) (X 6) (X 7) (X 8) w g B hI) l_L_200 rfl ⟨⟨rfl, rfl⟩, Nat.le_of_ble_eq_true rfl, Nat.le_of_ble_eq_true rfl⟩ 9 rfl [0, 1] rfl (by decide) rfl hP hD hS hl.1 rfl (Nat.le_of_ble_eq_true rfl) dL_law_729 ⟨by show (cells + 1) + 0 ≤ 800891; omega, by show (slots + 6) + 0 ≤ 6687511; omega⟩) hA hP hD hS (isC := [0, 1]) rfl [2, 3, 4, 5, 6, 7, 8, 9, 10] [9, 10, 0, 1, 2, 3, 4, 5, 6, 7, 8] (br := [stC E (X 2) g2, stC E (X 3) j_8.1, hhC E (X 4) hs hg nx ct, diC E (X 5) j_8.2.1 j_8.2.2.1, grC E (X 6) j_8.2.2.2.1 j_8.2.2.2.2.1, prC E (X 7) j_8.2.2.2.2.2.1 j_8.2.2.2.2.2.2.1, sbO E (X 8) j_8.2.2.2.2.2.2.2.1 j_8.2.2.2.2.2.2.2.2.1 j_8.2.2.2.2.2.2.2.2.2.1, baC E j_8.2.2.2.2.2.2.2.1 j_8.2.2.2.2.2.2.2.2.2.2.1 j_8.2.2.2.2.2.2.2.2.2.2.2, smC E os f]) (bs2 := fun _ => OB E X hs w g g2 hg nx ct j_8 ++ [smC E os f]) rfl (by decide) (fun _ => rfl) (by decide) (fun r u H locs hw hP hD hS => ?_)
                                      subst hw
                                      refine lv_iload hx hb dL_law_732 (lv_at hl 23 rfl) ?_
                                      refine nv_icmp_ne (X := ((g 8 6 : Nat) : Int)) (Y := ((ch : Nat) : Int)) hx hb (nI_toInt (by omega)) (nI_toInt (by omega)) (tgt := 741) dL_law_734 (by decide) (fun c_21 => ?_) (fun c_21 => ?_)
                                      · exact absurd c_21 (by omega)
                                      · skip
                                        refine lv_iconst (v := nI 1) hx hb dL_law_737 (by decide) ?_
                                        refine lv_goto (tgt := 742) hx hb dL_law_738 (by decide) ?_
                                        refine lv_iand hx hb dL_law_742 ?_
                                        refine tp_i (show nI 1 &&& nI 1 = nI 1 from by decide) ?_
                                        refine lv_istore (lv' := [(30, .int (nI 1)), (31, .int (nI 0)), (29, .int (nI 1)), (28, .int (nI (x24 + bo))), (0, .ref (E.2.2 202)), (1, .ref (X 0 0)), (2, .ref os), (3, .int (nI made)), (4, .int (nI k9)), (5, .int (nI n9)), (6, .long bf), (8, .int (nI kd)), (9, .int (nI sz)), (10, .int (nI m9)), (11, .int (nI beats)), (12, .int (nI ea)), (13, .int (nI tone)), (14, .int (nI tol)), (15, .int (nI fav)), (16, .int (nI qu)), (17, .int (nI ho)), (18, .int (nI be)), (19, .int (nI su)), (20, .int (nI ch)), (21, .int v21), (22, .int v22), (23, .int (nI x23)), (24, .int (nI x24)), (25, .int v25), (26, .int v26), (27, .int (nI bo))]) hx hb dL_law_743 hl (by decide) rfl (fun ls hl => ?_)
                                        exact W_widen (by omega) (by omega) (kk j_8 _ _ _ hj_9 hP hD hS (lv_sub hl [4, 5, 6, 7, 8, 9, 10, 2, 0] rfl))
                              · exact absurd c_17 (by omega)
                            · exact absurd c_16 (by omega)
                        · exact absurd c_14 (by omega)
                      · exact absurd c_13 (by omega)
      · exact absurd c_3 (by omega)
set_option maxHeartbeats 8000000 in
set_option maxRecDepth 100000 in
theorem chk_K4 {p : Program} {l : Launch} {e : Env} {s : State} {m : MethodId} {args : Array Value} {below : List Frame} {meth : Method} {c : Code} {E : EE} {A : Nat → Prop} {Q : State → Prop} (X hs : Nat → Nat → Nat) (os : Nat) (f : Nat → Int64) (w : Nat → Nat) (g g2 : GG) (B : Nat) (hI : IB B g) (hg : Nat → GG) (nx ct : Nat) (hnx : nx < 8) (hct : ct ≤ 8) (j : JT) (hj : JV j) (bf : Int64) (kd sz m9 beats ea tone tol fav qu ho be su ch bo made k9 n9 : Nat) (v21 v22 v23 v24 v25 v26 : Int32) (hsz : sz ≤ 8) (hm9 : m9 ≤ 8) (hk : 19 ≤ kd) (hk2 : kd < 28) (h2 : g 8 2 = su + ea) (h1 : g 8 1 = be + beats) (h6 : ch + ea ≤ g 8 6) (h4 : (wf g (g 4) (nI m9)).toInt ≤ v26.toInt) (h7 : wsp g (nI 0) = v21 ↔ g 8 6 = ch + ea) (C : LCL p l s m args c E A) {cells slots : Nat} (hcs : cells + 100 ≤ 800000 ∧ slots + 600 ≤ 6680000) (kk : ∀ (j9 : JT) (H : Heap) (locs : List Loc) (ls : Array Slot), JV j9 → va_P E.1 vwCl (OB E X hs w g g2 hg nx ct j9 ++ [smC E os f] : List va_W).flatten H → va_D A (OB E X hs w g g2 hg nx ct j9 ++ [smC E os f] : List va_W).flatten → va_S A s.heap H locs → lv_has ls 32 [(0, .ref (E.2.2 202)), (1, .ref (X 0 0)), (2, .ref os), (3, .int (nI made)), (4, .int (nI k9)), (5, .int (nI n9)), (6, .long bf), (29, .int (nI 1)), (30, .int (nI 1))] → W p l e room_1 s m args below meth c H locs (cells + 40) (slots + 240) Q (F0 m 745 ls [])) {H : Heap} {locs : List Loc} {ls : Array Slot} (hP : va_P E.1 vwCl (OB E X hs w g g2 hg nx ct j ++ [smC E os f] : List va_W).flatten H) (hD : va_D A (OB E X hs w g g2 hg nx ct j ++ [smC E os f] : List va_W).flatten) (hS : va_S A s.heap H locs) (hl : lv_has ls 32 [(0, .ref (E.2.2 202)), (1, .ref (X 0 0)), (2, .ref os), (3, .int (nI made)), (4, .int (nI k9)), (5, .int (nI n9)), (6, .long bf), (8, .int (nI kd)), (9, .int (nI sz)), (10, .int (nI m9)), (11, .int (nI beats)), (12, .int (nI ea)), (13, .int (nI tone)), (14, .int (nI tol)), (15, .int (nI fav)), (16, .int (nI qu)), (17, .int (nI ho)), (18, .int (nI be)), (19, .int (nI su)), (20, .int (nI ch)), (21, .int v21), (22, .int v22), (23, .int v23), (24, .int v24), (25, .int v25), (26, .int v26), (27, .int (nI bo))]) : W p l e room_1 s m args below meth c H locs cells slots Q (F0 m 276 ls [.int (nI ea)]) := by
  have C0 := C
  obtain ⟨hx, hb, hml, hown, hts, hK, hZ, hDD, hA, hst, hL⟩ := C
  have hmc := hI.mc
  have hbud := hI.bud
  have h7i := (i32_ii (x := wsp g (nI 0)) (y := v21)).trans h7
  refine lv_istore (lv' := [(28, .int (nI ea)), (0, .ref (E.2.2 202)), (1, .ref (X 0 0)), (2, .ref os), (3, .int (nI made)), (4, .int (nI k9)), (5, .int (nI n9)), (6, .long bf), (8, .int (nI kd)), (9, .int (nI sz)), (10, .int (nI m9)), (11, .int (nI beats)), (12, .int (nI ea)), (13, .int (nI tone)), (14, .int (nI tol)), (15, .int (nI fav)), (16, .int (nI qu)), (17, .int (nI ho)), (18, .int (nI be)), (19, .int (nI su)), (20, .int (nI ch)), (21, .int v21), (22, .int v22), (23, .int v23), (24, .int v24), (25, .int v25), (26, .int v26), (27, .int (nI bo))]) hx hb dL_law_276 hl (by decide) rfl (fun ls hl => ?_)
  refine lv_iload hx hb dL_law_278 (lv_at hl 0 rfl) ?_
  refine lv_bipush (v := -70) hx hb dL_law_280 (by decide) ?_
  refine nv_icmp_le (X := ((ea : Nat) : Int)) (Y := (-70)) hx hb (nI_toInt (by omega)) (by decide) (tgt := 289) dL_law_282 (by decide) (fun c_1 => ?_) (fun c_1 => ?_)
  · exact absurd c_1 (by omega)
  · skip
    refine lv_iconst (v := nI 1) hx hb dL_law_285 (by decide) ?_
    refine lv_goto (tgt := 290) hx hb dL_law_286 (by decide) ?_
    refine lv_istore (lv' := [(29, .int (nI 1)), (28, .int (nI ea)), (0, .ref (E.2.2 202)), (1, .ref (X 0 0)), (2, .ref os), (3, .int (nI made)), (4, .int (nI k9)), (5, .int (nI n9)), (6, .long bf), (8, .int (nI kd)), (9, .int (nI sz)), (10, .int (nI m9)), (11, .int (nI beats)), (12, .int (nI ea)), (13, .int (nI tone)), (14, .int (nI tol)), (15, .int (nI fav)), (16, .int (nI qu)), (17, .int (nI ho)), (18, .int (nI be)), (19, .int (nI su)), (20, .int (nI ch)), (21, .int v21), (22, .int v22), (23, .int v23), (24, .int v24), (25, .int v25), (26, .int v26), (27, .int (nI bo))]) hx hb dL_law_290 hl (by decide) rfl (fun ls hl => ?_)
    refine lv_iload hx hb dL_law_292 (lv_at hl 0 rfl) ?_
    refine nv_if_eq (X := ((1 : Nat) : Int)) hx hb (nI_toInt (by omega)) (tgt := 337) dL_law_294 (by decide) (fun c_2 => ?_) (fun c_2 => ?_)
    · exact absurd c_2 (by omega)
    · skip
      refine lv_iload hx hb dL_law_297 (lv_at hl 9 rfl) ?_
      refine lv_iconst (v := nI 3) hx hb dL_law_299 (by decide) ?_
      refine nv_icmp_gt (X := ((kd : Nat) : Int)) (Y := ((3 : Nat) : Int)) hx hb (nI_toInt (by omega)) (nI_toInt (by omega)) (tgt := 337) dL_law_300 (by decide) (fun c_3 => ?_) (fun c_3 => ?_)
      · skip
        refine lv_iconst (v := nI 1) hx hb dL_law_337 (by decide) ?_
        refine lv_goto (tgt := 342) hx hb dL_law_338 (by decide) ?_
        refine lv_istore (lv' := [(30, .int (nI 1)), (29, .int (nI 1)), (28, .int (nI ea)), (0, .ref (E.2.2 202)), (1, .ref (X 0 0)), (2, .ref os), (3, .int (nI made)), (4, .int (nI k9)), (5, .int (nI n9)), (6, .long bf), (8, .int (nI kd)), (9, .int (nI sz)), (10, .int (nI m9)), (11, .int (nI beats)), (12, .int (nI ea)), (13, .int (nI tone)), (14, .int (nI tol)), (15, .int (nI fav)), (16, .int (nI qu)), (17, .int (nI ho)), (18, .int (nI be)), (19, .int (nI su)), (20, .int (nI ch)), (21, .int v21), (22, .int v22), (23, .int v23), (24, .int v24), (25, .int v25), (26, .int v26), (27, .int (nI bo))]) hx hb dL_law_342 hl (by decide) rfl (fun ls hl => ?_)
        refine lv_iload hx hb dL_law_344 (lv_at hl 0 rfl) ?_
        refine lv_iload hx hb dL_law_346 (lv_at hl 1 rfl) ?_
        refine nv_if_eq (X := ((1 : Nat) : Int)) hx hb (nI_toInt (by omega)) (tgt := 405) dL_law_348 (by decide) (fun c_4 => ?_) (fun c_4 => ?_)
        · exact absurd c_4 (by omega)
        · skip
          refine lv_iload hx hb dL_law_351 (lv_at hl 10 rfl) ?_
          refine lv_bipush (v := nI 16) hx hb dL_law_353 (by decide) ?_
          refine nv_icmp_lt (X := ((kd : Nat) : Int)) (Y := ((16 : Nat) : Int)) hx hb (nI_toInt (by omega)) (nI_toInt (by omega)) (tgt := 405) dL_law_355 (by decide) (fun c_5 => ?_) (fun c_5 => ?_)
          · exact absurd c_5 (by omega)
          · skip
            refine lv_iload hx hb dL_law_358 (lv_at hl 10 rfl) ?_
            refine lv_bipush (v := nI 18) hx hb dL_law_360 (by decide) ?_
            refine nv_icmp_gt (X := ((kd : Nat) : Int)) (Y := ((18 : Nat) : Int)) hx hb (nI_toInt (by omega)) (nI_toInt (by omega)) (tgt := 405) dL_law_362 (by decide) (fun c_6 => ?_) (fun c_6 => ?_)
            · skip
              refine lv_iconst (v := nI 1) hx hb dL_law_405 (by decide) ?_
              refine lv_goto (tgt := 410) hx hb dL_law_406 (by decide) ?_
              refine lv_iand hx hb dL_law_410 ?_
              refine tp_i (show nI 1 &&& nI 1 = nI 1 from by decide) ?_
              refine lv_istore (lv' := [(30, .int (nI 1)), (29, .int (nI 1)), (28, .int (nI ea)), (0, .ref (E.2.2 202)), (1, .ref (X 0 0)), (2, .ref os), (3, .int (nI made)), (4, .int (nI k9)), (5, .int (nI n9)), (6, .long bf), (8, .int (nI kd)), (9, .int (nI sz)), (10, .int (nI m9)), (11, .int (nI beats)), (12, .int (nI ea)), (13, .int (nI tone)), (14, .int (nI tol)), (15, .int (nI fav)), (16, .int (nI qu)), (17, .int (nI ho)), (18, .int (nI be)), (19, .int (nI su)), (20, .int (nI ch)), (21, .int v21), (22, .int v22), (23, .int v23), (24, .int v24), (25, .int v25), (26, .int v26), (27, .int (nI bo))]) hx hb dL_law_411 hl (by decide) rfl (fun ls hl => ?_)
              refine lv_iload hx hb dL_law_413 (lv_at hl 1 rfl) ?_
              refine nv_if_eq (X := ((1 : Nat) : Int)) hx hb (nI_toInt (by omega)) (tgt := 436) dL_law_415 (by decide) (fun c_7 => ?_) (fun c_7 => ?_)
              · exact absurd c_7 (by omega)
              · skip
                refine lv_iload hx hb dL_law_418 (lv_at hl 10 rfl) ?_
                refine lv_bipush (v := nI 18) hx hb dL_law_420 (by decide) ?_
                refine nv_icmp_le (X := ((kd : Nat) : Int)) (Y := ((18 : Nat) : Int)) hx hb (nI_toInt (by omega)) (nI_toInt (by omega)) (tgt := 436) dL_law_422 (by decide) (fun c_8 => ?_) (fun c_8 => ?_)
                · exact absurd c_8 (by omega)
                · skip
                  refine lv_iload hx hb dL_law_425 (lv_at hl 10 rfl) ?_
                  refine lv_bipush (v := nI 28) hx hb dL_law_427 (by decide) ?_
                  refine nv_icmp_ge (X := ((kd : Nat) : Int)) (Y := ((28 : Nat) : Int)) hx hb (nI_toInt (by omega)) (nI_toInt (by omega)) (tgt := 436) dL_law_429 (by decide) (fun c_9 => ?_) (fun c_9 => ?_)
                  · exact absurd c_9 (by omega)
                  · skip
                    refine lv_iconst (v := nI 1) hx hb dL_law_432 (by decide) ?_
                    refine lv_goto (tgt := 437) hx hb dL_law_433 (by decide) ?_
                    refine lv_istore (lv' := [(31, .int (nI 1)), (30, .int (nI 1)), (29, .int (nI 1)), (28, .int (nI ea)), (0, .ref (E.2.2 202)), (1, .ref (X 0 0)), (2, .ref os), (3, .int (nI made)), (4, .int (nI k9)), (5, .int (nI n9)), (6, .long bf), (8, .int (nI kd)), (9, .int (nI sz)), (10, .int (nI m9)), (11, .int (nI beats)), (12, .int (nI ea)), (13, .int (nI tone)), (14, .int (nI tol)), (15, .int (nI fav)), (16, .int (nI qu)), (17, .int (nI ho)), (18, .int (nI be)), (19, .int (nI su)), (20, .int (nI ch)), (21, .int v21), (22, .int v22), (23, .int v23), (24, .int v24), (25, .int v25), (26, .int v26), (27, .int (nI bo))]) hx hb dL_law_437 hl (by decide) rfl (fun ls hl => ?_)
                    refine lv_iload hx hb dL_law_439 (lv_at hl 1 rfl) ?_
                    refine lv_iload hx hb dL_law_441 (lv_at hl 0 rfl) ?_
                    refine nv_if_eq (X := ((1 : Nat) : Int)) hx hb (nI_toInt (by omega)) (tgt := 540) dL_law_443 (by decide) (fun c_10 => ?_) (fun c_10 => ?_)
                    · exact absurd c_10 (by omega)
                    · skip
                      have k540 : ∀ (jk540 : JT), JV jk540 → ∀ (H : Heap) (locs : List Loc) (ls : Array Slot), va_P E.1 vwCl (OB E X hs w g g2 hg nx ct jk540 ++ [smC E os f] : List va_W).flatten H → va_D A (OB E X hs w g g2 hg nx ct jk540 ++ [smC E os f] : List va_W).flatten → va_S A s.heap H locs → lv_has ls 32 [(0, .ref (E.2.2 202)), (1, .ref (X 0 0)), (2, .ref os), (3, .int (nI made)), (4, .int (nI k9)), (5, .int (nI n9)), (6, .long bf), (8, .int (nI kd)), (9, .int (nI sz)), (10, .int (nI m9)), (11, .int (nI beats)), (12, .int (nI ea)), (13, .int (nI tone)), (14, .int (nI tol)), (15, .int (nI fav)), (16, .int (nI qu)), (17, .int (nI ho)), (18, .int (nI be)), (19, .int (nI su)), (20, .int (nI ch)), (21, .int v21), (22, .int v22), (23, .int v23), (24, .int v24), (25, .int v25), (26, .int v26), (27, .int (nI bo)), (28, .int (nI ea)), (29, .int (nI 1)), (30, .int (nI 1)), (31, .int (nI 1))] → W p l e room_1 s m args below meth c H locs (cells + 3) (slots + 18) Q (F0 m 540 ls [.int (nI 1)]) := by
                        intro jk540 hjk540 H locs ls hP hD hS hl
                        refine lv_iconst (v := nI 1) hx hb dL_law_540 (by decide) ?_
                        refine lv_goto (tgt := 545) hx hb dL_law_541 (by decide) ?_
                        refine lv_iand hx hb dL_law_545 ?_
                        refine tp_i (show nI 1 &&& nI 1 = nI 1 from by decide) ?_
                        refine lv_istore (lv' := [(30, .int (nI 1)), (0, .ref (E.2.2 202)), (1, .ref (X 0 0)), (2, .ref os), (3, .int (nI made)), (4, .int (nI k9)), (5, .int (nI n9)), (6, .long bf), (8, .int (nI kd)), (9, .int (nI sz)), (10, .int (nI m9)), (11, .int (nI beats)), (12, .int (nI ea)), (13, .int (nI tone)), (14, .int (nI tol)), (15, .int (nI fav)), (16, .int (nI qu)), (17, .int (nI ho)), (18, .int (nI be)), (19, .int (nI su)), (20, .int (nI ch)), (21, .int v21), (22, .int v22), (23, .int v23), (24, .int v24), (25, .int v25), (26, .int v26), (27, .int (nI bo)), (28, .int (nI ea)), (29, .int (nI 1)), (31, .int (nI 1))]) hx hb dL_law_546 hl (by decide) rfl (fun ls hl => ?_)
                        refine lv_iload hx hb dL_law_548 (lv_at hl 0 rfl) ?_
                        refine lv_iload hx hb dL_law_550 (lv_at hl 29 rfl) ?_
                        refine nv_if_eq (X := ((1 : Nat) : Int)) hx hb (nI_toInt (by omega)) (tgt := 604) dL_law_552 (by decide) (fun c_11 => ?_) (fun c_11 => ?_)
                        · exact absurd c_11 (by omega)
                        · skip
                          refine lv_iload hx hb dL_law_555 (lv_at hl 8 rfl) ?_
                          refine lv_bipush (v := nI 28) hx hb dL_law_557 (by decide) ?_
                          refine nv_icmp_lt (X := ((kd : Nat) : Int)) (Y := ((28 : Nat) : Int)) hx hb (nI_toInt (by omega)) (nI_toInt (by omega)) (tgt := 604) dL_law_559 (by decide) (fun c_12 => ?_) (fun c_12 => ?_)
                          · skip
                            refine lv_iconst (v := nI 1) hx hb dL_law_604 (by decide) ?_
                            refine lv_goto (tgt := 609) hx hb dL_law_605 (by decide) ?_
                            refine lv_iand hx hb dL_law_609 ?_
                            refine tp_i (show nI 1 &&& nI 1 = nI 1 from by decide) ?_
                            refine lv_istore (lv' := [(30, .int (nI 1)), (0, .ref (E.2.2 202)), (1, .ref (X 0 0)), (2, .ref os), (3, .int (nI made)), (4, .int (nI k9)), (5, .int (nI n9)), (6, .long bf), (8, .int (nI kd)), (9, .int (nI sz)), (10, .int (nI m9)), (11, .int (nI beats)), (12, .int (nI ea)), (13, .int (nI tone)), (14, .int (nI tol)), (15, .int (nI fav)), (16, .int (nI qu)), (17, .int (nI ho)), (18, .int (nI be)), (19, .int (nI su)), (20, .int (nI ch)), (21, .int v21), (22, .int v22), (23, .int v23), (24, .int v24), (25, .int v25), (26, .int v26), (27, .int (nI bo)), (28, .int (nI ea)), (29, .int (nI 1)), (31, .int (nI 1))]) hx hb dL_law_610 hl (by decide) rfl (fun ls hl => ?_)
                            refine lv_iload hx hb dL_law_612 (lv_at hl 0 rfl) ?_
                            refine lv_iload hx hb dL_law_614 (lv_at hl 8 rfl) ?_
                            refine lv_bipush (v := nI 31) hx hb dL_law_616 (by decide) ?_
                            refine nv_icmp_lt (X := ((kd : Nat) : Int)) (Y := ((31 : Nat) : Int)) hx hb (nI_toInt (by omega)) (nI_toInt (by omega)) (tgt := 697) dL_law_618 (by decide) (fun c_13 => ?_) (fun c_13 => ?_)
                            · skip
                              refine lv_iconst (v := nI 1) hx hb dL_law_697 (by decide) ?_
                              refine lv_goto (tgt := 702) hx hb dL_law_698 (by decide) ?_
                              refine lv_iand hx hb dL_law_702 ?_
                              refine tp_i (show nI 1 &&& nI 1 = nI 1 from by decide) ?_
                              refine lv_istore (lv' := [(30, .int (nI 1)), (0, .ref (E.2.2 202)), (1, .ref (X 0 0)), (2, .ref os), (3, .int (nI made)), (4, .int (nI k9)), (5, .int (nI n9)), (6, .long bf), (8, .int (nI kd)), (9, .int (nI sz)), (10, .int (nI m9)), (11, .int (nI beats)), (12, .int (nI ea)), (13, .int (nI tone)), (14, .int (nI tol)), (15, .int (nI fav)), (16, .int (nI qu)), (17, .int (nI ho)), (18, .int (nI be)), (19, .int (nI su)), (20, .int (nI ch)), (21, .int v21), (22, .int v22), (23, .int v23), (24, .int v24), (25, .int v25), (26, .int v26), (27, .int (nI bo)), (28, .int (nI ea)), (29, .int (nI 1)), (31, .int (nI 1))]) hx hb dL_law_703 hl (by decide) rfl (fun ls hl => ?_)
                              refine lv_iload hx hb dL_law_705 (lv_at hl 0 rfl) ?_
                              refine lv_iload hx hb dL_law_707 (lv_at hl 30 rfl) ?_
                              refine nv_if_ne (X := ((1 : Nat) : Int)) hx hb (nI_toInt (by omega)) (tgt := 737) dL_law_709 (by decide) (fun c_14 => ?_) (fun c_14 => ?_)
                              · skip
                                refine lv_iconst (v := nI 1) hx hb dL_law_737 (by decide) ?_
                                refine lv_goto (tgt := 742) hx hb dL_law_738 (by decide) ?_
                                refine lv_iand hx hb dL_law_742 ?_
                                refine tp_i (show nI 1 &&& nI 1 = nI 1 from by decide) ?_
                                refine lv_istore (lv' := [(30, .int (nI 1)), (0, .ref (E.2.2 202)), (1, .ref (X 0 0)), (2, .ref os), (3, .int (nI made)), (4, .int (nI k9)), (5, .int (nI n9)), (6, .long bf), (8, .int (nI kd)), (9, .int (nI sz)), (10, .int (nI m9)), (11, .int (nI beats)), (12, .int (nI ea)), (13, .int (nI tone)), (14, .int (nI tol)), (15, .int (nI fav)), (16, .int (nI qu)), (17, .int (nI ho)), (18, .int (nI be)), (19, .int (nI su)), (20, .int (nI ch)), (21, .int v21), (22, .int v22), (23, .int v23), (24, .int v24), (25, .int v25), (26, .int v26), (27, .int (nI bo)), (28, .int (nI ea)), (29, .int (nI 1)), (31, .int (nI 1))]) hx hb dL_law_743 hl (by decide) rfl (fun ls hl => ?_)
                                exact W_widen (by omega) (by omega) (kk jk540 _ _ _ hjk540 hP hD hS (lv_sub hl [1, 2, 3, 4, 5, 6, 7, 29, 0] rfl))
                              · exact absurd c_14 (by omega)
                            · exact absurd c_13 (by omega)
                          · exact absurd c_12 (by omega)
                      refine lv_iload hx hb dL_law_446 (lv_at hl 3 rfl) ?_
                      refine lv_iload hx hb dL_law_448 (lv_at hl 15 rfl) ?_
                      refine nv_icmp_ne (X := ((ea : Nat) : Int)) (Y := ((ea : Nat) : Int)) hx hb (nI_toInt (by omega)) (nI_toInt (by omega)) (tgt := 544) dL_law_450 (by decide) (fun c_15 => ?_) (fun c_15 => ?_)
                      · exact absurd c_15 (by omega)
                      · skip
                        refine lv_aload_n hx hb dL_law_453 rfl (lv_at hl 5 rfl) ?_
                        refine run_i (S := Unit) (run_V (As := []) (rest := [.int (nI 1)]) (bs := OB E X hs w g g2 hg nx ct j ++ [smC E os f]) (cb := [coC E (X 0) (X 1) (X 2) (X 3) (X 4) (X 5) (X 6) (X 7) (X 8) w, stC E (X 1) g]) hx hb hml hown hts hK hZ hA (c_X5_surplus l E _ (X 0) (X 1) (X 2) (X 3) (X 4) (X 5) (X 6) (X 7) (X 8) w g B hI) l_L_197 rfl ⟨⟨rfl, rfl⟩, Nat.le_of_ble_eq_true rfl, Nat.le_of_ble_eq_true rfl⟩ 9 rfl [0, 1] rfl (by decide) rfl hP hD hS hl.1 rfl (Nat.le_of_ble_eq_true rfl) dL_law_454 ⟨by show cells + 0 ≤ 800891; omega, by show slots + 0 ≤ 6687511; omega⟩) hA hP hD hS (isC := [0, 1]) rfl [2, 3, 4, 5, 6, 7, 8, 9, 10] [9, 10, 0, 1, 2, 3, 4, 5, 6, 7, 8] (br := [stC E (X 2) g2, stC E (X 3) j.1, hhC E (X 4) hs hg nx ct, diC E (X 5) j.2.1 j.2.2.1, grC E (X 6) j.2.2.2.1 j.2.2.2.2.1, prC E (X 7) j.2.2.2.2.2.1 j.2.2.2.2.2.2.1, sbO E (X 8) j.2.2.2.2.2.2.2.1 j.2.2.2.2.2.2.2.2.1 j.2.2.2.2.2.2.2.2.2.1, baC E j.2.2.2.2.2.2.2.1 j.2.2.2.2.2.2.2.2.2.2.1 j.2.2.2.2.2.2.2.2.2.2.2, smC E os f]) (bs2 := fun _ => OB E X hs w g g2 hg nx ct j ++ [smC E os f]) rfl (by decide) (fun _ => rfl) (by decide) (fun r u H locs hw hP hD hS => ?_)
                        subst hw
                        refine lv_iload hx hb dL_law_457 (lv_at hl 22 rfl) ?_
                        refine lv_iload hx hb dL_law_459 (lv_at hl 3 rfl) ?_
                        refine nv_iadd hx hb dL_law_461 ?_
                        refine nv_icmp_ne (X := ((g 8 2 : Nat) : Int)) (Y := ((su + ea : Nat) : Int)) hx hb (nI_toInt (by omega)) (nI_toInt (by omega)) (tgt := 544) dL_law_462 (by decide) (fun c_16 => ?_) (fun c_16 => ?_)
                        · exact absurd c_16 (by omega)
                        · skip
                          refine lv_aload_n hx hb dL_law_465 rfl (lv_at hl 5 rfl) ?_
                          refine run_i (S := Unit) (run_V (As := []) (rest := [.int (nI 1)]) (bs := OB E X hs w g g2 hg nx ct j ++ [smC E os f]) (cb := [coC E (X 0) (X 1) (X 2) (X 3) (X 4) (X 5) (X 6) (X 7) (X 8) w, stC E (X 1) g]) hx hb hml hown hts hK hZ hA (c_X5_beat l E _ (X 0) (X 1) (X 2) (X 3) (X 4) (X 5) (X 6) (X 7) (X 8) w g B hI) l_L_194 rfl ⟨⟨rfl, rfl⟩, Nat.le_of_ble_eq_true rfl, Nat.le_of_ble_eq_true rfl⟩ 9 rfl [0, 1] rfl (by decide) rfl hP hD hS hl.1 rfl (Nat.le_of_ble_eq_true rfl) dL_law_466 ⟨by show cells + 0 ≤ 800891; omega, by show slots + 0 ≤ 6687511; omega⟩) hA hP hD hS (isC := [0, 1]) rfl [2, 3, 4, 5, 6, 7, 8, 9, 10] [9, 10, 0, 1, 2, 3, 4, 5, 6, 7, 8] (br := [stC E (X 2) g2, stC E (X 3) j.1, hhC E (X 4) hs hg nx ct, diC E (X 5) j.2.1 j.2.2.1, grC E (X 6) j.2.2.2.1 j.2.2.2.2.1, prC E (X 7) j.2.2.2.2.2.1 j.2.2.2.2.2.2.1, sbO E (X 8) j.2.2.2.2.2.2.2.1 j.2.2.2.2.2.2.2.2.1 j.2.2.2.2.2.2.2.2.2.1, baC E j.2.2.2.2.2.2.2.1 j.2.2.2.2.2.2.2.2.2.2.1 j.2.2.2.2.2.2.2.2.2.2.2, smC E os f]) (bs2 := fun _ => OB E X hs w g g2 hg nx ct j ++ [smC E os f]) rfl (by decide) (fun _ => rfl) (by decide) (fun r u H locs hw hP hD hS => ?_)
                          subst hw
                          refine lv_iload hx hb dL_law_469 (lv_at hl 21 rfl) ?_
                          refine lv_iload hx hb dL_law_471 (lv_at hl 14 rfl) ?_
                          refine nv_iadd hx hb dL_law_473 ?_
                          refine nv_icmp_ne (X := ((g 8 1 : Nat) : Int)) (Y := ((be + beats : Nat) : Int)) hx hb (nI_toInt (by omega)) (nI_toInt (by omega)) (tgt := 544) dL_law_474 (by decide) (fun c_17 => ?_) (fun c_17 => ?_)
                          · exact absurd c_17 (by omega)
                          · skip
                            refine lv_aload_n hx hb dL_law_477 rfl (lv_at hl 5 rfl) ?_
                            refine run_i (S := Unit) (run_V (As := []) (rest := [.int (nI 1)]) (bs := OB E X hs w g g2 hg nx ct j ++ [smC E os f]) (cb := [coC E (X 0) (X 1) (X 2) (X 3) (X 4) (X 5) (X 6) (X 7) (X 8) w, stC E (X 1) g]) hx hb hml hown hts hK hZ hA (c_X5_chirps l E _ (X 0) (X 1) (X 2) (X 3) (X 4) (X 5) (X 6) (X 7) (X 8) w g B hI) l_L_200 rfl ⟨⟨rfl, rfl⟩, Nat.le_of_ble_eq_true rfl, Nat.le_of_ble_eq_true rfl⟩ 9 rfl [0, 1] rfl (by decide) rfl hP hD hS hl.1 rfl (Nat.le_of_ble_eq_true rfl) dL_law_478 ⟨by show cells + 0 ≤ 800891; omega, by show slots + 0 ≤ 6687511; omega⟩) hA hP hD hS (isC := [0, 1]) rfl [2, 3, 4, 5, 6, 7, 8, 9, 10] [9, 10, 0, 1, 2, 3, 4, 5, 6, 7, 8] (br := [stC E (X 2) g2, stC E (X 3) j.1, hhC E (X 4) hs hg nx ct, diC E (X 5) j.2.1 j.2.2.1, grC E (X 6) j.2.2.2.1 j.2.2.2.2.1, prC E (X 7) j.2.2.2.2.2.1 j.2.2.2.2.2.2.1, sbO E (X 8) j.2.2.2.2.2.2.2.1 j.2.2.2.2.2.2.2.2.1 j.2.2.2.2.2.2.2.2.2.1, baC E j.2.2.2.2.2.2.2.1 j.2.2.2.2.2.2.2.2.2.2.1 j.2.2.2.2.2.2.2.2.2.2.2, smC E os f]) (bs2 := fun _ => OB E X hs w g g2 hg nx ct j ++ [smC E os f]) rfl (by decide) (fun _ => rfl) (by decide) (fun r u H locs hw hP hD hS => ?_)
                            subst hw
                            refine lv_iload hx hb dL_law_481 (lv_at hl 23 rfl) ?_
                            refine lv_iload hx hb dL_law_483 (lv_at hl 3 rfl) ?_
                            refine nv_iadd hx hb dL_law_485 ?_
                            refine nv_icmp_lt (X := ((g 8 6 : Nat) : Int)) (Y := ((ch + ea : Nat) : Int)) hx hb (nI_toInt (by omega)) (nI_toInt (by omega)) (tgt := 544) dL_law_486 (by decide) (fun c_18 => ?_) (fun c_18 => ?_)
                            · exact absurd c_18 (by omega)
                            · skip
                              have k505 : ∀ (jk505 : JT), JV jk505 → ∀ (H : Heap) (locs : List Loc) (ls : Array Slot), va_P E.1 vwCl (OB E X hs w g g2 hg nx ct jk505 ++ [smC E os f] : List va_W).flatten H → va_D A (OB E X hs w g g2 hg nx ct jk505 ++ [smC E os f] : List va_W).flatten → va_S A s.heap H locs → lv_has ls 32 [(0, .ref (E.2.2 202)), (1, .ref (X 0 0)), (2, .ref os), (3, .int (nI made)), (4, .int (nI k9)), (5, .int (nI n9)), (6, .long bf), (8, .int (nI kd)), (9, .int (nI sz)), (10, .int (nI m9)), (11, .int (nI beats)), (12, .int (nI ea)), (13, .int (nI tone)), (14, .int (nI tol)), (15, .int (nI fav)), (16, .int (nI qu)), (17, .int (nI ho)), (18, .int (nI be)), (19, .int (nI su)), (20, .int (nI ch)), (21, .int v21), (22, .int v22), (23, .int v23), (24, .int v24), (25, .int v25), (26, .int v26), (27, .int (nI bo)), (28, .int (nI ea)), (29, .int (nI 1)), (30, .int (nI 1)), (31, .int (nI 1))] → W p l e room_1 s m args below meth c H locs (cells + 1) (slots + 6) Q (F0 m 505 ls [.int (nI 1)]) := by
                                intro jk505 hjk505 H locs ls hP hD hS hl
                                refine lv_aload_n hx hb dL_law_505 rfl (lv_at hl 1 rfl) ?_
                                refine run_i (S := Unit) (run_V (As := []) (rest := [.int (nI 1)]) (bs := OB E X hs w g g2 hg nx ct jk505 ++ [smC E os f]) (cb := [coC E (X 0) (X 1) (X 2) (X 3) (X 4) (X 5) (X 6) (X 7) (X 8) w, stC E (X 1) g]) hx hb hml hown hts hK hZ hA (c_X5_chirps l E _ (X 0) (X 1) (X 2) (X 3) (X 4) (X 5) (X 6) (X 7) (X 8) w g B hI) l_L_200 rfl ⟨⟨rfl, rfl⟩, Nat.le_of_ble_eq_true rfl, Nat.le_of_ble_eq_true rfl⟩ 9 rfl [0, 1] rfl (by decide) rfl hP hD hS hl.1 rfl (Nat.le_of_ble_eq_true rfl) dL_law_506 ⟨by show (cells + 1) + 0 ≤ 800891; omega, by show (slots + 6) + 0 ≤ 6687511; omega⟩) hA hP hD hS (isC := [0, 1]) rfl [2, 3, 4, 5, 6, 7, 8, 9, 10] [9, 10, 0, 1, 2, 3, 4, 5, 6, 7, 8] (br := [stC E (X 2) g2, stC E (X 3) jk505.1, hhC E (X 4) hs hg nx ct, diC E (X 5) jk505.2.1 jk505.2.2.1, grC E (X 6) jk505.2.2.2.1 jk505.2.2.2.2.1, prC E (X 7) jk505.2.2.2.2.2.1 jk505.2.2.2.2.2.2.1, sbO E (X 8) jk505.2.2.2.2.2.2.2.1 jk505.2.2.2.2.2.2.2.2.1 jk505.2.2.2.2.2.2.2.2.2.1, baC E jk505.2.2.2.2.2.2.2.1 jk505.2.2.2.2.2.2.2.2.2.2.1 jk505.2.2.2.2.2.2.2.2.2.2.2, smC E os f]) (bs2 := fun _ => OB E X hs w g g2 hg nx ct jk505 ++ [smC E os f]) rfl (by decide) (fun _ => rfl) (by decide) (fun r u H locs hw hP hD hS => ?_)
                                subst hw
                                refine lv_iload hx hb dL_law_509 (lv_at hl 19 rfl) ?_
                                refine nv_isub hx hb (by omega) dL_law_511 ?_
                                refine lv_iload hx hb dL_law_512 (lv_at hl 27 rfl) ?_
                                refine nv_icmp_ne (X := (((g 8 6) - ch : Nat) : Int)) (Y := ((ea : Nat) : Int)) hx hb (nI_toInt (by omega)) (nI_toInt (by omega)) (tgt := 521) dL_law_514 (by decide) (fun c_19 => ?_) (fun c_19 => ?_)
                                · skip
                                  refine lv_iconst (v := nI 0) hx hb dL_law_521 (by decide) ?_
                                  refine lv_aload_n hx hb dL_law_522 rfl (lv_at hl 1 rfl) ?_
                                  refine lv_iconst (v := nI 0) hx hb dL_law_523 (by decide) ?_
                                  refine run_i (S := JT) (run_SX (As := [.ref (X 0 0), .int (nI 0)]) (rest := [.int (nI 0), .int (nI 1)]) (bs := OB E X hs w g g2 hg nx ct jk505 ++ [smC E os f]) (cb := OB E X hs w g g2 hg nx ct jk505) hx hb hml hown hts hK hZ hDD hA (c_L_spoiltBeat l hst E _ X hs w g g2 B hI hg nx ct hnx hct jk505 hjk505 (nI 0)) l_L_203 rfl ⟨⟨rfl, rfl⟩, Nat.le_of_ble_eq_true rfl, Nat.le_of_ble_eq_true rfl⟩ [0, 1, 2, 3, 4, 5, 6, 7, 8, 9] rfl (by decide) hP hD hS hl.1 rfl (Nat.le_of_ble_eq_true rfl) dL_law_524 ⟨by show (cells + 1) + 1 ≤ 800891; omega, by show (slots + 6) + 6 ≤ 6687511; omega⟩) hA hP hD hS (isC := [0, 1, 2, 3, 4, 5, 6, 7, 8, 9]) rfl [10] [1, 2, 3, 4, 5, 6, 7, 8, 9, 10, 0] (br := [smC E os f]) (bs2 := fun u => OB E X hs w g g2 hg nx ct u ++ [smC E os f]) rfl (by decide) (fun _ => rfl) (by decide) (fun r j_20 H locs hw hP hD hS => ?_)
                                  obtain ⟨hw, hj_21⟩ := hw
                                  refine tp_i hw ?_
                                  refine lv_iload hx hb dL_law_527 (lv_at hl 20 rfl) ?_
                                  refine nv_icmp_ne (X := (wsp g (nI 0)).toInt) (Y := v21.toInt) hx hb rfl rfl (tgt := 536) dL_law_529 (by decide) (fun c_22 => ?_) (fun c_22 => ?_)
                                  · skip
                                    refine lv_iconst (v := nI 0) hx hb dL_law_536 (by decide) ?_
                                    refine nv_icmp_ne (X := ((0 : Nat) : Int)) (Y := ((0 : Nat) : Int)) hx hb (nI_toInt (by omega)) (nI_toInt (by omega)) (tgt := 544) dL_law_537 (by decide) (fun c_23 => ?_) (fun c_23 => ?_)
                                    · exact absurd c_23 (by omega)
                                    · skip
                                      exact W_widen (by omega) (by omega) (k540 j_20 hj_21 _ _ _ hP hD hS (lv_sub hl [0, 1, 2, 3, 4, 5, 6, 7, 8, 9, 10, 11, 12, 13, 14, 15, 16, 17, 18, 19, 20, 21, 22, 23, 24, 25, 26, 27, 28, 29, 30] rfl))
                                  · exact absurd c_22 (by omega)
                                · skip
                                  refine lv_iconst (v := nI 1) hx hb dL_law_517 (by decide) ?_
                                  refine lv_goto (tgt := 522) hx hb dL_law_518 (by decide) ?_
                                  refine lv_aload_n hx hb dL_law_522 rfl (lv_at hl 1 rfl) ?_
                                  refine lv_iconst (v := nI 0) hx hb dL_law_523 (by decide) ?_
                                  refine run_i (S := JT) (run_SX (As := [.ref (X 0 0), .int (nI 0)]) (rest := [.int (nI 1), .int (nI 1)]) (bs := OB E X hs w g g2 hg nx ct jk505 ++ [smC E os f]) (cb := OB E X hs w g g2 hg nx ct jk505) hx hb hml hown hts hK hZ hDD hA (c_L_spoiltBeat l hst E _ X hs w g g2 B hI hg nx ct hnx hct jk505 hjk505 (nI 0)) l_L_203 rfl ⟨⟨rfl, rfl⟩, Nat.le_of_ble_eq_true rfl, Nat.le_of_ble_eq_true rfl⟩ [0, 1, 2, 3, 4, 5, 6, 7, 8, 9] rfl (by decide) hP hD hS hl.1 rfl (Nat.le_of_ble_eq_true rfl) dL_law_524 ⟨by show (cells + 1) + 1 ≤ 800891; omega, by show (slots + 6) + 6 ≤ 6687511; omega⟩) hA hP hD hS (isC := [0, 1, 2, 3, 4, 5, 6, 7, 8, 9]) rfl [10] [1, 2, 3, 4, 5, 6, 7, 8, 9, 10, 0] (br := [smC E os f]) (bs2 := fun u => OB E X hs w g g2 hg nx ct u ++ [smC E os f]) rfl (by decide) (fun _ => rfl) (by decide) (fun r j_24 H locs hw hP hD hS => ?_)
                                  obtain ⟨hw, hj_25⟩ := hw
                                  refine tp_i hw ?_
                                  refine lv_iload hx hb dL_law_527 (lv_at hl 20 rfl) ?_
                                  refine nv_icmp_ne (X := (wsp g (nI 0)).toInt) (Y := v21.toInt) hx hb rfl rfl (tgt := 536) dL_law_529 (by decide) (fun c_26 => ?_) (fun c_26 => ?_)
                                  · exact absurd c_26 (by omega)
                                  · skip
                                    refine lv_iconst (v := nI 1) hx hb dL_law_532 (by decide) ?_
                                    refine lv_goto (tgt := 537) hx hb dL_law_533 (by decide) ?_
                                    refine nv_icmp_ne (X := ((1 : Nat) : Int)) (Y := ((1 : Nat) : Int)) hx hb (nI_toInt (by omega)) (nI_toInt (by omega)) (tgt := 544) dL_law_537 (by decide) (fun c_27 => ?_) (fun c_27 => ?_)
                                    · exact absurd c_27 (by omega)
                                    · skip
                                      exact W_widen (by omega) (by omega) (k540 j_24 hj_25 _ _ _ hP hD hS (lv_sub hl [0, 1, 2, 3, 4, 5, 6, 7, 8, 9, 10, 11, 12, 13, 14, 15, 16, 17, 18, 19, 20, 21, 22, 23, 24, 25, 26, 27, 28, 29, 30] rfl))
                              refine lv_iload hx hb dL_law_489 (lv_at hl 12 rfl) ?_
                              refine nv_if_eq (X := ((sz : Nat) : Int)) hx hb (nI_toInt (by omega)) (tgt := 505) dL_law_491 (by decide) (fun c_28 => ?_) (fun c_28 => ?_)
                              · skip
                                exact W_widen (by omega) (by omega) (k505 j hj _ _ _ hP hD hS (lv_sub hl [4, 5, 6, 7, 8, 9, 10, 11, 12, 13, 14, 15, 16, 17, 18, 19, 20, 21, 22, 23, 24, 25, 26, 27, 28, 29, 30, 3, 2, 1, 0] rfl))
                              · skip
                                refine lv_aload_n hx hb dL_law_494 rfl (lv_at hl 5 rfl) ?_
                                refine lv_iload hx hb dL_law_495 (lv_at hl 13 rfl) ?_
                                refine run_i (S := JT) (run_SX (As := [.ref (X 0 0), .int (nI m9)]) (rest := [.int (nI 1)]) (bs := OB E X hs w g g2 hg nx ct j ++ [smC E os f]) (cb := OB E X hs w g g2 hg nx ct j) hx hb hml hown hts hK hZ hDD hA (c_L_spring l hst E _ X hs w g g2 B hI hg nx ct hnx hct j hj (nI m9)) l_L_213 rfl ⟨⟨rfl, rfl⟩, Nat.le_of_ble_eq_true rfl, Nat.le_of_ble_eq_true rfl⟩ [0, 1, 2, 3, 4, 5, 6, 7, 8, 9] rfl (by decide) hP hD hS hl.1 rfl (Nat.le_of_ble_eq_true rfl) dL_law_497 ⟨by show cells + 1 ≤ 800891; omega, by show slots + 6 ≤ 6687511; omega⟩) hA hP hD hS (isC := [0, 1, 2, 3, 4, 5, 6, 7, 8, 9]) rfl [10] [1, 2, 3, 4, 5, 6, 7, 8, 9, 10, 0] (br := [smC E os f]) (bs2 := fun u => OB E X hs w g g2 hg nx ct u ++ [smC E os f]) rfl (by decide) (fun _ => rfl) (by decide) (fun r j_29 H locs hw hP hD hS => ?_)
                                obtain ⟨hw, hj_30⟩ := hw
                                refine tp_i hw ?_
                                refine lv_iload hx hb dL_law_500 (lv_at hl 29 rfl) ?_
                                refine nv_icmp_gt (X := (wf g (g 4) (nI m9)).toInt) (Y := v26.toInt) hx hb rfl rfl (tgt := 544) dL_law_502 (by decide) (fun c_31 => ?_) (fun c_31 => ?_)
                                · exact absurd c_31 (by omega)
                                · skip
                                  exact W_widen (by omega) (by omega) (k505 j_29 hj_30 _ _ _ hP hD hS (lv_sub hl [4, 5, 6, 7, 8, 9, 10, 11, 12, 13, 14, 15, 16, 17, 18, 19, 20, 21, 22, 23, 24, 25, 26, 27, 28, 29, 30, 3, 2, 1, 0] rfl))
            · exact absurd c_6 (by omega)
      · exact absurd c_3 (by omega)
set_option maxHeartbeats 8000000 in
set_option maxRecDepth 100000 in
theorem chk_K5 {p : Program} {l : Launch} {e : Env} {s : State} {m : MethodId} {args : Array Value} {below : List Frame} {meth : Method} {c : Code} {E : EE} {A : Nat → Prop} {Q : State → Prop} (X hs : Nat → Nat → Nat) (os : Nat) (f : Nat → Int64) (w : Nat → Nat) (g g2 : GG) (B : Nat) (hI : IB B g) (hg : Nat → GG) (nx ct : Nat) (hnx : nx < 8) (hct : ct ≤ 8) (j : JT) (hj : JV j) (bf : Int64) (kd sz m9 beats ea tone tol fav qu ho be su ch bo made k9 n9 : Nat) (v21 v22 v23 v24 v25 v26 : Int32) (x22 x23 : Nat) (hsz : sz ≤ 8) (hm9 : m9 ≤ 8) (hbe : g 8 1 = be) (hch : g 8 6 = ch) (hk : 28 ≤ kd) (hk2 : kd < 31) (h0 : g 8 0 = sz) (hsu : su ≤ 300000) (h2 : g 8 2 = 0) (hxq : m9 < sz → v23 = nI x23 ∧ v22 = nI x22 ∧ g 5 m9 = x23 + x22) (C : LCL p l s m args c E A) {cells slots : Nat} (hcs : cells + 100 ≤ 800000 ∧ slots + 600 ≤ 6680000) (kk : ∀ (j9 : JT) (H : Heap) (locs : List Loc) (ls : Array Slot), JV j9 → va_P E.1 vwCl (OB E X hs w g g2 hg nx ct j9 ++ [smC E os f] : List va_W).flatten H → va_D A (OB E X hs w g g2 hg nx ct j9 ++ [smC E os f] : List va_W).flatten → va_S A s.heap H locs → lv_has ls 32 [(0, .ref (E.2.2 202)), (1, .ref (X 0 0)), (2, .ref os), (3, .int (nI made)), (4, .int (nI k9)), (5, .int (nI n9)), (6, .long bf), (29, .int (nI 1)), (30, .int (nI 1))] → W p l e room_1 s m args below meth c H locs (cells + 40) (slots + 240) Q (F0 m 745 ls [])) {H : Heap} {locs : List Loc} {ls : Array Slot} (hP : va_P E.1 vwCl (OB E X hs w g g2 hg nx ct j ++ [smC E os f] : List va_W).flatten H) (hD : va_D A (OB E X hs w g g2 hg nx ct j ++ [smC E os f] : List va_W).flatten) (hS : va_S A s.heap H locs) (hl : lv_has ls 32 [(0, .ref (E.2.2 202)), (1, .ref (X 0 0)), (2, .ref os), (3, .int (nI made)), (4, .int (nI k9)), (5, .int (nI n9)), (6, .long bf), (8, .int (nI kd)), (9, .int (nI sz)), (10, .int (nI m9)), (11, .int (nI beats)), (12, .int (nI ea)), (13, .int (nI tone)), (14, .int (nI tol)), (15, .int (nI fav)), (16, .int (nI qu)), (17, .int (nI ho)), (18, .int (nI be)), (19, .int (nI su)), (20, .int (nI ch)), (21, .int v21), (22, .int v22), (23, .int v23), (24, .int v24), (25, .int v25), (26, .int v26), (27, .int (nI bo))]) : W p l e room_1 s m args below meth c H locs cells slots Q (F0 m 276 ls [.int (nI su)]) := by
  have C0 := C
  obtain ⟨hx, hb, hml, hown, hts, hK, hZ, hDD, hA, hst, hL⟩ := C
  have hmc := hI.mc
  have hbud := hI.bud
  refine lv_istore (lv' := [(28, .int (nI su)), (0, .ref (E.2.2 202)), (1, .ref (X 0 0)), (2, .ref os), (3, .int (nI made)), (4, .int (nI k9)), (5, .int (nI n9)), (6, .long bf), (8, .int (nI kd)), (9, .int (nI sz)), (10, .int (nI m9)), (11, .int (nI beats)), (12, .int (nI ea)), (13, .int (nI tone)), (14, .int (nI tol)), (15, .int (nI fav)), (16, .int (nI qu)), (17, .int (nI ho)), (18, .int (nI be)), (19, .int (nI su)), (20, .int (nI ch)), (21, .int v21), (22, .int v22), (23, .int v23), (24, .int v24), (25, .int v25), (26, .int v26), (27, .int (nI bo))]) hx hb dL_law_276 hl (by decide) rfl (fun ls hl => ?_)
  refine lv_iload hx hb dL_law_278 (lv_at hl 0 rfl) ?_
  refine lv_bipush (v := -70) hx hb dL_law_280 (by decide) ?_
  refine nv_icmp_le (X := ((su : Nat) : Int)) (Y := (-70)) hx hb (nI_toInt (by omega)) (by decide) (tgt := 289) dL_law_282 (by decide) (fun c_1 => ?_) (fun c_1 => ?_)
  · exact absurd c_1 (by omega)
  · skip
    refine lv_iconst (v := nI 1) hx hb dL_law_285 (by decide) ?_
    refine lv_goto (tgt := 290) hx hb dL_law_286 (by decide) ?_
    refine lv_istore (lv' := [(29, .int (nI 1)), (28, .int (nI su)), (0, .ref (E.2.2 202)), (1, .ref (X 0 0)), (2, .ref os), (3, .int (nI made)), (4, .int (nI k9)), (5, .int (nI n9)), (6, .long bf), (8, .int (nI kd)), (9, .int (nI sz)), (10, .int (nI m9)), (11, .int (nI beats)), (12, .int (nI ea)), (13, .int (nI tone)), (14, .int (nI tol)), (15, .int (nI fav)), (16, .int (nI qu)), (17, .int (nI ho)), (18, .int (nI be)), (19, .int (nI su)), (20, .int (nI ch)), (21, .int v21), (22, .int v22), (23, .int v23), (24, .int v24), (25, .int v25), (26, .int v26), (27, .int (nI bo))]) hx hb dL_law_290 hl (by decide) rfl (fun ls hl => ?_)
    refine lv_iload hx hb dL_law_292 (lv_at hl 0 rfl) ?_
    refine nv_if_eq (X := ((1 : Nat) : Int)) hx hb (nI_toInt (by omega)) (tgt := 337) dL_law_294 (by decide) (fun c_2 => ?_) (fun c_2 => ?_)
    · exact absurd c_2 (by omega)
    · skip
      refine lv_iload hx hb dL_law_297 (lv_at hl 9 rfl) ?_
      refine lv_iconst (v := nI 3) hx hb dL_law_299 (by decide) ?_
      refine nv_icmp_gt (X := ((kd : Nat) : Int)) (Y := ((3 : Nat) : Int)) hx hb (nI_toInt (by omega)) (nI_toInt (by omega)) (tgt := 337) dL_law_300 (by decide) (fun c_3 => ?_) (fun c_3 => ?_)
      · skip
        refine lv_iconst (v := nI 1) hx hb dL_law_337 (by decide) ?_
        refine lv_goto (tgt := 342) hx hb dL_law_338 (by decide) ?_
        refine lv_istore (lv' := [(30, .int (nI 1)), (29, .int (nI 1)), (28, .int (nI su)), (0, .ref (E.2.2 202)), (1, .ref (X 0 0)), (2, .ref os), (3, .int (nI made)), (4, .int (nI k9)), (5, .int (nI n9)), (6, .long bf), (8, .int (nI kd)), (9, .int (nI sz)), (10, .int (nI m9)), (11, .int (nI beats)), (12, .int (nI ea)), (13, .int (nI tone)), (14, .int (nI tol)), (15, .int (nI fav)), (16, .int (nI qu)), (17, .int (nI ho)), (18, .int (nI be)), (19, .int (nI su)), (20, .int (nI ch)), (21, .int v21), (22, .int v22), (23, .int v23), (24, .int v24), (25, .int v25), (26, .int v26), (27, .int (nI bo))]) hx hb dL_law_342 hl (by decide) rfl (fun ls hl => ?_)
        refine lv_iload hx hb dL_law_344 (lv_at hl 0 rfl) ?_
        refine lv_iload hx hb dL_law_346 (lv_at hl 1 rfl) ?_
        refine nv_if_eq (X := ((1 : Nat) : Int)) hx hb (nI_toInt (by omega)) (tgt := 405) dL_law_348 (by decide) (fun c_4 => ?_) (fun c_4 => ?_)
        · exact absurd c_4 (by omega)
        · skip
          refine lv_iload hx hb dL_law_351 (lv_at hl 10 rfl) ?_
          refine lv_bipush (v := nI 16) hx hb dL_law_353 (by decide) ?_
          refine nv_icmp_lt (X := ((kd : Nat) : Int)) (Y := ((16 : Nat) : Int)) hx hb (nI_toInt (by omega)) (nI_toInt (by omega)) (tgt := 405) dL_law_355 (by decide) (fun c_5 => ?_) (fun c_5 => ?_)
          · exact absurd c_5 (by omega)
          · skip
            refine lv_iload hx hb dL_law_358 (lv_at hl 10 rfl) ?_
            refine lv_bipush (v := nI 18) hx hb dL_law_360 (by decide) ?_
            refine nv_icmp_gt (X := ((kd : Nat) : Int)) (Y := ((18 : Nat) : Int)) hx hb (nI_toInt (by omega)) (nI_toInt (by omega)) (tgt := 405) dL_law_362 (by decide) (fun c_6 => ?_) (fun c_6 => ?_)
            · skip
              refine lv_iconst (v := nI 1) hx hb dL_law_405 (by decide) ?_
              refine lv_goto (tgt := 410) hx hb dL_law_406 (by decide) ?_
              refine lv_iand hx hb dL_law_410 ?_
              refine tp_i (show nI 1 &&& nI 1 = nI 1 from by decide) ?_
              refine lv_istore (lv' := [(30, .int (nI 1)), (29, .int (nI 1)), (28, .int (nI su)), (0, .ref (E.2.2 202)), (1, .ref (X 0 0)), (2, .ref os), (3, .int (nI made)), (4, .int (nI k9)), (5, .int (nI n9)), (6, .long bf), (8, .int (nI kd)), (9, .int (nI sz)), (10, .int (nI m9)), (11, .int (nI beats)), (12, .int (nI ea)), (13, .int (nI tone)), (14, .int (nI tol)), (15, .int (nI fav)), (16, .int (nI qu)), (17, .int (nI ho)), (18, .int (nI be)), (19, .int (nI su)), (20, .int (nI ch)), (21, .int v21), (22, .int v22), (23, .int v23), (24, .int v24), (25, .int v25), (26, .int v26), (27, .int (nI bo))]) hx hb dL_law_411 hl (by decide) rfl (fun ls hl => ?_)
              refine lv_iload hx hb dL_law_413 (lv_at hl 1 rfl) ?_
              refine nv_if_eq (X := ((1 : Nat) : Int)) hx hb (nI_toInt (by omega)) (tgt := 436) dL_law_415 (by decide) (fun c_7 => ?_) (fun c_7 => ?_)
              · exact absurd c_7 (by omega)
              · skip
                refine lv_iload hx hb dL_law_418 (lv_at hl 10 rfl) ?_
                refine lv_bipush (v := nI 18) hx hb dL_law_420 (by decide) ?_
                refine nv_icmp_le (X := ((kd : Nat) : Int)) (Y := ((18 : Nat) : Int)) hx hb (nI_toInt (by omega)) (nI_toInt (by omega)) (tgt := 436) dL_law_422 (by decide) (fun c_8 => ?_) (fun c_8 => ?_)
                · exact absurd c_8 (by omega)
                · skip
                  refine lv_iload hx hb dL_law_425 (lv_at hl 10 rfl) ?_
                  refine lv_bipush (v := nI 28) hx hb dL_law_427 (by decide) ?_
                  refine nv_icmp_ge (X := ((kd : Nat) : Int)) (Y := ((28 : Nat) : Int)) hx hb (nI_toInt (by omega)) (nI_toInt (by omega)) (tgt := 436) dL_law_429 (by decide) (fun c_9 => ?_) (fun c_9 => ?_)
                  · skip
                    refine lv_iconst (v := nI 0) hx hb dL_law_436 (by decide) ?_
                    refine lv_istore (lv' := [(31, .int (nI 0)), (30, .int (nI 1)), (29, .int (nI 1)), (28, .int (nI su)), (0, .ref (E.2.2 202)), (1, .ref (X 0 0)), (2, .ref os), (3, .int (nI made)), (4, .int (nI k9)), (5, .int (nI n9)), (6, .long bf), (8, .int (nI kd)), (9, .int (nI sz)), (10, .int (nI m9)), (11, .int (nI beats)), (12, .int (nI ea)), (13, .int (nI tone)), (14, .int (nI tol)), (15, .int (nI fav)), (16, .int (nI qu)), (17, .int (nI ho)), (18, .int (nI be)), (19, .int (nI su)), (20, .int (nI ch)), (21, .int v21), (22, .int v22), (23, .int v23), (24, .int v24), (25, .int v25), (26, .int v26), (27, .int (nI bo))]) hx hb dL_law_437 hl (by decide) rfl (fun ls hl => ?_)
                    refine lv_iload hx hb dL_law_439 (lv_at hl 1 rfl) ?_
                    refine lv_iload hx hb dL_law_441 (lv_at hl 0 rfl) ?_
                    refine nv_if_eq (X := ((0 : Nat) : Int)) hx hb (nI_toInt (by omega)) (tgt := 540) dL_law_443 (by decide) (fun c_10 => ?_) (fun c_10 => ?_)
                    · skip
                      refine lv_iconst (v := nI 1) hx hb dL_law_540 (by decide) ?_
                      refine lv_goto (tgt := 545) hx hb dL_law_541 (by decide) ?_
                      refine lv_iand hx hb dL_law_545 ?_
                      refine tp_i (show nI 1 &&& nI 1 = nI 1 from by decide) ?_
                      refine lv_istore (lv' := [(30, .int (nI 1)), (31, .int (nI 0)), (29, .int (nI 1)), (28, .int (nI su)), (0, .ref (E.2.2 202)), (1, .ref (X 0 0)), (2, .ref os), (3, .int (nI made)), (4, .int (nI k9)), (5, .int (nI n9)), (6, .long bf), (8, .int (nI kd)), (9, .int (nI sz)), (10, .int (nI m9)), (11, .int (nI beats)), (12, .int (nI ea)), (13, .int (nI tone)), (14, .int (nI tol)), (15, .int (nI fav)), (16, .int (nI qu)), (17, .int (nI ho)), (18, .int (nI be)), (19, .int (nI su)), (20, .int (nI ch)), (21, .int v21), (22, .int v22), (23, .int v23), (24, .int v24), (25, .int v25), (26, .int v26), (27, .int (nI bo))]) hx hb dL_law_546 hl (by decide) rfl (fun ls hl => ?_)
                      refine lv_iload hx hb dL_law_548 (lv_at hl 0 rfl) ?_
                      refine lv_iload hx hb dL_law_550 (lv_at hl 2 rfl) ?_
                      refine nv_if_eq (X := ((1 : Nat) : Int)) hx hb (nI_toInt (by omega)) (tgt := 604) dL_law_552 (by decide) (fun c_11 => ?_) (fun c_11 => ?_)
                      · exact absurd c_11 (by omega)
                      · skip
                        refine lv_iload hx hb dL_law_555 (lv_at hl 11 rfl) ?_
                        refine lv_bipush (v := nI 28) hx hb dL_law_557 (by decide) ?_
                        refine nv_icmp_lt (X := ((kd : Nat) : Int)) (Y := ((28 : Nat) : Int)) hx hb (nI_toInt (by omega)) (nI_toInt (by omega)) (tgt := 604) dL_law_559 (by decide) (fun c_12 => ?_) (fun c_12 => ?_)
                        · exact absurd c_12 (by omega)
                        · skip
                          refine lv_iload hx hb dL_law_562 (lv_at hl 11 rfl) ?_
                          refine lv_bipush (v := nI 30) hx hb dL_law_564 (by decide) ?_
                          refine nv_icmp_gt (X := ((kd : Nat) : Int)) (Y := ((30 : Nat) : Int)) hx hb (nI_toInt (by omega)) (nI_toInt (by omega)) (tgt := 604) dL_law_566 (by decide) (fun c_13 => ?_) (fun c_13 => ?_)
                          · exact absurd c_13 (by omega)
                          · skip
                            refine lv_iload hx hb dL_law_569 (lv_at hl 3 rfl) ?_
                            refine lv_iload hx hb dL_law_571 (lv_at hl 22 rfl) ?_
                            refine nv_icmp_ne (X := ((su : Nat) : Int)) (Y := ((su : Nat) : Int)) hx hb (nI_toInt (by omega)) (nI_toInt (by omega)) (tgt := 608) dL_law_573 (by decide) (fun c_14 => ?_) (fun c_14 => ?_)
                            · exact absurd c_14 (by omega)
                            · skip
                              refine lv_aload_n hx hb dL_law_576 rfl (lv_at hl 5 rfl) ?_
                              refine run_i (S := Unit) (run_V (As := []) (rest := [.int (nI 1)]) (bs := OB E X hs w g g2 hg nx ct j ++ [smC E os f]) (cb := [coC E (X 0) (X 1) (X 2) (X 3) (X 4) (X 5) (X 6) (X 7) (X 8) w, stC E (X 1) g]) hx hb hml hown hts hK hZ hA (c_X5_surplus l E _ (X 0) (X 1) (X 2) (X 3) (X 4) (X 5) (X 6) (X 7) (X 8) w g B hI) l_L_197 rfl ⟨⟨rfl, rfl⟩, Nat.le_of_ble_eq_true rfl, Nat.le_of_ble_eq_true rfl⟩ 9 rfl [0, 1] rfl (by decide) rfl hP hD hS hl.1 rfl (Nat.le_of_ble_eq_true rfl) dL_law_577 ⟨by show cells + 0 ≤ 800891; omega, by show slots + 0 ≤ 6687511; omega⟩) hA hP hD hS (isC := [0, 1]) rfl [2, 3, 4, 5, 6, 7, 8, 9, 10] [9, 10, 0, 1, 2, 3, 4, 5, 6, 7, 8] (br := [stC E (X 2) g2, stC E (X 3) j.1, hhC E (X 4) hs hg nx ct, diC E (X 5) j.2.1 j.2.2.1, grC E (X 6) j.2.2.2.1 j.2.2.2.2.1, prC E (X 7) j.2.2.2.2.2.1 j.2.2.2.2.2.2.1, sbO E (X 8) j.2.2.2.2.2.2.2.1 j.2.2.2.2.2.2.2.2.1 j.2.2.2.2.2.2.2.2.2.1, baC E j.2.2.2.2.2.2.2.1 j.2.2.2.2.2.2.2.2.2.2.1 j.2.2.2.2.2.2.2.2.2.2.2, smC E os f]) (bs2 := fun _ => OB E X hs w g g2 hg nx ct j ++ [smC E os f]) rfl (by decide) (fun _ => rfl) (by decide) (fun r u H locs hw hP hD hS => ?_)
                              subst hw
                              refine nv_if_ne (X := ((g 8 2 : Nat) : Int)) hx hb (nI_toInt (by omega)) (tgt := 608) dL_law_580 (by decide) (fun c_15 => ?_) (fun c_15 => ?_)
                              · exact absurd c_15 (by omega)
                              · skip
                                have k604 : ∀ (jk604 : JT), JV jk604 → ∀ (H : Heap) (locs : List Loc) (ls : Array Slot), va_P E.1 vwCl (OB E X hs w g g2 hg nx ct jk604 ++ [smC E os f] : List va_W).flatten H → va_D A (OB E X hs w g g2 hg nx ct jk604 ++ [smC E os f] : List va_W).flatten → va_S A s.heap H locs → lv_has ls 32 [(0, .ref (E.2.2 202)), (1, .ref (X 0 0)), (2, .ref os), (3, .int (nI made)), (4, .int (nI k9)), (5, .int (nI n9)), (6, .long bf), (8, .int (nI kd)), (9, .int (nI sz)), (10, .int (nI m9)), (11, .int (nI beats)), (12, .int (nI ea)), (13, .int (nI tone)), (14, .int (nI tol)), (15, .int (nI fav)), (16, .int (nI qu)), (17, .int (nI ho)), (18, .int (nI be)), (19, .int (nI su)), (20, .int (nI ch)), (21, .int v21), (24, .int v24), (25, .int v25), (26, .int v26), (27, .int (nI bo)), (28, .int (nI su)), (29, .int (nI 1)), (30, .int (nI 1)), (31, .int (nI 0))] → W p l e room_1 s m args below meth c H locs (cells + 1) (slots + 6) Q (F0 m 604 ls [.int (nI 1)]) := by
                                  intro jk604 hjk604 H locs ls hP hD hS hl
                                  refine lv_iconst (v := nI 1) hx hb dL_law_604 (by decide) ?_
                                  refine lv_goto (tgt := 609) hx hb dL_law_605 (by decide) ?_
                                  refine lv_iand hx hb dL_law_609 ?_
                                  refine tp_i (show nI 1 &&& nI 1 = nI 1 from by decide) ?_
                                  refine lv_istore (lv' := [(30, .int (nI 1)), (0, .ref (E.2.2 202)), (1, .ref (X 0 0)), (2, .ref os), (3, .int (nI made)), (4, .int (nI k9)), (5, .int (nI n9)), (6, .long bf), (8, .int (nI kd)), (9, .int (nI sz)), (10, .int (nI m9)), (11, .int (nI beats)), (12, .int (nI ea)), (13, .int (nI tone)), (14, .int (nI tol)), (15, .int (nI fav)), (16, .int (nI qu)), (17, .int (nI ho)), (18, .int (nI be)), (19, .int (nI su)), (20, .int (nI ch)), (21, .int v21), (24, .int v24), (25, .int v25), (26, .int v26), (27, .int (nI bo)), (28, .int (nI su)), (29, .int (nI 1)), (31, .int (nI 0))]) hx hb dL_law_610 hl (by decide) rfl (fun ls hl => ?_)
                                  refine lv_iload hx hb dL_law_612 (lv_at hl 0 rfl) ?_
                                  refine lv_iload hx hb dL_law_614 (lv_at hl 8 rfl) ?_
                                  refine lv_bipush (v := nI 31) hx hb dL_law_616 (by decide) ?_
                                  refine nv_icmp_lt (X := ((kd : Nat) : Int)) (Y := ((31 : Nat) : Int)) hx hb (nI_toInt (by omega)) (nI_toInt (by omega)) (tgt := 697) dL_law_618 (by decide) (fun c_16 => ?_) (fun c_16 => ?_)
                                  · skip
                                    refine lv_iconst (v := nI 1) hx hb dL_law_697 (by decide) ?_
                                    refine lv_goto (tgt := 702) hx hb dL_law_698 (by decide) ?_
                                    refine lv_iand hx hb dL_law_702 ?_
                                    refine tp_i (show nI 1 &&& nI 1 = nI 1 from by decide) ?_
                                    refine lv_istore (lv' := [(30, .int (nI 1)), (0, .ref (E.2.2 202)), (1, .ref (X 0 0)), (2, .ref os), (3, .int (nI made)), (4, .int (nI k9)), (5, .int (nI n9)), (6, .long bf), (8, .int (nI kd)), (9, .int (nI sz)), (10, .int (nI m9)), (11, .int (nI beats)), (12, .int (nI ea)), (13, .int (nI tone)), (14, .int (nI tol)), (15, .int (nI fav)), (16, .int (nI qu)), (17, .int (nI ho)), (18, .int (nI be)), (19, .int (nI su)), (20, .int (nI ch)), (21, .int v21), (24, .int v24), (25, .int v25), (26, .int v26), (27, .int (nI bo)), (28, .int (nI su)), (29, .int (nI 1)), (31, .int (nI 0))]) hx hb dL_law_703 hl (by decide) rfl (fun ls hl => ?_)
                                    refine lv_iload hx hb dL_law_705 (lv_at hl 0 rfl) ?_
                                    refine lv_iload hx hb dL_law_707 (lv_at hl 28 rfl) ?_
                                    refine nv_if_ne (X := ((0 : Nat) : Int)) hx hb (nI_toInt (by omega)) (tgt := 737) dL_law_709 (by decide) (fun c_17 => ?_) (fun c_17 => ?_)
                                    · exact absurd c_17 (by omega)
                                    · skip
                                      refine lv_iload hx hb dL_law_712 (lv_at hl 8 rfl) ?_
                                      refine lv_bipush (v := nI 35) hx hb dL_law_714 (by decide) ?_
                                      refine nv_icmp_gt (X := ((kd : Nat) : Int)) (Y := ((35 : Nat) : Int)) hx hb (nI_toInt (by omega)) (nI_toInt (by omega)) (tgt := 737) dL_law_716 (by decide) (fun c_18 => ?_) (fun c_18 => ?_)
                                      · exact absurd c_18 (by omega)
                                      · skip
                                        refine lv_aload_n hx hb dL_law_719 rfl (lv_at hl 2 rfl) ?_
                                        refine run_i (S := Unit) (run_V (As := []) (rest := [.int (nI 1)]) (bs := OB E X hs w g g2 hg nx ct jk604 ++ [smC E os f]) (cb := [coC E (X 0) (X 1) (X 2) (X 3) (X 4) (X 5) (X 6) (X 7) (X 8) w, stC E (X 1) g]) hx hb hml hown hts hK hZ hA (c_X5_beat l E _ (X 0) (X 1) (X 2) (X 3) (X 4) (X 5) (X 6) (X 7) (X 8) w g B hI) l_L_194 rfl ⟨⟨rfl, rfl⟩, Nat.le_of_ble_eq_true rfl, Nat.le_of_ble_eq_true rfl⟩ 9 rfl [0, 1] rfl (by decide) rfl hP hD hS hl.1 rfl (Nat.le_of_ble_eq_true rfl) dL_law_720 ⟨by show (cells + 1) + 0 ≤ 800891; omega, by show (slots + 6) + 0 ≤ 6687511; omega⟩) hA hP hD hS (isC := [0, 1]) rfl [2, 3, 4, 5, 6, 7, 8, 9, 10] [9, 10, 0, 1, 2, 3, 4, 5, 6, 7, 8] (br := [stC E (X 2) g2, stC E (X 3) jk604.1, hhC E (X 4) hs hg nx ct, diC E (X 5) jk604.2.1 jk604.2.2.1, grC E (X 6) jk604.2.2.2.1 jk604.2.2.2.2.1, prC E (X 7) jk604.2.2.2.2.2.1 jk604.2.2.2.2.2.2.1, sbO E (X 8) jk604.2.2.2.2.2.2.2.1 jk604.2.2.2.2.2.2.2.2.1 jk604.2.2.2.2.2.2.2.2.2.1, baC E jk604.2.2.2.2.2.2.2.1 jk604.2.2.2.2.2.2.2.2.2.2.1 jk604.2.2.2.2.2.2.2.2.2.2.2, smC E os f]) (bs2 := fun _ => OB E X hs w g g2 hg nx ct jk604 ++ [smC E os f]) rfl (by decide) (fun _ => rfl) (by decide) (fun r u H locs hw hP hD hS => ?_)
                                        subst hw
                                        refine lv_iload hx hb dL_law_723 (lv_at hl 18 rfl) ?_
                                        refine nv_icmp_ne (X := ((g 8 1 : Nat) : Int)) (Y := ((be : Nat) : Int)) hx hb (nI_toInt (by omega)) (nI_toInt (by omega)) (tgt := 741) dL_law_725 (by decide) (fun c_19 => ?_) (fun c_19 => ?_)
                                        · exact absurd c_19 (by omega)
                                        · skip
                                          refine lv_aload_n hx hb dL_law_728 rfl (lv_at hl 2 rfl) ?_
                                          refine run_i (S := Unit) (run_V (As := []) (rest := [.int (nI 1)]) (bs := OB E X hs w g g2 hg nx ct jk604 ++ [smC E os f]) (cb := [coC E (X 0) (X 1) (X 2) (X 3) (X 4) (X 5) (X 6) (X 7) (X 8) w, stC E (X 1) g]) hx hb hml hown hts hK hZ hA (c_X5_chirps l E _ (X 0) (X 1) (X 2) (X 3) (X 4) (X 5) (X 6) (X 7) (X 8) w g B hI) l_L_200 rfl ⟨⟨rfl, rfl⟩, Nat.le_of_ble_eq_true rfl, Nat.le_of_ble_eq_true rfl⟩ 9 rfl [0, 1] rfl (by decide) rfl hP hD hS hl.1 rfl (Nat.le_of_ble_eq_true rfl) dL_law_729 ⟨by show (cells + 1) + 0 ≤ 800891; omega, by show (slots + 6) + 0 ≤ 6687511; omega⟩) hA hP hD hS (isC := [0, 1]) rfl [2, 3, 4, 5, 6, 7, 8, 9, 10] [9, 10, 0, 1, 2, 3, 4, 5, 6, 7, 8] (br := [stC E (X 2) g2, stC E (X 3) jk604.1, hhC E (X 4) hs hg nx ct, diC E (X 5) jk604.2.1 jk604.2.2.1, grC E (X 6) jk604.2.2.2.1 jk604.2.2.2.2.1, prC E (X 7) jk604.2.2.2.2.2.1 jk604.2.2.2.2.2.2.1, sbO E (X 8) jk604.2.2.2.2.2.2.2.1 jk604.2.2.2.2.2.2.2.2.1 jk604.2.2.2.2.2.2.2.2.2.1, baC E jk604.2.2.2.2.2.2.2.1 jk604.2.2.2.2.2.2.2.2.2.2.1 jk604.2.2.2.2.2.2.2.2.2.2.2, smC E os f]) (bs2 := fun _ => OB E X hs w g g2 hg nx ct jk604 ++ [smC E os f]) rfl (by decide) (fun _ => rfl) (by decide) (fun r u H locs hw hP hD hS => ?_)
                                          subst hw
                                          refine lv_iload hx hb dL_law_732 (lv_at hl 20 rfl) ?_
                                          refine nv_icmp_ne (X := ((g 8 6 : Nat) : Int)) (Y := ((ch : Nat) : Int)) hx hb (nI_toInt (by omega)) (nI_toInt (by omega)) (tgt := 741) dL_law_734 (by decide) (fun c_20 => ?_) (fun c_20 => ?_)
                                          · exact absurd c_20 (by omega)
                                          · skip
                                            refine lv_iconst (v := nI 1) hx hb dL_law_737 (by decide) ?_
                                            refine lv_goto (tgt := 742) hx hb dL_law_738 (by decide) ?_
                                            refine lv_iand hx hb dL_law_742 ?_
                                            refine tp_i (show nI 1 &&& nI 1 = nI 1 from by decide) ?_
                                            refine lv_istore (lv' := [(30, .int (nI 1)), (0, .ref (E.2.2 202)), (1, .ref (X 0 0)), (2, .ref os), (3, .int (nI made)), (4, .int (nI k9)), (5, .int (nI n9)), (6, .long bf), (8, .int (nI kd)), (9, .int (nI sz)), (10, .int (nI m9)), (11, .int (nI beats)), (12, .int (nI ea)), (13, .int (nI tone)), (14, .int (nI tol)), (15, .int (nI fav)), (16, .int (nI qu)), (17, .int (nI ho)), (18, .int (nI be)), (19, .int (nI su)), (20, .int (nI ch)), (21, .int v21), (24, .int v24), (25, .int v25), (26, .int v26), (27, .int (nI bo)), (28, .int (nI su)), (29, .int (nI 1)), (31, .int (nI 0))]) hx hb dL_law_743 hl (by decide) rfl (fun ls hl => ?_)
                                            exact W_widen (by omega) (by omega) (kk jk604 _ _ _ hjk604 hP hD hS (lv_sub hl [1, 2, 3, 4, 5, 6, 7, 27, 0] rfl))
                                  · exact absurd c_16 (by omega)
                                refine lv_iload hx hb dL_law_583 (lv_at hl 13 rfl) ?_
                                refine lv_iload hx hb dL_law_585 (lv_at hl 12 rfl) ?_
                                refine nv_icmp_ge (X := ((m9 : Nat) : Int)) (Y := ((sz : Nat) : Int)) hx hb (nI_toInt (by omega)) (nI_toInt (by omega)) (tgt := 604) dL_law_587 (by decide) (fun c_21 => ?_) (fun c_21 => ?_)
                                · skip
                                  exact W_widen (by omega) (by omega) (k604 j hj _ _ _ hP hD hS (lv_sub hl [4, 5, 6, 7, 8, 9, 10, 11, 12, 13, 14, 15, 16, 17, 18, 19, 20, 21, 22, 23, 24, 27, 28, 29, 30, 3, 2, 0, 1] rfl))
                                · skip
                                  obtain ⟨hv23, hv22, h5⟩ := hxq (by omega)
                                  have hpu := hI.pu (m := m9) (by omega)
                                  have hl : lv_has ls 32 [(30, .int (nI 1)), (31, .int (nI 0)), (29, .int (nI 1)), (28, .int (nI su)), (0, .ref (E.2.2 202)), (1, .ref (X 0 0)), (2, .ref os), (3, .int (nI made)), (4, .int (nI k9)), (5, .int (nI n9)), (6, .long bf), (8, .int (nI kd)), (9, .int (nI sz)), (10, .int (nI m9)), (11, .int (nI beats)), (12, .int (nI ea)), (13, .int (nI tone)), (14, .int (nI tol)), (15, .int (nI fav)), (16, .int (nI qu)), (17, .int (nI ho)), (18, .int (nI be)), (19, .int (nI su)), (20, .int (nI ch)), (21, .int v21), (22, .int v22), (23, .int (nI x23)), (24, .int v24), (25, .int v25), (26, .int v26), (27, .int (nI bo))] := by rw [show nI x23 = v23 from hv23.symm]; exact hl
                                  have hl : lv_has ls 32 [(30, .int (nI 1)), (31, .int (nI 0)), (29, .int (nI 1)), (28, .int (nI su)), (0, .ref (E.2.2 202)), (1, .ref (X 0 0)), (2, .ref os), (3, .int (nI made)), (4, .int (nI k9)), (5, .int (nI n9)), (6, .long bf), (8, .int (nI kd)), (9, .int (nI sz)), (10, .int (nI m9)), (11, .int (nI beats)), (12, .int (nI ea)), (13, .int (nI tone)), (14, .int (nI tol)), (15, .int (nI fav)), (16, .int (nI qu)), (17, .int (nI ho)), (18, .int (nI be)), (19, .int (nI su)), (20, .int (nI ch)), (21, .int v21), (22, .int (nI x22)), (23, .int (nI x23)), (24, .int v24), (25, .int v25), (26, .int v26), (27, .int (nI bo))] := by rw [show nI x22 = v22 from hv22.symm]; exact hl
                                  refine lv_aload_n hx hb dL_law_590 rfl (lv_at hl 5 rfl) ?_
                                  refine lv_iload hx hb dL_law_591 (lv_at hl 13 rfl) ?_
                                  refine run_i (S := JT) (run_SX (As := [.ref (X 0 0), .int (nI m9)]) (rest := [.int (nI 1)]) (bs := OB E X hs w g g2 hg nx ct j ++ [smC E os f]) (cb := OB E X hs w g g2 hg nx ct j) hx hb hml hown hts hK hZ hDD hA (c_L_purse l hst E _ X hs w g g2 B hI hg nx ct hnx hct j hj (nI m9)) l_L_207 rfl ⟨⟨rfl, rfl⟩, Nat.le_of_ble_eq_true rfl, Nat.le_of_ble_eq_true rfl⟩ [0, 1, 2, 3, 4, 5, 6, 7, 8, 9] rfl (by decide) hP hD hS hl.1 rfl (Nat.le_of_ble_eq_true rfl) dL_law_593 ⟨by show cells + 1 ≤ 800891; omega, by show slots + 6 ≤ 6687511; omega⟩) hA hP hD hS (isC := [0, 1, 2, 3, 4, 5, 6, 7, 8, 9]) rfl [10] [1, 2, 3, 4, 5, 6, 7, 8, 9, 10, 0] (br := [smC E os f]) (bs2 := fun u => OB E X hs w g g2 hg nx ct u ++ [smC E os f]) rfl (by decide) (fun _ => rfl) (by decide) (fun r j_22 H locs hw hP hD hS => ?_)
                                  obtain ⟨hw, hj_23⟩ := hw
                                  refine tp_i hw ?_
                                  refine tp_i (show wf g (g 5) (nI m9) = nI (g 5 m9) from wf_in hmc (by omega)) ?_
                                  refine lv_iload hx hb dL_law_596 (lv_at hl 26 rfl) ?_
                                  refine lv_iload hx hb dL_law_598 (lv_at hl 25 rfl) ?_
                                  refine nv_iadd hx hb dL_law_600 ?_
                                  refine nv_icmp_ne (X := ((g 5 m9 : Nat) : Int)) (Y := ((x23 + x22 : Nat) : Int)) hx hb (nI_toInt (by omega)) (nI_toInt (by omega)) (tgt := 608) dL_law_601 (by decide) (fun c_24 => ?_) (fun c_24 => ?_)
                                  · exact absurd c_24 (by omega)
                                  · skip
                                    exact W_widen (by omega) (by omega) (k604 j_22 hj_23 _ _ _ hP hD hS (lv_sub hl [4, 5, 6, 7, 8, 9, 10, 11, 12, 13, 14, 15, 16, 17, 18, 19, 20, 21, 22, 23, 24, 27, 28, 29, 30, 3, 2, 0, 1] rfl))
                    · exact absurd c_10 (by omega)
                  · exact absurd c_9 (by omega)
            · exact absurd c_6 (by omega)
      · exact absurd c_3 (by omega)
set_option maxHeartbeats 8000000 in
set_option maxRecDepth 100000 in
theorem chk_K6 {p : Program} {l : Launch} {e : Env} {s : State} {m : MethodId} {args : Array Value} {below : List Frame} {meth : Method} {c : Code} {E : EE} {A : Nat → Prop} {Q : State → Prop} (X hs : Nat → Nat → Nat) (os : Nat) (f : Nat → Int64) (w : Nat → Nat) (g g2 : GG) (B : Nat) (hI : IB B g) (hg : Nat → GG) (nx ct : Nat) (hnx : nx < 8) (hct : ct ≤ 8) (j : JT) (hj : JV j) (bf : Int64) (kd sz m9 beats ea tone tol fav qu ho be su ch bo made k9 n9 : Nat) (v21 v22 v23 v24 v25 v26 : Int32) (x25 : Nat) (hsz : sz ≤ 8) (hm9 : m9 ≤ 8) (hbe : g 8 1 = be) (hch : g 8 6 = ch) (hk : 31 ≤ kd) (hk2 : kd < 36) (h0 : g 8 0 = sz) (hfb : fav ≤ 400 ∧ qu ≤ 400) (htb : tone < 12 ∧ ho < 12) (hq : qu ≤ fav) (h3 : g 8 3 = tone) (hxq : m9 < sz → v25 = nI x25 ∧ x25 ≤ g 6 m9 ∧ g 6 m9 ≤ x25 + 1) (C : LCL p l s m args c E A) {cells slots : Nat} (hcs : cells + 100 ≤ 800000 ∧ slots + 600 ≤ 6680000) (kk : ∀ (j9 : JT) (H : Heap) (locs : List Loc) (ls : Array Slot), JV j9 → va_P E.1 vwCl (OB E X hs w g g2 hg nx ct j9 ++ [smC E os f] : List va_W).flatten H → va_D A (OB E X hs w g g2 hg nx ct j9 ++ [smC E os f] : List va_W).flatten → va_S A s.heap H locs → lv_has ls 32 [(0, .ref (E.2.2 202)), (1, .ref (X 0 0)), (2, .ref os), (3, .int (nI made)), (4, .int (nI k9)), (5, .int (nI n9)), (6, .long bf), (29, .int (nI 1)), (30, .int (nI 1))] → W p l e room_1 s m args below meth c H locs (cells + 40) (slots + 240) Q (F0 m 745 ls [])) {H : Heap} {locs : List Loc} {ls : Array Slot} (hP : va_P E.1 vwCl (OB E X hs w g g2 hg nx ct j ++ [smC E os f] : List va_W).flatten H) (hD : va_D A (OB E X hs w g g2 hg nx ct j ++ [smC E os f] : List va_W).flatten) (hS : va_S A s.heap H locs) (hl : lv_has ls 32 [(0, .ref (E.2.2 202)), (1, .ref (X 0 0)), (2, .ref os), (3, .int (nI made)), (4, .int (nI k9)), (5, .int (nI n9)), (6, .long bf), (8, .int (nI kd)), (9, .int (nI sz)), (10, .int (nI m9)), (11, .int (nI beats)), (12, .int (nI ea)), (13, .int (nI tone)), (14, .int (nI tol)), (15, .int (nI fav)), (16, .int (nI qu)), (17, .int (nI ho)), (18, .int (nI be)), (19, .int (nI su)), (20, .int (nI ch)), (21, .int v21), (22, .int v22), (23, .int v23), (24, .int v24), (25, .int v25), (26, .int v26), (27, .int (nI bo))]) : W p l e room_1 s m args below meth c H locs cells slots Q (F0 m 276 ls [.int (nI 1)]) := by
  have C0 := C
  obtain ⟨hx, hb, hml, hown, hts, hK, hZ, hDD, hA, hst, hL⟩ := C
  have hmc := hI.mc
  have hbud := hI.bud
  refine lv_istore (lv' := [(28, .int (nI 1)), (0, .ref (E.2.2 202)), (1, .ref (X 0 0)), (2, .ref os), (3, .int (nI made)), (4, .int (nI k9)), (5, .int (nI n9)), (6, .long bf), (8, .int (nI kd)), (9, .int (nI sz)), (10, .int (nI m9)), (11, .int (nI beats)), (12, .int (nI ea)), (13, .int (nI tone)), (14, .int (nI tol)), (15, .int (nI fav)), (16, .int (nI qu)), (17, .int (nI ho)), (18, .int (nI be)), (19, .int (nI su)), (20, .int (nI ch)), (21, .int v21), (22, .int v22), (23, .int v23), (24, .int v24), (25, .int v25), (26, .int v26), (27, .int (nI bo))]) hx hb dL_law_276 hl (by decide) rfl (fun ls hl => ?_)
  refine lv_iload hx hb dL_law_278 (lv_at hl 0 rfl) ?_
  refine lv_bipush (v := -70) hx hb dL_law_280 (by decide) ?_
  refine nv_icmp_le (X := ((1 : Nat) : Int)) (Y := (-70)) hx hb (nI_toInt (by omega)) (by decide) (tgt := 289) dL_law_282 (by decide) (fun c_1 => ?_) (fun c_1 => ?_)
  · exact absurd c_1 (by omega)
  · skip
    refine lv_iconst (v := nI 1) hx hb dL_law_285 (by decide) ?_
    refine lv_goto (tgt := 290) hx hb dL_law_286 (by decide) ?_
    refine lv_istore (lv' := [(29, .int (nI 1)), (28, .int (nI 1)), (0, .ref (E.2.2 202)), (1, .ref (X 0 0)), (2, .ref os), (3, .int (nI made)), (4, .int (nI k9)), (5, .int (nI n9)), (6, .long bf), (8, .int (nI kd)), (9, .int (nI sz)), (10, .int (nI m9)), (11, .int (nI beats)), (12, .int (nI ea)), (13, .int (nI tone)), (14, .int (nI tol)), (15, .int (nI fav)), (16, .int (nI qu)), (17, .int (nI ho)), (18, .int (nI be)), (19, .int (nI su)), (20, .int (nI ch)), (21, .int v21), (22, .int v22), (23, .int v23), (24, .int v24), (25, .int v25), (26, .int v26), (27, .int (nI bo))]) hx hb dL_law_290 hl (by decide) rfl (fun ls hl => ?_)
    refine lv_iload hx hb dL_law_292 (lv_at hl 0 rfl) ?_
    refine nv_if_eq (X := ((1 : Nat) : Int)) hx hb (nI_toInt (by omega)) (tgt := 337) dL_law_294 (by decide) (fun c_2 => ?_) (fun c_2 => ?_)
    · exact absurd c_2 (by omega)
    · skip
      refine lv_iload hx hb dL_law_297 (lv_at hl 9 rfl) ?_
      refine lv_iconst (v := nI 3) hx hb dL_law_299 (by decide) ?_
      refine nv_icmp_gt (X := ((kd : Nat) : Int)) (Y := ((3 : Nat) : Int)) hx hb (nI_toInt (by omega)) (nI_toInt (by omega)) (tgt := 337) dL_law_300 (by decide) (fun c_3 => ?_) (fun c_3 => ?_)
      · skip
        refine lv_iconst (v := nI 1) hx hb dL_law_337 (by decide) ?_
        refine lv_goto (tgt := 342) hx hb dL_law_338 (by decide) ?_
        refine lv_istore (lv' := [(30, .int (nI 1)), (29, .int (nI 1)), (28, .int (nI 1)), (0, .ref (E.2.2 202)), (1, .ref (X 0 0)), (2, .ref os), (3, .int (nI made)), (4, .int (nI k9)), (5, .int (nI n9)), (6, .long bf), (8, .int (nI kd)), (9, .int (nI sz)), (10, .int (nI m9)), (11, .int (nI beats)), (12, .int (nI ea)), (13, .int (nI tone)), (14, .int (nI tol)), (15, .int (nI fav)), (16, .int (nI qu)), (17, .int (nI ho)), (18, .int (nI be)), (19, .int (nI su)), (20, .int (nI ch)), (21, .int v21), (22, .int v22), (23, .int v23), (24, .int v24), (25, .int v25), (26, .int v26), (27, .int (nI bo))]) hx hb dL_law_342 hl (by decide) rfl (fun ls hl => ?_)
        refine lv_iload hx hb dL_law_344 (lv_at hl 0 rfl) ?_
        refine lv_iload hx hb dL_law_346 (lv_at hl 1 rfl) ?_
        refine nv_if_eq (X := ((1 : Nat) : Int)) hx hb (nI_toInt (by omega)) (tgt := 405) dL_law_348 (by decide) (fun c_4 => ?_) (fun c_4 => ?_)
        · exact absurd c_4 (by omega)
        · skip
          refine lv_iload hx hb dL_law_351 (lv_at hl 10 rfl) ?_
          refine lv_bipush (v := nI 16) hx hb dL_law_353 (by decide) ?_
          refine nv_icmp_lt (X := ((kd : Nat) : Int)) (Y := ((16 : Nat) : Int)) hx hb (nI_toInt (by omega)) (nI_toInt (by omega)) (tgt := 405) dL_law_355 (by decide) (fun c_5 => ?_) (fun c_5 => ?_)
          · exact absurd c_5 (by omega)
          · skip
            refine lv_iload hx hb dL_law_358 (lv_at hl 10 rfl) ?_
            refine lv_bipush (v := nI 18) hx hb dL_law_360 (by decide) ?_
            refine nv_icmp_gt (X := ((kd : Nat) : Int)) (Y := ((18 : Nat) : Int)) hx hb (nI_toInt (by omega)) (nI_toInt (by omega)) (tgt := 405) dL_law_362 (by decide) (fun c_6 => ?_) (fun c_6 => ?_)
            · skip
              refine lv_iconst (v := nI 1) hx hb dL_law_405 (by decide) ?_
              refine lv_goto (tgt := 410) hx hb dL_law_406 (by decide) ?_
              refine lv_iand hx hb dL_law_410 ?_
              refine tp_i (show nI 1 &&& nI 1 = nI 1 from by decide) ?_
              refine lv_istore (lv' := [(30, .int (nI 1)), (29, .int (nI 1)), (28, .int (nI 1)), (0, .ref (E.2.2 202)), (1, .ref (X 0 0)), (2, .ref os), (3, .int (nI made)), (4, .int (nI k9)), (5, .int (nI n9)), (6, .long bf), (8, .int (nI kd)), (9, .int (nI sz)), (10, .int (nI m9)), (11, .int (nI beats)), (12, .int (nI ea)), (13, .int (nI tone)), (14, .int (nI tol)), (15, .int (nI fav)), (16, .int (nI qu)), (17, .int (nI ho)), (18, .int (nI be)), (19, .int (nI su)), (20, .int (nI ch)), (21, .int v21), (22, .int v22), (23, .int v23), (24, .int v24), (25, .int v25), (26, .int v26), (27, .int (nI bo))]) hx hb dL_law_411 hl (by decide) rfl (fun ls hl => ?_)
              refine lv_iload hx hb dL_law_413 (lv_at hl 1 rfl) ?_
              refine nv_if_eq (X := ((1 : Nat) : Int)) hx hb (nI_toInt (by omega)) (tgt := 436) dL_law_415 (by decide) (fun c_7 => ?_) (fun c_7 => ?_)
              · exact absurd c_7 (by omega)
              · skip
                refine lv_iload hx hb dL_law_418 (lv_at hl 10 rfl) ?_
                refine lv_bipush (v := nI 18) hx hb dL_law_420 (by decide) ?_
                refine nv_icmp_le (X := ((kd : Nat) : Int)) (Y := ((18 : Nat) : Int)) hx hb (nI_toInt (by omega)) (nI_toInt (by omega)) (tgt := 436) dL_law_422 (by decide) (fun c_8 => ?_) (fun c_8 => ?_)
                · exact absurd c_8 (by omega)
                · skip
                  refine lv_iload hx hb dL_law_425 (lv_at hl 10 rfl) ?_
                  refine lv_bipush (v := nI 28) hx hb dL_law_427 (by decide) ?_
                  refine nv_icmp_ge (X := ((kd : Nat) : Int)) (Y := ((28 : Nat) : Int)) hx hb (nI_toInt (by omega)) (nI_toInt (by omega)) (tgt := 436) dL_law_429 (by decide) (fun c_9 => ?_) (fun c_9 => ?_)
                  · skip
                    refine lv_iconst (v := nI 0) hx hb dL_law_436 (by decide) ?_
                    refine lv_istore (lv' := [(31, .int (nI 0)), (30, .int (nI 1)), (29, .int (nI 1)), (28, .int (nI 1)), (0, .ref (E.2.2 202)), (1, .ref (X 0 0)), (2, .ref os), (3, .int (nI made)), (4, .int (nI k9)), (5, .int (nI n9)), (6, .long bf), (8, .int (nI kd)), (9, .int (nI sz)), (10, .int (nI m9)), (11, .int (nI beats)), (12, .int (nI ea)), (13, .int (nI tone)), (14, .int (nI tol)), (15, .int (nI fav)), (16, .int (nI qu)), (17, .int (nI ho)), (18, .int (nI be)), (19, .int (nI su)), (20, .int (nI ch)), (21, .int v21), (22, .int v22), (23, .int v23), (24, .int v24), (25, .int v25), (26, .int v26), (27, .int (nI bo))]) hx hb dL_law_437 hl (by decide) rfl (fun ls hl => ?_)
                    refine lv_iload hx hb dL_law_439 (lv_at hl 1 rfl) ?_
                    refine lv_iload hx hb dL_law_441 (lv_at hl 0 rfl) ?_
                    refine nv_if_eq (X := ((0 : Nat) : Int)) hx hb (nI_toInt (by omega)) (tgt := 540) dL_law_443 (by decide) (fun c_10 => ?_) (fun c_10 => ?_)
                    · skip
                      refine lv_iconst (v := nI 1) hx hb dL_law_540 (by decide) ?_
                      refine lv_goto (tgt := 545) hx hb dL_law_541 (by decide) ?_
                      refine lv_iand hx hb dL_law_545 ?_
                      refine tp_i (show nI 1 &&& nI 1 = nI 1 from by decide) ?_
                      refine lv_istore (lv' := [(30, .int (nI 1)), (31, .int (nI 0)), (29, .int (nI 1)), (28, .int (nI 1)), (0, .ref (E.2.2 202)), (1, .ref (X 0 0)), (2, .ref os), (3, .int (nI made)), (4, .int (nI k9)), (5, .int (nI n9)), (6, .long bf), (8, .int (nI kd)), (9, .int (nI sz)), (10, .int (nI m9)), (11, .int (nI beats)), (12, .int (nI ea)), (13, .int (nI tone)), (14, .int (nI tol)), (15, .int (nI fav)), (16, .int (nI qu)), (17, .int (nI ho)), (18, .int (nI be)), (19, .int (nI su)), (20, .int (nI ch)), (21, .int v21), (22, .int v22), (23, .int v23), (24, .int v24), (25, .int v25), (26, .int v26), (27, .int (nI bo))]) hx hb dL_law_546 hl (by decide) rfl (fun ls hl => ?_)
                      refine lv_iload hx hb dL_law_548 (lv_at hl 0 rfl) ?_
                      refine lv_iload hx hb dL_law_550 (lv_at hl 2 rfl) ?_
                      refine nv_if_eq (X := ((1 : Nat) : Int)) hx hb (nI_toInt (by omega)) (tgt := 604) dL_law_552 (by decide) (fun c_11 => ?_) (fun c_11 => ?_)
                      · exact absurd c_11 (by omega)
                      · skip
                        refine lv_iload hx hb dL_law_555 (lv_at hl 11 rfl) ?_
                        refine lv_bipush (v := nI 28) hx hb dL_law_557 (by decide) ?_
                        refine nv_icmp_lt (X := ((kd : Nat) : Int)) (Y := ((28 : Nat) : Int)) hx hb (nI_toInt (by omega)) (nI_toInt (by omega)) (tgt := 604) dL_law_559 (by decide) (fun c_12 => ?_) (fun c_12 => ?_)
                        · exact absurd c_12 (by omega)
                        · skip
                          refine lv_iload hx hb dL_law_562 (lv_at hl 11 rfl) ?_
                          refine lv_bipush (v := nI 30) hx hb dL_law_564 (by decide) ?_
                          refine nv_icmp_gt (X := ((kd : Nat) : Int)) (Y := ((30 : Nat) : Int)) hx hb (nI_toInt (by omega)) (nI_toInt (by omega)) (tgt := 604) dL_law_566 (by decide) (fun c_13 => ?_) (fun c_13 => ?_)
                          · skip
                            refine lv_iconst (v := nI 1) hx hb dL_law_604 (by decide) ?_
                            refine lv_goto (tgt := 609) hx hb dL_law_605 (by decide) ?_
                            refine lv_iand hx hb dL_law_609 ?_
                            refine tp_i (show nI 1 &&& nI 1 = nI 1 from by decide) ?_
                            refine lv_istore (lv' := [(30, .int (nI 1)), (31, .int (nI 0)), (29, .int (nI 1)), (28, .int (nI 1)), (0, .ref (E.2.2 202)), (1, .ref (X 0 0)), (2, .ref os), (3, .int (nI made)), (4, .int (nI k9)), (5, .int (nI n9)), (6, .long bf), (8, .int (nI kd)), (9, .int (nI sz)), (10, .int (nI m9)), (11, .int (nI beats)), (12, .int (nI ea)), (13, .int (nI tone)), (14, .int (nI tol)), (15, .int (nI fav)), (16, .int (nI qu)), (17, .int (nI ho)), (18, .int (nI be)), (19, .int (nI su)), (20, .int (nI ch)), (21, .int v21), (22, .int v22), (23, .int v23), (24, .int v24), (25, .int v25), (26, .int v26), (27, .int (nI bo))]) hx hb dL_law_610 hl (by decide) rfl (fun ls hl => ?_)
                            refine lv_iload hx hb dL_law_612 (lv_at hl 0 rfl) ?_
                            refine lv_iload hx hb dL_law_614 (lv_at hl 11 rfl) ?_
                            refine lv_bipush (v := nI 31) hx hb dL_law_616 (by decide) ?_
                            refine nv_icmp_lt (X := ((kd : Nat) : Int)) (Y := ((31 : Nat) : Int)) hx hb (nI_toInt (by omega)) (nI_toInt (by omega)) (tgt := 697) dL_law_618 (by decide) (fun c_14 => ?_) (fun c_14 => ?_)
                            · exact absurd c_14 (by omega)
                            · skip
                              refine lv_iload hx hb dL_law_621 (lv_at hl 11 rfl) ?_
                              refine lv_bipush (v := nI 35) hx hb dL_law_623 (by decide) ?_
                              refine nv_icmp_gt (X := ((kd : Nat) : Int)) (Y := ((35 : Nat) : Int)) hx hb (nI_toInt (by omega)) (nI_toInt (by omega)) (tgt := 697) dL_law_625 (by decide) (fun c_15 => ?_) (fun c_15 => ?_)
                              · exact absurd c_15 (by omega)
                              · skip
                                refine lv_iload hx hb dL_law_628 (lv_at hl 3 rfl) ?_
                                refine lv_iload hx hb dL_law_630 (lv_at hl 18 rfl) ?_
                                refine lv_iload hx hb dL_law_632 (lv_at hl 19 rfl) ?_
                                refine nv_icmp_lt (X := ((fav : Nat) : Int)) (Y := ((qu : Nat) : Int)) hx hb (nI_toInt (by omega)) (nI_toInt (by omega)) (tgt := 641) dL_law_634 (by decide) (fun c_16 => ?_) (fun c_16 => ?_)
                                · skip
                                  refine lv_iconst (v := nI 0) hx hb dL_law_641 (by decide) ?_
                                  refine nv_icmp_ne (X := ((1 : Nat) : Int)) (Y := ((0 : Nat) : Int)) hx hb (nI_toInt (by omega)) (nI_toInt (by omega)) (tgt := 701) dL_law_642 (by decide) (fun c_17 => ?_) (fun c_17 => ?_)
                                  · exact absurd c_17 (by omega)
                                  · skip
                                    refine lv_aload_n hx hb dL_law_645 rfl (lv_at hl 5 rfl) ?_
                                    refine run_i (S := Unit) (run_V (As := []) (rest := [.int (nI 1)]) (bs := OB E X hs w g g2 hg nx ct j ++ [smC E os f]) (cb := [coC E (X 0) (X 1) (X 2) (X 3) (X 4) (X 5) (X 6) (X 7) (X 8) w, stC E (X 1) g]) hx hb hml hown hts hK hZ hA (c_X5_houseTone l E _ (X 0) (X 1) (X 2) (X 3) (X 4) (X 5) (X 6) (X 7) (X 8) w g B hI) l_L_191 rfl ⟨⟨rfl, rfl⟩, Nat.le_of_ble_eq_true rfl, Nat.le_of_ble_eq_true rfl⟩ 9 rfl [0, 1] rfl (by decide) rfl hP hD hS hl.1 rfl (Nat.le_of_ble_eq_true rfl) dL_law_646 ⟨by show cells + 0 ≤ 800891; omega, by show slots + 0 ≤ 6687511; omega⟩) hA hP hD hS (isC := [0, 1]) rfl [2, 3, 4, 5, 6, 7, 8, 9, 10] [9, 10, 0, 1, 2, 3, 4, 5, 6, 7, 8] (br := [stC E (X 2) g2, stC E (X 3) j.1, hhC E (X 4) hs hg nx ct, diC E (X 5) j.2.1 j.2.2.1, grC E (X 6) j.2.2.2.1 j.2.2.2.2.1, prC E (X 7) j.2.2.2.2.2.1 j.2.2.2.2.2.2.1, sbO E (X 8) j.2.2.2.2.2.2.2.1 j.2.2.2.2.2.2.2.2.1 j.2.2.2.2.2.2.2.2.2.1, baC E j.2.2.2.2.2.2.2.1 j.2.2.2.2.2.2.2.2.2.2.1 j.2.2.2.2.2.2.2.2.2.2.2, smC E os f]) (bs2 := fun _ => OB E X hs w g g2 hg nx ct j ++ [smC E os f]) rfl (by decide) (fun _ => rfl) (by decide) (fun r u H locs hw hP hD hS => ?_)
                                    subst hw
                                    refine lv_iload hx hb dL_law_649 (lv_at hl 3 rfl) ?_
                                    refine lv_iconst (v := nI 1) hx hb dL_law_651 (by decide) ?_
                                    refine nv_icmp_ne (X := ((1 : Nat) : Int)) (Y := ((1 : Nat) : Int)) hx hb (nI_toInt (by omega)) (nI_toInt (by omega)) (tgt := 660) dL_law_652 (by decide) (fun c_18 => ?_) (fun c_18 => ?_)
                                    · exact absurd c_18 (by omega)
                                    · skip
                                      refine lv_iload hx hb dL_law_655 (lv_at hl 16 rfl) ?_
                                      refine lv_goto (tgt := 662) hx hb dL_law_657 (by decide) ?_
                                      refine nv_icmp_ne (X := ((g 8 3 : Nat) : Int)) (Y := ((tone : Nat) : Int)) hx hb (nI_toInt (by omega)) (nI_toInt (by omega)) (tgt := 701) dL_law_662 (by decide) (fun c_19 => ?_) (fun c_19 => ?_)
                                      · exact absurd c_19 (by omega)
                                      · skip
                                        have k697 : ∀ (jk697 : JT), JV jk697 → ∀ (H : Heap) (locs : List Loc) (ls : Array Slot), va_P E.1 vwCl (OB E X hs w g g2 hg nx ct jk697 ++ [smC E os f] : List va_W).flatten H → va_D A (OB E X hs w g g2 hg nx ct jk697 ++ [smC E os f] : List va_W).flatten → va_S A s.heap H locs → lv_has ls 32 [(0, .ref (E.2.2 202)), (1, .ref (X 0 0)), (2, .ref os), (3, .int (nI made)), (4, .int (nI k9)), (5, .int (nI n9)), (6, .long bf), (8, .int (nI kd)), (9, .int (nI sz)), (10, .int (nI m9)), (11, .int (nI beats)), (12, .int (nI ea)), (13, .int (nI tone)), (14, .int (nI tol)), (15, .int (nI fav)), (16, .int (nI qu)), (17, .int (nI ho)), (18, .int (nI be)), (19, .int (nI su)), (20, .int (nI ch)), (21, .int v21), (22, .int v22), (23, .int v23), (24, .int v24), (26, .int v26), (27, .int (nI bo)), (28, .int (nI 1)), (29, .int (nI 1)), (30, .int (nI 1)), (31, .int (nI 0))] → W p l e room_1 s m args below meth c H locs (cells + 2) (slots + 12) Q (F0 m 697 ls [.int (nI 1)]) := by
                                          intro jk697 hjk697 H locs ls hP hD hS hl
                                          refine lv_iconst (v := nI 1) hx hb dL_law_697 (by decide) ?_
                                          refine lv_goto (tgt := 702) hx hb dL_law_698 (by decide) ?_
                                          refine lv_iand hx hb dL_law_702 ?_
                                          refine tp_i (show nI 1 &&& nI 1 = nI 1 from by decide) ?_
                                          refine lv_istore (lv' := [(30, .int (nI 1)), (0, .ref (E.2.2 202)), (1, .ref (X 0 0)), (2, .ref os), (3, .int (nI made)), (4, .int (nI k9)), (5, .int (nI n9)), (6, .long bf), (8, .int (nI kd)), (9, .int (nI sz)), (10, .int (nI m9)), (11, .int (nI beats)), (12, .int (nI ea)), (13, .int (nI tone)), (14, .int (nI tol)), (15, .int (nI fav)), (16, .int (nI qu)), (17, .int (nI ho)), (18, .int (nI be)), (19, .int (nI su)), (20, .int (nI ch)), (21, .int v21), (22, .int v22), (23, .int v23), (24, .int v24), (26, .int v26), (27, .int (nI bo)), (28, .int (nI 1)), (29, .int (nI 1)), (31, .int (nI 0))]) hx hb dL_law_703 hl (by decide) rfl (fun ls hl => ?_)
                                          refine lv_iload hx hb dL_law_705 (lv_at hl 0 rfl) ?_
                                          refine lv_iload hx hb dL_law_707 (lv_at hl 29 rfl) ?_
                                          refine nv_if_ne (X := ((0 : Nat) : Int)) hx hb (nI_toInt (by omega)) (tgt := 737) dL_law_709 (by decide) (fun c_20 => ?_) (fun c_20 => ?_)
                                          · exact absurd c_20 (by omega)
                                          · skip
                                            refine lv_iload hx hb dL_law_712 (lv_at hl 8 rfl) ?_
                                            refine lv_bipush (v := nI 35) hx hb dL_law_714 (by decide) ?_
                                            refine nv_icmp_gt (X := ((kd : Nat) : Int)) (Y := ((35 : Nat) : Int)) hx hb (nI_toInt (by omega)) (nI_toInt (by omega)) (tgt := 737) dL_law_716 (by decide) (fun c_21 => ?_) (fun c_21 => ?_)
                                            · exact absurd c_21 (by omega)
                                            · skip
                                              refine lv_aload_n hx hb dL_law_719 rfl (lv_at hl 2 rfl) ?_
                                              refine run_i (S := Unit) (run_V (As := []) (rest := [.int (nI 1)]) (bs := OB E X hs w g g2 hg nx ct jk697 ++ [smC E os f]) (cb := [coC E (X 0) (X 1) (X 2) (X 3) (X 4) (X 5) (X 6) (X 7) (X 8) w, stC E (X 1) g]) hx hb hml hown hts hK hZ hA (c_X5_beat l E _ (X 0) (X 1) (X 2) (X 3) (X 4) (X 5) (X 6) (X 7) (X 8) w g B hI) l_L_194 rfl ⟨⟨rfl, rfl⟩, Nat.le_of_ble_eq_true rfl, Nat.le_of_ble_eq_true rfl⟩ 9 rfl [0, 1] rfl (by decide) rfl hP hD hS hl.1 rfl (Nat.le_of_ble_eq_true rfl) dL_law_720 ⟨by show (cells + 2) + 0 ≤ 800891; omega, by show (slots + 12) + 0 ≤ 6687511; omega⟩) hA hP hD hS (isC := [0, 1]) rfl [2, 3, 4, 5, 6, 7, 8, 9, 10] [9, 10, 0, 1, 2, 3, 4, 5, 6, 7, 8] (br := [stC E (X 2) g2, stC E (X 3) jk697.1, hhC E (X 4) hs hg nx ct, diC E (X 5) jk697.2.1 jk697.2.2.1, grC E (X 6) jk697.2.2.2.1 jk697.2.2.2.2.1, prC E (X 7) jk697.2.2.2.2.2.1 jk697.2.2.2.2.2.2.1, sbO E (X 8) jk697.2.2.2.2.2.2.2.1 jk697.2.2.2.2.2.2.2.2.1 jk697.2.2.2.2.2.2.2.2.2.1, baC E jk697.2.2.2.2.2.2.2.1 jk697.2.2.2.2.2.2.2.2.2.2.1 jk697.2.2.2.2.2.2.2.2.2.2.2, smC E os f]) (bs2 := fun _ => OB E X hs w g g2 hg nx ct jk697 ++ [smC E os f]) rfl (by decide) (fun _ => rfl) (by decide) (fun r u H locs hw hP hD hS => ?_)
                                              subst hw
                                              refine lv_iload hx hb dL_law_723 (lv_at hl 18 rfl) ?_
                                              refine nv_icmp_ne (X := ((g 8 1 : Nat) : Int)) (Y := ((be : Nat) : Int)) hx hb (nI_toInt (by omega)) (nI_toInt (by omega)) (tgt := 741) dL_law_725 (by decide) (fun c_22 => ?_) (fun c_22 => ?_)
                                              · exact absurd c_22 (by omega)
                                              · skip
                                                refine lv_aload_n hx hb dL_law_728 rfl (lv_at hl 2 rfl) ?_
                                                refine run_i (S := Unit) (run_V (As := []) (rest := [.int (nI 1)]) (bs := OB E X hs w g g2 hg nx ct jk697 ++ [smC E os f]) (cb := [coC E (X 0) (X 1) (X 2) (X 3) (X 4) (X 5) (X 6) (X 7) (X 8) w, stC E (X 1) g]) hx hb hml hown hts hK hZ hA (c_X5_chirps l E _ (X 0) (X 1) (X 2) (X 3) (X 4) (X 5) (X 6) (X 7) (X 8) w g B hI) l_L_200 rfl ⟨⟨rfl, rfl⟩, Nat.le_of_ble_eq_true rfl, Nat.le_of_ble_eq_true rfl⟩ 9 rfl [0, 1] rfl (by decide) rfl hP hD hS hl.1 rfl (Nat.le_of_ble_eq_true rfl) dL_law_729 ⟨by show (cells + 2) + 0 ≤ 800891; omega, by show (slots + 12) + 0 ≤ 6687511; omega⟩) hA hP hD hS (isC := [0, 1]) rfl [2, 3, 4, 5, 6, 7, 8, 9, 10] [9, 10, 0, 1, 2, 3, 4, 5, 6, 7, 8] (br := [stC E (X 2) g2, stC E (X 3) jk697.1, hhC E (X 4) hs hg nx ct, diC E (X 5) jk697.2.1 jk697.2.2.1, grC E (X 6) jk697.2.2.2.1 jk697.2.2.2.2.1, prC E (X 7) jk697.2.2.2.2.2.1 jk697.2.2.2.2.2.2.1, sbO E (X 8) jk697.2.2.2.2.2.2.2.1 jk697.2.2.2.2.2.2.2.2.1 jk697.2.2.2.2.2.2.2.2.2.1, baC E jk697.2.2.2.2.2.2.2.1 jk697.2.2.2.2.2.2.2.2.2.2.1 jk697.2.2.2.2.2.2.2.2.2.2.2, smC E os f]) (bs2 := fun _ => OB E X hs w g g2 hg nx ct jk697 ++ [smC E os f]) rfl (by decide) (fun _ => rfl) (by decide) (fun r u H locs hw hP hD hS => ?_)
                                                subst hw
                                                refine lv_iload hx hb dL_law_732 (lv_at hl 20 rfl) ?_
                                                refine nv_icmp_ne (X := ((g 8 6 : Nat) : Int)) (Y := ((ch : Nat) : Int)) hx hb (nI_toInt (by omega)) (nI_toInt (by omega)) (tgt := 741) dL_law_734 (by decide) (fun c_23 => ?_) (fun c_23 => ?_)
                                                · exact absurd c_23 (by omega)
                                                · skip
                                                  refine lv_iconst (v := nI 1) hx hb dL_law_737 (by decide) ?_
                                                  refine lv_goto (tgt := 742) hx hb dL_law_738 (by decide) ?_
                                                  refine lv_iand hx hb dL_law_742 ?_
                                                  refine tp_i (show nI 1 &&& nI 1 = nI 1 from by decide) ?_
                                                  refine lv_istore (lv' := [(30, .int (nI 1)), (0, .ref (E.2.2 202)), (1, .ref (X 0 0)), (2, .ref os), (3, .int (nI made)), (4, .int (nI k9)), (5, .int (nI n9)), (6, .long bf), (8, .int (nI kd)), (9, .int (nI sz)), (10, .int (nI m9)), (11, .int (nI beats)), (12, .int (nI ea)), (13, .int (nI tone)), (14, .int (nI tol)), (15, .int (nI fav)), (16, .int (nI qu)), (17, .int (nI ho)), (18, .int (nI be)), (19, .int (nI su)), (20, .int (nI ch)), (21, .int v21), (22, .int v22), (23, .int v23), (24, .int v24), (26, .int v26), (27, .int (nI bo)), (28, .int (nI 1)), (29, .int (nI 1)), (31, .int (nI 0))]) hx hb dL_law_743 hl (by decide) rfl (fun ls hl => ?_)
                                                  exact W_widen (by omega) (by omega) (kk jk697 _ _ _ hjk697 hP hD hS (lv_sub hl [1, 2, 3, 4, 5, 6, 7, 28, 0] rfl))
                                        refine lv_iload hx hb dL_law_665 (lv_at hl 13 rfl) ?_
                                        refine lv_iload hx hb dL_law_667 (lv_at hl 12 rfl) ?_
                                        refine nv_icmp_ge (X := ((m9 : Nat) : Int)) (Y := ((sz : Nat) : Int)) hx hb (nI_toInt (by omega)) (nI_toInt (by omega)) (tgt := 697) dL_law_669 (by decide) (fun c_24 => ?_) (fun c_24 => ?_)
                                        · skip
                                          exact W_widen (by omega) (by omega) (k697 j hj _ _ _ hP hD hS (lv_sub hl [4, 5, 6, 7, 8, 9, 10, 11, 12, 13, 14, 15, 16, 17, 18, 19, 20, 21, 22, 23, 24, 25, 26, 27, 29, 30, 3, 2, 0, 1] rfl))
                                        · skip
                                          obtain ⟨hv25, h6a, h6b⟩ := hxq (by omega)
                                          have h6c := hI.2.2.2.1.2.2.1 m9
                                          have h6d := hbud.2.2.2.2.2.2
                                          have hl : lv_has ls 32 [(30, .int (nI 1)), (31, .int (nI 0)), (29, .int (nI 1)), (28, .int (nI 1)), (0, .ref (E.2.2 202)), (1, .ref (X 0 0)), (2, .ref os), (3, .int (nI made)), (4, .int (nI k9)), (5, .int (nI n9)), (6, .long bf), (8, .int (nI kd)), (9, .int (nI sz)), (10, .int (nI m9)), (11, .int (nI beats)), (12, .int (nI ea)), (13, .int (nI tone)), (14, .int (nI tol)), (15, .int (nI fav)), (16, .int (nI qu)), (17, .int (nI ho)), (18, .int (nI be)), (19, .int (nI su)), (20, .int (nI ch)), (21, .int v21), (22, .int v22), (23, .int v23), (24, .int v24), (25, .int (nI x25)), (26, .int v26), (27, .int (nI bo))] := by rw [show nI x25 = v25 from hv25.symm]; exact hl
                                          refine lv_aload_n hx hb dL_law_672 rfl (lv_at hl 5 rfl) ?_
                                          refine lv_iload hx hb dL_law_673 (lv_at hl 13 rfl) ?_
                                          refine run_i (S := JT) (run_SX (As := [.ref (X 0 0), .int (nI m9)]) (rest := [.int (nI 1)]) (bs := OB E X hs w g g2 hg nx ct j ++ [smC E os f]) (cb := OB E X hs w g g2 hg nx ct j) hx hb hml hown hts hK hZ hDD hA (c_L_dissents l hst E _ X hs w g g2 B hI hg nx ct hnx hct j hj (nI m9)) l_L_211 rfl ⟨⟨rfl, rfl⟩, Nat.le_of_ble_eq_true rfl, Nat.le_of_ble_eq_true rfl⟩ [0, 1, 2, 3, 4, 5, 6, 7, 8, 9] rfl (by decide) hP hD hS hl.1 rfl (Nat.le_of_ble_eq_true rfl) dL_law_675 ⟨by show cells + 1 ≤ 800891; omega, by show slots + 6 ≤ 6687511; omega⟩) hA hP hD hS (isC := [0, 1, 2, 3, 4, 5, 6, 7, 8, 9]) rfl [10] [1, 2, 3, 4, 5, 6, 7, 8, 9, 10, 0] (br := [smC E os f]) (bs2 := fun u => OB E X hs w g g2 hg nx ct u ++ [smC E os f]) rfl (by decide) (fun _ => rfl) (by decide) (fun r j_25 H locs hw hP hD hS => ?_)
                                          obtain ⟨hw, hj_26⟩ := hw
                                          refine tp_i hw ?_
                                          refine tp_i (show wf g (g 6) (nI m9) = nI (g 6 m9) from wf_in hmc (by omega)) ?_
                                          refine lv_iload hx hb dL_law_678 (lv_at hl 28 rfl) ?_
                                          refine nv_icmp_lt (X := ((g 6 m9 : Nat) : Int)) (Y := ((x25 : Nat) : Int)) hx hb (nI_toInt (by omega)) (nI_toInt (by omega)) (tgt := 701) dL_law_680 (by decide) (fun c_27 => ?_) (fun c_27 => ?_)
                                          · exact absurd c_27 (by omega)
                                          · skip
                                            refine lv_aload_n hx hb dL_law_683 rfl (lv_at hl 5 rfl) ?_
                                            refine lv_iload hx hb dL_law_684 (lv_at hl 13 rfl) ?_
                                            refine run_i (S := JT) (run_SX (As := [.ref (X 0 0), .int (nI m9)]) (rest := [.int (nI 1)]) (bs := OB E X hs w g g2 hg nx ct j_25 ++ [smC E os f]) (cb := OB E X hs w g g2 hg nx ct j_25) hx hb hml hown hts hK hZ hDD hA (c_L_dissents l hst E _ X hs w g g2 B hI hg nx ct hnx hct j_25 hj_26 (nI m9)) l_L_211 rfl ⟨⟨rfl, rfl⟩, Nat.le_of_ble_eq_true rfl, Nat.le_of_ble_eq_true rfl⟩ [0, 1, 2, 3, 4, 5, 6, 7, 8, 9] rfl (by decide) hP hD hS hl.1 rfl (Nat.le_of_ble_eq_true rfl) dL_law_686 ⟨by show (cells + 1) + 1 ≤ 800891; omega, by show (slots + 6) + 6 ≤ 6687511; omega⟩) hA hP hD hS (isC := [0, 1, 2, 3, 4, 5, 6, 7, 8, 9]) rfl [10] [1, 2, 3, 4, 5, 6, 7, 8, 9, 10, 0] (br := [smC E os f]) (bs2 := fun u => OB E X hs w g g2 hg nx ct u ++ [smC E os f]) rfl (by decide) (fun _ => rfl) (by decide) (fun r j_28 H locs hw hP hD hS => ?_)
                                            obtain ⟨hw, hj_29⟩ := hw
                                            refine tp_i hw ?_
                                            refine tp_i (show wf g (g 6) (nI m9) = nI (g 6 m9) from wf_in hmc (by omega)) ?_
                                            refine lv_iload hx hb dL_law_689 (lv_at hl 28 rfl) ?_
                                            refine lv_iload hx hb dL_law_691 (lv_at hl 3 rfl) ?_
                                            refine nv_iadd hx hb dL_law_693 ?_
                                            refine nv_icmp_gt (X := ((g 6 m9 : Nat) : Int)) (Y := ((x25 + 1 : Nat) : Int)) hx hb (nI_toInt (by omega)) (nI_toInt (by omega)) (tgt := 701) dL_law_694 (by decide) (fun c_30 => ?_) (fun c_30 => ?_)
                                            · exact absurd c_30 (by omega)
                                            · skip
                                              exact W_widen (by omega) (by omega) (k697 j_28 hj_29 _ _ _ hP hD hS (lv_sub hl [4, 5, 6, 7, 8, 9, 10, 11, 12, 13, 14, 15, 16, 17, 18, 19, 20, 21, 22, 23, 24, 25, 26, 27, 29, 30, 3, 2, 0, 1] rfl))
                                · skip
                                  refine lv_iconst (v := nI 1) hx hb dL_law_637 (by decide) ?_
                                  refine lv_goto (tgt := 642) hx hb dL_law_638 (by decide) ?_
                                  refine nv_icmp_ne (X := ((1 : Nat) : Int)) (Y := ((1 : Nat) : Int)) hx hb (nI_toInt (by omega)) (nI_toInt (by omega)) (tgt := 701) dL_law_642 (by decide) (fun c_31 => ?_) (fun c_31 => ?_)
                                  · exact absurd c_31 (by omega)
                                  · skip
                                    refine lv_aload_n hx hb dL_law_645 rfl (lv_at hl 5 rfl) ?_
                                    refine run_i (S := Unit) (run_V (As := []) (rest := [.int (nI 1)]) (bs := OB E X hs w g g2 hg nx ct j ++ [smC E os f]) (cb := [coC E (X 0) (X 1) (X 2) (X 3) (X 4) (X 5) (X 6) (X 7) (X 8) w, stC E (X 1) g]) hx hb hml hown hts hK hZ hA (c_X5_houseTone l E _ (X 0) (X 1) (X 2) (X 3) (X 4) (X 5) (X 6) (X 7) (X 8) w g B hI) l_L_191 rfl ⟨⟨rfl, rfl⟩, Nat.le_of_ble_eq_true rfl, Nat.le_of_ble_eq_true rfl⟩ 9 rfl [0, 1] rfl (by decide) rfl hP hD hS hl.1 rfl (Nat.le_of_ble_eq_true rfl) dL_law_646 ⟨by show cells + 0 ≤ 800891; omega, by show slots + 0 ≤ 6687511; omega⟩) hA hP hD hS (isC := [0, 1]) rfl [2, 3, 4, 5, 6, 7, 8, 9, 10] [9, 10, 0, 1, 2, 3, 4, 5, 6, 7, 8] (br := [stC E (X 2) g2, stC E (X 3) j.1, hhC E (X 4) hs hg nx ct, diC E (X 5) j.2.1 j.2.2.1, grC E (X 6) j.2.2.2.1 j.2.2.2.2.1, prC E (X 7) j.2.2.2.2.2.1 j.2.2.2.2.2.2.1, sbO E (X 8) j.2.2.2.2.2.2.2.1 j.2.2.2.2.2.2.2.2.1 j.2.2.2.2.2.2.2.2.2.1, baC E j.2.2.2.2.2.2.2.1 j.2.2.2.2.2.2.2.2.2.2.1 j.2.2.2.2.2.2.2.2.2.2.2, smC E os f]) (bs2 := fun _ => OB E X hs w g g2 hg nx ct j ++ [smC E os f]) rfl (by decide) (fun _ => rfl) (by decide) (fun r u H locs hw hP hD hS => ?_)
                                    subst hw
                                    refine lv_iload hx hb dL_law_649 (lv_at hl 3 rfl) ?_
                                    refine lv_iconst (v := nI 1) hx hb dL_law_651 (by decide) ?_
                                    refine nv_icmp_ne (X := ((1 : Nat) : Int)) (Y := ((1 : Nat) : Int)) hx hb (nI_toInt (by omega)) (nI_toInt (by omega)) (tgt := 660) dL_law_652 (by decide) (fun c_32 => ?_) (fun c_32 => ?_)
                                    · exact absurd c_32 (by omega)
                                    · skip
                                      refine lv_iload hx hb dL_law_655 (lv_at hl 16 rfl) ?_
                                      refine lv_goto (tgt := 662) hx hb dL_law_657 (by decide) ?_
                                      refine nv_icmp_ne (X := ((g 8 3 : Nat) : Int)) (Y := ((tone : Nat) : Int)) hx hb (nI_toInt (by omega)) (nI_toInt (by omega)) (tgt := 701) dL_law_662 (by decide) (fun c_33 => ?_) (fun c_33 => ?_)
                                      · exact absurd c_33 (by omega)
                                      · skip
                                        have k697 : ∀ (jk697 : JT), JV jk697 → ∀ (H : Heap) (locs : List Loc) (ls : Array Slot), va_P E.1 vwCl (OB E X hs w g g2 hg nx ct jk697 ++ [smC E os f] : List va_W).flatten H → va_D A (OB E X hs w g g2 hg nx ct jk697 ++ [smC E os f] : List va_W).flatten → va_S A s.heap H locs → lv_has ls 32 [(0, .ref (E.2.2 202)), (1, .ref (X 0 0)), (2, .ref os), (3, .int (nI made)), (4, .int (nI k9)), (5, .int (nI n9)), (6, .long bf), (8, .int (nI kd)), (9, .int (nI sz)), (10, .int (nI m9)), (11, .int (nI beats)), (12, .int (nI ea)), (13, .int (nI tone)), (14, .int (nI tol)), (15, .int (nI fav)), (16, .int (nI qu)), (17, .int (nI ho)), (18, .int (nI be)), (19, .int (nI su)), (20, .int (nI ch)), (21, .int v21), (22, .int v22), (23, .int v23), (24, .int v24), (26, .int v26), (27, .int (nI bo)), (28, .int (nI 1)), (29, .int (nI 1)), (30, .int (nI 1)), (31, .int (nI 0))] → W p l e room_1 s m args below meth c H locs (cells + 2) (slots + 12) Q (F0 m 697 ls [.int (nI 1)]) := by
                                          intro jk697 hjk697 H locs ls hP hD hS hl
                                          refine lv_iconst (v := nI 1) hx hb dL_law_697 (by decide) ?_
                                          refine lv_goto (tgt := 702) hx hb dL_law_698 (by decide) ?_
                                          refine lv_iand hx hb dL_law_702 ?_
                                          refine tp_i (show nI 1 &&& nI 1 = nI 1 from by decide) ?_
                                          refine lv_istore (lv' := [(30, .int (nI 1)), (0, .ref (E.2.2 202)), (1, .ref (X 0 0)), (2, .ref os), (3, .int (nI made)), (4, .int (nI k9)), (5, .int (nI n9)), (6, .long bf), (8, .int (nI kd)), (9, .int (nI sz)), (10, .int (nI m9)), (11, .int (nI beats)), (12, .int (nI ea)), (13, .int (nI tone)), (14, .int (nI tol)), (15, .int (nI fav)), (16, .int (nI qu)), (17, .int (nI ho)), (18, .int (nI be)), (19, .int (nI su)), (20, .int (nI ch)), (21, .int v21), (22, .int v22), (23, .int v23), (24, .int v24), (26, .int v26), (27, .int (nI bo)), (28, .int (nI 1)), (29, .int (nI 1)), (31, .int (nI 0))]) hx hb dL_law_703 hl (by decide) rfl (fun ls hl => ?_)
                                          refine lv_iload hx hb dL_law_705 (lv_at hl 0 rfl) ?_
                                          refine lv_iload hx hb dL_law_707 (lv_at hl 29 rfl) ?_
                                          refine nv_if_ne (X := ((0 : Nat) : Int)) hx hb (nI_toInt (by omega)) (tgt := 737) dL_law_709 (by decide) (fun c_34 => ?_) (fun c_34 => ?_)
                                          · exact absurd c_34 (by omega)
                                          · skip
                                            refine lv_iload hx hb dL_law_712 (lv_at hl 8 rfl) ?_
                                            refine lv_bipush (v := nI 35) hx hb dL_law_714 (by decide) ?_
                                            refine nv_icmp_gt (X := ((kd : Nat) : Int)) (Y := ((35 : Nat) : Int)) hx hb (nI_toInt (by omega)) (nI_toInt (by omega)) (tgt := 737) dL_law_716 (by decide) (fun c_35 => ?_) (fun c_35 => ?_)
                                            · exact absurd c_35 (by omega)
                                            · skip
                                              refine lv_aload_n hx hb dL_law_719 rfl (lv_at hl 2 rfl) ?_
                                              refine run_i (S := Unit) (run_V (As := []) (rest := [.int (nI 1)]) (bs := OB E X hs w g g2 hg nx ct jk697 ++ [smC E os f]) (cb := [coC E (X 0) (X 1) (X 2) (X 3) (X 4) (X 5) (X 6) (X 7) (X 8) w, stC E (X 1) g]) hx hb hml hown hts hK hZ hA (c_X5_beat l E _ (X 0) (X 1) (X 2) (X 3) (X 4) (X 5) (X 6) (X 7) (X 8) w g B hI) l_L_194 rfl ⟨⟨rfl, rfl⟩, Nat.le_of_ble_eq_true rfl, Nat.le_of_ble_eq_true rfl⟩ 9 rfl [0, 1] rfl (by decide) rfl hP hD hS hl.1 rfl (Nat.le_of_ble_eq_true rfl) dL_law_720 ⟨by show (cells + 2) + 0 ≤ 800891; omega, by show (slots + 12) + 0 ≤ 6687511; omega⟩) hA hP hD hS (isC := [0, 1]) rfl [2, 3, 4, 5, 6, 7, 8, 9, 10] [9, 10, 0, 1, 2, 3, 4, 5, 6, 7, 8] (br := [stC E (X 2) g2, stC E (X 3) jk697.1, hhC E (X 4) hs hg nx ct, diC E (X 5) jk697.2.1 jk697.2.2.1, grC E (X 6) jk697.2.2.2.1 jk697.2.2.2.2.1, prC E (X 7) jk697.2.2.2.2.2.1 jk697.2.2.2.2.2.2.1, sbO E (X 8) jk697.2.2.2.2.2.2.2.1 jk697.2.2.2.2.2.2.2.2.1 jk697.2.2.2.2.2.2.2.2.2.1, baC E jk697.2.2.2.2.2.2.2.1 jk697.2.2.2.2.2.2.2.2.2.2.1 jk697.2.2.2.2.2.2.2.2.2.2.2, smC E os f]) (bs2 := fun _ => OB E X hs w g g2 hg nx ct jk697 ++ [smC E os f]) rfl (by decide) (fun _ => rfl) (by decide) (fun r u H locs hw hP hD hS => ?_)
                                              subst hw
                                              refine lv_iload hx hb dL_law_723 (lv_at hl 18 rfl) ?_
                                              refine nv_icmp_ne (X := ((g 8 1 : Nat) : Int)) (Y := ((be : Nat) : Int)) hx hb (nI_toInt (by omega)) (nI_toInt (by omega)) (tgt := 741) dL_law_725 (by decide) (fun c_36 => ?_) (fun c_36 => ?_)
                                              · exact absurd c_36 (by omega)
                                              · skip
                                                refine lv_aload_n hx hb dL_law_728 rfl (lv_at hl 2 rfl) ?_
                                                refine run_i (S := Unit) (run_V (As := []) (rest := [.int (nI 1)]) (bs := OB E X hs w g g2 hg nx ct jk697 ++ [smC E os f]) (cb := [coC E (X 0) (X 1) (X 2) (X 3) (X 4) (X 5) (X 6) (X 7) (X 8) w, stC E (X 1) g]) hx hb hml hown hts hK hZ hA (c_X5_chirps l E _ (X 0) (X 1) (X 2) (X 3) (X 4) (X 5) (X 6) (X 7) (X 8) w g B hI) l_L_200 rfl ⟨⟨rfl, rfl⟩, Nat.le_of_ble_eq_true rfl, Nat.le_of_ble_eq_true rfl⟩ 9 rfl [0, 1] rfl (by decide) rfl hP hD hS hl.1 rfl (Nat.le_of_ble_eq_true rfl) dL_law_729 ⟨by show (cells + 2) + 0 ≤ 800891; omega, by show (slots + 12) + 0 ≤ 6687511; omega⟩) hA hP hD hS (isC := [0, 1]) rfl [2, 3, 4, 5, 6, 7, 8, 9, 10] [9, 10, 0, 1, 2, 3, 4, 5, 6, 7, 8] (br := [stC E (X 2) g2, stC E (X 3) jk697.1, hhC E (X 4) hs hg nx ct, diC E (X 5) jk697.2.1 jk697.2.2.1, grC E (X 6) jk697.2.2.2.1 jk697.2.2.2.2.1, prC E (X 7) jk697.2.2.2.2.2.1 jk697.2.2.2.2.2.2.1, sbO E (X 8) jk697.2.2.2.2.2.2.2.1 jk697.2.2.2.2.2.2.2.2.1 jk697.2.2.2.2.2.2.2.2.2.1, baC E jk697.2.2.2.2.2.2.2.1 jk697.2.2.2.2.2.2.2.2.2.2.1 jk697.2.2.2.2.2.2.2.2.2.2.2, smC E os f]) (bs2 := fun _ => OB E X hs w g g2 hg nx ct jk697 ++ [smC E os f]) rfl (by decide) (fun _ => rfl) (by decide) (fun r u H locs hw hP hD hS => ?_)
                                                subst hw
                                                refine lv_iload hx hb dL_law_732 (lv_at hl 20 rfl) ?_
                                                refine nv_icmp_ne (X := ((g 8 6 : Nat) : Int)) (Y := ((ch : Nat) : Int)) hx hb (nI_toInt (by omega)) (nI_toInt (by omega)) (tgt := 741) dL_law_734 (by decide) (fun c_37 => ?_) (fun c_37 => ?_)
                                                · exact absurd c_37 (by omega)
                                                · skip
                                                  refine lv_iconst (v := nI 1) hx hb dL_law_737 (by decide) ?_
                                                  refine lv_goto (tgt := 742) hx hb dL_law_738 (by decide) ?_
                                                  refine lv_iand hx hb dL_law_742 ?_
                                                  refine tp_i (show nI 1 &&& nI 1 = nI 1 from by decide) ?_
                                                  refine lv_istore (lv' := [(30, .int (nI 1)), (0, .ref (E.2.2 202)), (1, .ref (X 0 0)), (2, .ref os), (3, .int (nI made)), (4, .int (nI k9)), (5, .int (nI n9)), (6, .long bf), (8, .int (nI kd)), (9, .int (nI sz)), (10, .int (nI m9)), (11, .int (nI beats)), (12, .int (nI ea)), (13, .int (nI tone)), (14, .int (nI tol)), (15, .int (nI fav)), (16, .int (nI qu)), (17, .int (nI ho)), (18, .int (nI be)), (19, .int (nI su)), (20, .int (nI ch)), (21, .int v21), (22, .int v22), (23, .int v23), (24, .int v24), (26, .int v26), (27, .int (nI bo)), (28, .int (nI 1)), (29, .int (nI 1)), (31, .int (nI 0))]) hx hb dL_law_743 hl (by decide) rfl (fun ls hl => ?_)
                                                  exact W_widen (by omega) (by omega) (kk jk697 _ _ _ hjk697 hP hD hS (lv_sub hl [1, 2, 3, 4, 5, 6, 7, 28, 0] rfl))
                                        refine lv_iload hx hb dL_law_665 (lv_at hl 13 rfl) ?_
                                        refine lv_iload hx hb dL_law_667 (lv_at hl 12 rfl) ?_
                                        refine nv_icmp_ge (X := ((m9 : Nat) : Int)) (Y := ((sz : Nat) : Int)) hx hb (nI_toInt (by omega)) (nI_toInt (by omega)) (tgt := 697) dL_law_669 (by decide) (fun c_38 => ?_) (fun c_38 => ?_)
                                        · skip
                                          exact W_widen (by omega) (by omega) (k697 j hj _ _ _ hP hD hS (lv_sub hl [4, 5, 6, 7, 8, 9, 10, 11, 12, 13, 14, 15, 16, 17, 18, 19, 20, 21, 22, 23, 24, 25, 26, 27, 29, 30, 3, 2, 0, 1] rfl))
                                        · skip
                                          obtain ⟨hv25, h6a, h6b⟩ := hxq (by omega)
                                          have h6c := hI.2.2.2.1.2.2.1 m9
                                          have h6d := hbud.2.2.2.2.2.2
                                          have hl : lv_has ls 32 [(30, .int (nI 1)), (31, .int (nI 0)), (29, .int (nI 1)), (28, .int (nI 1)), (0, .ref (E.2.2 202)), (1, .ref (X 0 0)), (2, .ref os), (3, .int (nI made)), (4, .int (nI k9)), (5, .int (nI n9)), (6, .long bf), (8, .int (nI kd)), (9, .int (nI sz)), (10, .int (nI m9)), (11, .int (nI beats)), (12, .int (nI ea)), (13, .int (nI tone)), (14, .int (nI tol)), (15, .int (nI fav)), (16, .int (nI qu)), (17, .int (nI ho)), (18, .int (nI be)), (19, .int (nI su)), (20, .int (nI ch)), (21, .int v21), (22, .int v22), (23, .int v23), (24, .int v24), (25, .int (nI x25)), (26, .int v26), (27, .int (nI bo))] := by rw [show nI x25 = v25 from hv25.symm]; exact hl
                                          refine lv_aload_n hx hb dL_law_672 rfl (lv_at hl 5 rfl) ?_
                                          refine lv_iload hx hb dL_law_673 (lv_at hl 13 rfl) ?_
                                          refine run_i (S := JT) (run_SX (As := [.ref (X 0 0), .int (nI m9)]) (rest := [.int (nI 1)]) (bs := OB E X hs w g g2 hg nx ct j ++ [smC E os f]) (cb := OB E X hs w g g2 hg nx ct j) hx hb hml hown hts hK hZ hDD hA (c_L_dissents l hst E _ X hs w g g2 B hI hg nx ct hnx hct j hj (nI m9)) l_L_211 rfl ⟨⟨rfl, rfl⟩, Nat.le_of_ble_eq_true rfl, Nat.le_of_ble_eq_true rfl⟩ [0, 1, 2, 3, 4, 5, 6, 7, 8, 9] rfl (by decide) hP hD hS hl.1 rfl (Nat.le_of_ble_eq_true rfl) dL_law_675 ⟨by show cells + 1 ≤ 800891; omega, by show slots + 6 ≤ 6687511; omega⟩) hA hP hD hS (isC := [0, 1, 2, 3, 4, 5, 6, 7, 8, 9]) rfl [10] [1, 2, 3, 4, 5, 6, 7, 8, 9, 10, 0] (br := [smC E os f]) (bs2 := fun u => OB E X hs w g g2 hg nx ct u ++ [smC E os f]) rfl (by decide) (fun _ => rfl) (by decide) (fun r j_39 H locs hw hP hD hS => ?_)
                                          obtain ⟨hw, hj_40⟩ := hw
                                          refine tp_i hw ?_
                                          refine tp_i (show wf g (g 6) (nI m9) = nI (g 6 m9) from wf_in hmc (by omega)) ?_
                                          refine lv_iload hx hb dL_law_678 (lv_at hl 28 rfl) ?_
                                          refine nv_icmp_lt (X := ((g 6 m9 : Nat) : Int)) (Y := ((x25 : Nat) : Int)) hx hb (nI_toInt (by omega)) (nI_toInt (by omega)) (tgt := 701) dL_law_680 (by decide) (fun c_41 => ?_) (fun c_41 => ?_)
                                          · exact absurd c_41 (by omega)
                                          · skip
                                            refine lv_aload_n hx hb dL_law_683 rfl (lv_at hl 5 rfl) ?_
                                            refine lv_iload hx hb dL_law_684 (lv_at hl 13 rfl) ?_
                                            refine run_i (S := JT) (run_SX (As := [.ref (X 0 0), .int (nI m9)]) (rest := [.int (nI 1)]) (bs := OB E X hs w g g2 hg nx ct j_39 ++ [smC E os f]) (cb := OB E X hs w g g2 hg nx ct j_39) hx hb hml hown hts hK hZ hDD hA (c_L_dissents l hst E _ X hs w g g2 B hI hg nx ct hnx hct j_39 hj_40 (nI m9)) l_L_211 rfl ⟨⟨rfl, rfl⟩, Nat.le_of_ble_eq_true rfl, Nat.le_of_ble_eq_true rfl⟩ [0, 1, 2, 3, 4, 5, 6, 7, 8, 9] rfl (by decide) hP hD hS hl.1 rfl (Nat.le_of_ble_eq_true rfl) dL_law_686 ⟨by show (cells + 1) + 1 ≤ 800891; omega, by show (slots + 6) + 6 ≤ 6687511; omega⟩) hA hP hD hS (isC := [0, 1, 2, 3, 4, 5, 6, 7, 8, 9]) rfl [10] [1, 2, 3, 4, 5, 6, 7, 8, 9, 10, 0] (br := [smC E os f]) (bs2 := fun u => OB E X hs w g g2 hg nx ct u ++ [smC E os f]) rfl (by decide) (fun _ => rfl) (by decide) (fun r j_42 H locs hw hP hD hS => ?_)
                                            obtain ⟨hw, hj_43⟩ := hw
                                            refine tp_i hw ?_
                                            refine tp_i (show wf g (g 6) (nI m9) = nI (g 6 m9) from wf_in hmc (by omega)) ?_
                                            refine lv_iload hx hb dL_law_689 (lv_at hl 28 rfl) ?_
                                            refine lv_iload hx hb dL_law_691 (lv_at hl 3 rfl) ?_
                                            refine nv_iadd hx hb dL_law_693 ?_
                                            refine nv_icmp_gt (X := ((g 6 m9 : Nat) : Int)) (Y := ((x25 + 1 : Nat) : Int)) hx hb (nI_toInt (by omega)) (nI_toInt (by omega)) (tgt := 701) dL_law_694 (by decide) (fun c_44 => ?_) (fun c_44 => ?_)
                                            · exact absurd c_44 (by omega)
                                            · skip
                                              exact W_widen (by omega) (by omega) (k697 j_42 hj_43 _ _ _ hP hD hS (lv_sub hl [4, 5, 6, 7, 8, 9, 10, 11, 12, 13, 14, 15, 16, 17, 18, 19, 20, 21, 22, 23, 24, 25, 26, 27, 29, 30, 3, 2, 0, 1] rfl))
                          · exact absurd c_13 (by omega)
                    · exact absurd c_10 (by omega)
                  · exact absurd c_9 (by omega)
            · exact absurd c_6 (by omega)
      · exact absurd c_3 (by omega)
set_option maxHeartbeats 8000000 in
set_option maxRecDepth 100000 in
theorem chk_K7 {p : Program} {l : Launch} {e : Env} {s : State} {m : MethodId} {args : Array Value} {below : List Frame} {meth : Method} {c : Code} {E : EE} {A : Nat → Prop} {Q : State → Prop} (X hs : Nat → Nat → Nat) (os : Nat) (f : Nat → Int64) (w : Nat → Nat) (g g2 : GG) (B : Nat) (hI : IB B g) (hg : Nat → GG) (nx ct : Nat) (hnx : nx < 8) (hct : ct ≤ 8) (j : JT) (hj : JV j) (bf : Int64) (kd sz m9 beats ea tone tol fav qu ho be su ch bo made k9 n9 : Nat) (v21 v22 v23 v24 v25 v26 : Int32) (x25 : Nat) (hsz : sz ≤ 8) (hm9 : m9 ≤ 8) (hbe : g 8 1 = be) (hch : g 8 6 = ch) (hk : 31 ≤ kd) (hk2 : kd < 36) (h0 : g 8 0 = sz) (hfb : fav ≤ 400 ∧ qu ≤ 400) (htb : tone < 12 ∧ ho < 12) (hq : fav < qu) (h3 : g 8 3 = ho) (hxq : m9 < sz → v25 = nI x25 ∧ x25 ≤ g 6 m9 ∧ g 6 m9 ≤ x25 + 0) (C : LCL p l s m args c E A) {cells slots : Nat} (hcs : cells + 100 ≤ 800000 ∧ slots + 600 ≤ 6680000) (kk : ∀ (j9 : JT) (H : Heap) (locs : List Loc) (ls : Array Slot), JV j9 → va_P E.1 vwCl (OB E X hs w g g2 hg nx ct j9 ++ [smC E os f] : List va_W).flatten H → va_D A (OB E X hs w g g2 hg nx ct j9 ++ [smC E os f] : List va_W).flatten → va_S A s.heap H locs → lv_has ls 32 [(0, .ref (E.2.2 202)), (1, .ref (X 0 0)), (2, .ref os), (3, .int (nI made)), (4, .int (nI k9)), (5, .int (nI n9)), (6, .long bf), (29, .int (nI 1)), (30, .int (nI 1))] → W p l e room_1 s m args below meth c H locs (cells + 40) (slots + 240) Q (F0 m 745 ls [])) {H : Heap} {locs : List Loc} {ls : Array Slot} (hP : va_P E.1 vwCl (OB E X hs w g g2 hg nx ct j ++ [smC E os f] : List va_W).flatten H) (hD : va_D A (OB E X hs w g g2 hg nx ct j ++ [smC E os f] : List va_W).flatten) (hS : va_S A s.heap H locs) (hl : lv_has ls 32 [(0, .ref (E.2.2 202)), (1, .ref (X 0 0)), (2, .ref os), (3, .int (nI made)), (4, .int (nI k9)), (5, .int (nI n9)), (6, .long bf), (8, .int (nI kd)), (9, .int (nI sz)), (10, .int (nI m9)), (11, .int (nI beats)), (12, .int (nI ea)), (13, .int (nI tone)), (14, .int (nI tol)), (15, .int (nI fav)), (16, .int (nI qu)), (17, .int (nI ho)), (18, .int (nI be)), (19, .int (nI su)), (20, .int (nI ch)), (21, .int v21), (22, .int v22), (23, .int v23), (24, .int v24), (25, .int v25), (26, .int v26), (27, .int (nI bo))]) : W p l e room_1 s m args below meth c H locs cells slots Q (F0 m 276 ls [.int (nI 0)]) := by
  have C0 := C
  obtain ⟨hx, hb, hml, hown, hts, hK, hZ, hDD, hA, hst, hL⟩ := C
  have hmc := hI.mc
  have hbud := hI.bud
  refine lv_istore (lv' := [(28, .int (nI 0)), (0, .ref (E.2.2 202)), (1, .ref (X 0 0)), (2, .ref os), (3, .int (nI made)), (4, .int (nI k9)), (5, .int (nI n9)), (6, .long bf), (8, .int (nI kd)), (9, .int (nI sz)), (10, .int (nI m9)), (11, .int (nI beats)), (12, .int (nI ea)), (13, .int (nI tone)), (14, .int (nI tol)), (15, .int (nI fav)), (16, .int (nI qu)), (17, .int (nI ho)), (18, .int (nI be)), (19, .int (nI su)), (20, .int (nI ch)), (21, .int v21), (22, .int v22), (23, .int v23), (24, .int v24), (25, .int v25), (26, .int v26), (27, .int (nI bo))]) hx hb dL_law_276 hl (by decide) rfl (fun ls hl => ?_)
  refine lv_iload hx hb dL_law_278 (lv_at hl 0 rfl) ?_
  refine lv_bipush (v := -70) hx hb dL_law_280 (by decide) ?_
  refine nv_icmp_le (X := ((0 : Nat) : Int)) (Y := (-70)) hx hb (nI_toInt (by omega)) (by decide) (tgt := 289) dL_law_282 (by decide) (fun c_1 => ?_) (fun c_1 => ?_)
  · exact absurd c_1 (by omega)
  · skip
    refine lv_iconst (v := nI 1) hx hb dL_law_285 (by decide) ?_
    refine lv_goto (tgt := 290) hx hb dL_law_286 (by decide) ?_
    refine lv_istore (lv' := [(29, .int (nI 1)), (28, .int (nI 0)), (0, .ref (E.2.2 202)), (1, .ref (X 0 0)), (2, .ref os), (3, .int (nI made)), (4, .int (nI k9)), (5, .int (nI n9)), (6, .long bf), (8, .int (nI kd)), (9, .int (nI sz)), (10, .int (nI m9)), (11, .int (nI beats)), (12, .int (nI ea)), (13, .int (nI tone)), (14, .int (nI tol)), (15, .int (nI fav)), (16, .int (nI qu)), (17, .int (nI ho)), (18, .int (nI be)), (19, .int (nI su)), (20, .int (nI ch)), (21, .int v21), (22, .int v22), (23, .int v23), (24, .int v24), (25, .int v25), (26, .int v26), (27, .int (nI bo))]) hx hb dL_law_290 hl (by decide) rfl (fun ls hl => ?_)
    refine lv_iload hx hb dL_law_292 (lv_at hl 0 rfl) ?_
    refine nv_if_eq (X := ((1 : Nat) : Int)) hx hb (nI_toInt (by omega)) (tgt := 337) dL_law_294 (by decide) (fun c_2 => ?_) (fun c_2 => ?_)
    · exact absurd c_2 (by omega)
    · skip
      refine lv_iload hx hb dL_law_297 (lv_at hl 9 rfl) ?_
      refine lv_iconst (v := nI 3) hx hb dL_law_299 (by decide) ?_
      refine nv_icmp_gt (X := ((kd : Nat) : Int)) (Y := ((3 : Nat) : Int)) hx hb (nI_toInt (by omega)) (nI_toInt (by omega)) (tgt := 337) dL_law_300 (by decide) (fun c_3 => ?_) (fun c_3 => ?_)
      · skip
        refine lv_iconst (v := nI 1) hx hb dL_law_337 (by decide) ?_
        refine lv_goto (tgt := 342) hx hb dL_law_338 (by decide) ?_
        refine lv_istore (lv' := [(30, .int (nI 1)), (29, .int (nI 1)), (28, .int (nI 0)), (0, .ref (E.2.2 202)), (1, .ref (X 0 0)), (2, .ref os), (3, .int (nI made)), (4, .int (nI k9)), (5, .int (nI n9)), (6, .long bf), (8, .int (nI kd)), (9, .int (nI sz)), (10, .int (nI m9)), (11, .int (nI beats)), (12, .int (nI ea)), (13, .int (nI tone)), (14, .int (nI tol)), (15, .int (nI fav)), (16, .int (nI qu)), (17, .int (nI ho)), (18, .int (nI be)), (19, .int (nI su)), (20, .int (nI ch)), (21, .int v21), (22, .int v22), (23, .int v23), (24, .int v24), (25, .int v25), (26, .int v26), (27, .int (nI bo))]) hx hb dL_law_342 hl (by decide) rfl (fun ls hl => ?_)
        refine lv_iload hx hb dL_law_344 (lv_at hl 0 rfl) ?_
        refine lv_iload hx hb dL_law_346 (lv_at hl 1 rfl) ?_
        refine nv_if_eq (X := ((1 : Nat) : Int)) hx hb (nI_toInt (by omega)) (tgt := 405) dL_law_348 (by decide) (fun c_4 => ?_) (fun c_4 => ?_)
        · exact absurd c_4 (by omega)
        · skip
          refine lv_iload hx hb dL_law_351 (lv_at hl 10 rfl) ?_
          refine lv_bipush (v := nI 16) hx hb dL_law_353 (by decide) ?_
          refine nv_icmp_lt (X := ((kd : Nat) : Int)) (Y := ((16 : Nat) : Int)) hx hb (nI_toInt (by omega)) (nI_toInt (by omega)) (tgt := 405) dL_law_355 (by decide) (fun c_5 => ?_) (fun c_5 => ?_)
          · exact absurd c_5 (by omega)
          · skip
            refine lv_iload hx hb dL_law_358 (lv_at hl 10 rfl) ?_
            refine lv_bipush (v := nI 18) hx hb dL_law_360 (by decide) ?_
            refine nv_icmp_gt (X := ((kd : Nat) : Int)) (Y := ((18 : Nat) : Int)) hx hb (nI_toInt (by omega)) (nI_toInt (by omega)) (tgt := 405) dL_law_362 (by decide) (fun c_6 => ?_) (fun c_6 => ?_)
            · skip
              refine lv_iconst (v := nI 1) hx hb dL_law_405 (by decide) ?_
              refine lv_goto (tgt := 410) hx hb dL_law_406 (by decide) ?_
              refine lv_iand hx hb dL_law_410 ?_
              refine tp_i (show nI 1 &&& nI 1 = nI 1 from by decide) ?_
              refine lv_istore (lv' := [(30, .int (nI 1)), (29, .int (nI 1)), (28, .int (nI 0)), (0, .ref (E.2.2 202)), (1, .ref (X 0 0)), (2, .ref os), (3, .int (nI made)), (4, .int (nI k9)), (5, .int (nI n9)), (6, .long bf), (8, .int (nI kd)), (9, .int (nI sz)), (10, .int (nI m9)), (11, .int (nI beats)), (12, .int (nI ea)), (13, .int (nI tone)), (14, .int (nI tol)), (15, .int (nI fav)), (16, .int (nI qu)), (17, .int (nI ho)), (18, .int (nI be)), (19, .int (nI su)), (20, .int (nI ch)), (21, .int v21), (22, .int v22), (23, .int v23), (24, .int v24), (25, .int v25), (26, .int v26), (27, .int (nI bo))]) hx hb dL_law_411 hl (by decide) rfl (fun ls hl => ?_)
              refine lv_iload hx hb dL_law_413 (lv_at hl 1 rfl) ?_
              refine nv_if_eq (X := ((1 : Nat) : Int)) hx hb (nI_toInt (by omega)) (tgt := 436) dL_law_415 (by decide) (fun c_7 => ?_) (fun c_7 => ?_)
              · exact absurd c_7 (by omega)
              · skip
                refine lv_iload hx hb dL_law_418 (lv_at hl 10 rfl) ?_
                refine lv_bipush (v := nI 18) hx hb dL_law_420 (by decide) ?_
                refine nv_icmp_le (X := ((kd : Nat) : Int)) (Y := ((18 : Nat) : Int)) hx hb (nI_toInt (by omega)) (nI_toInt (by omega)) (tgt := 436) dL_law_422 (by decide) (fun c_8 => ?_) (fun c_8 => ?_)
                · exact absurd c_8 (by omega)
                · skip
                  refine lv_iload hx hb dL_law_425 (lv_at hl 10 rfl) ?_
                  refine lv_bipush (v := nI 28) hx hb dL_law_427 (by decide) ?_
                  refine nv_icmp_ge (X := ((kd : Nat) : Int)) (Y := ((28 : Nat) : Int)) hx hb (nI_toInt (by omega)) (nI_toInt (by omega)) (tgt := 436) dL_law_429 (by decide) (fun c_9 => ?_) (fun c_9 => ?_)
                  · skip
                    refine lv_iconst (v := nI 0) hx hb dL_law_436 (by decide) ?_
                    refine lv_istore (lv' := [(31, .int (nI 0)), (30, .int (nI 1)), (29, .int (nI 1)), (28, .int (nI 0)), (0, .ref (E.2.2 202)), (1, .ref (X 0 0)), (2, .ref os), (3, .int (nI made)), (4, .int (nI k9)), (5, .int (nI n9)), (6, .long bf), (8, .int (nI kd)), (9, .int (nI sz)), (10, .int (nI m9)), (11, .int (nI beats)), (12, .int (nI ea)), (13, .int (nI tone)), (14, .int (nI tol)), (15, .int (nI fav)), (16, .int (nI qu)), (17, .int (nI ho)), (18, .int (nI be)), (19, .int (nI su)), (20, .int (nI ch)), (21, .int v21), (22, .int v22), (23, .int v23), (24, .int v24), (25, .int v25), (26, .int v26), (27, .int (nI bo))]) hx hb dL_law_437 hl (by decide) rfl (fun ls hl => ?_)
                    refine lv_iload hx hb dL_law_439 (lv_at hl 1 rfl) ?_
                    refine lv_iload hx hb dL_law_441 (lv_at hl 0 rfl) ?_
                    refine nv_if_eq (X := ((0 : Nat) : Int)) hx hb (nI_toInt (by omega)) (tgt := 540) dL_law_443 (by decide) (fun c_10 => ?_) (fun c_10 => ?_)
                    · skip
                      refine lv_iconst (v := nI 1) hx hb dL_law_540 (by decide) ?_
                      refine lv_goto (tgt := 545) hx hb dL_law_541 (by decide) ?_
                      refine lv_iand hx hb dL_law_545 ?_
                      refine tp_i (show nI 1 &&& nI 1 = nI 1 from by decide) ?_
                      refine lv_istore (lv' := [(30, .int (nI 1)), (31, .int (nI 0)), (29, .int (nI 1)), (28, .int (nI 0)), (0, .ref (E.2.2 202)), (1, .ref (X 0 0)), (2, .ref os), (3, .int (nI made)), (4, .int (nI k9)), (5, .int (nI n9)), (6, .long bf), (8, .int (nI kd)), (9, .int (nI sz)), (10, .int (nI m9)), (11, .int (nI beats)), (12, .int (nI ea)), (13, .int (nI tone)), (14, .int (nI tol)), (15, .int (nI fav)), (16, .int (nI qu)), (17, .int (nI ho)), (18, .int (nI be)), (19, .int (nI su)), (20, .int (nI ch)), (21, .int v21), (22, .int v22), (23, .int v23), (24, .int v24), (25, .int v25), (26, .int v26), (27, .int (nI bo))]) hx hb dL_law_546 hl (by decide) rfl (fun ls hl => ?_)
                      refine lv_iload hx hb dL_law_548 (lv_at hl 0 rfl) ?_
                      refine lv_iload hx hb dL_law_550 (lv_at hl 2 rfl) ?_
                      refine nv_if_eq (X := ((1 : Nat) : Int)) hx hb (nI_toInt (by omega)) (tgt := 604) dL_law_552 (by decide) (fun c_11 => ?_) (fun c_11 => ?_)
                      · exact absurd c_11 (by omega)
                      · skip
                        refine lv_iload hx hb dL_law_555 (lv_at hl 11 rfl) ?_
                        refine lv_bipush (v := nI 28) hx hb dL_law_557 (by decide) ?_
                        refine nv_icmp_lt (X := ((kd : Nat) : Int)) (Y := ((28 : Nat) : Int)) hx hb (nI_toInt (by omega)) (nI_toInt (by omega)) (tgt := 604) dL_law_559 (by decide) (fun c_12 => ?_) (fun c_12 => ?_)
                        · exact absurd c_12 (by omega)
                        · skip
                          refine lv_iload hx hb dL_law_562 (lv_at hl 11 rfl) ?_
                          refine lv_bipush (v := nI 30) hx hb dL_law_564 (by decide) ?_
                          refine nv_icmp_gt (X := ((kd : Nat) : Int)) (Y := ((30 : Nat) : Int)) hx hb (nI_toInt (by omega)) (nI_toInt (by omega)) (tgt := 604) dL_law_566 (by decide) (fun c_13 => ?_) (fun c_13 => ?_)
                          · skip
                            refine lv_iconst (v := nI 1) hx hb dL_law_604 (by decide) ?_
                            refine lv_goto (tgt := 609) hx hb dL_law_605 (by decide) ?_
                            refine lv_iand hx hb dL_law_609 ?_
                            refine tp_i (show nI 1 &&& nI 1 = nI 1 from by decide) ?_
                            refine lv_istore (lv' := [(30, .int (nI 1)), (31, .int (nI 0)), (29, .int (nI 1)), (28, .int (nI 0)), (0, .ref (E.2.2 202)), (1, .ref (X 0 0)), (2, .ref os), (3, .int (nI made)), (4, .int (nI k9)), (5, .int (nI n9)), (6, .long bf), (8, .int (nI kd)), (9, .int (nI sz)), (10, .int (nI m9)), (11, .int (nI beats)), (12, .int (nI ea)), (13, .int (nI tone)), (14, .int (nI tol)), (15, .int (nI fav)), (16, .int (nI qu)), (17, .int (nI ho)), (18, .int (nI be)), (19, .int (nI su)), (20, .int (nI ch)), (21, .int v21), (22, .int v22), (23, .int v23), (24, .int v24), (25, .int v25), (26, .int v26), (27, .int (nI bo))]) hx hb dL_law_610 hl (by decide) rfl (fun ls hl => ?_)
                            refine lv_iload hx hb dL_law_612 (lv_at hl 0 rfl) ?_
                            refine lv_iload hx hb dL_law_614 (lv_at hl 11 rfl) ?_
                            refine lv_bipush (v := nI 31) hx hb dL_law_616 (by decide) ?_
                            refine nv_icmp_lt (X := ((kd : Nat) : Int)) (Y := ((31 : Nat) : Int)) hx hb (nI_toInt (by omega)) (nI_toInt (by omega)) (tgt := 697) dL_law_618 (by decide) (fun c_14 => ?_) (fun c_14 => ?_)
                            · exact absurd c_14 (by omega)
                            · skip
                              refine lv_iload hx hb dL_law_621 (lv_at hl 11 rfl) ?_
                              refine lv_bipush (v := nI 35) hx hb dL_law_623 (by decide) ?_
                              refine nv_icmp_gt (X := ((kd : Nat) : Int)) (Y := ((35 : Nat) : Int)) hx hb (nI_toInt (by omega)) (nI_toInt (by omega)) (tgt := 697) dL_law_625 (by decide) (fun c_15 => ?_) (fun c_15 => ?_)
                              · exact absurd c_15 (by omega)
                              · skip
                                refine lv_iload hx hb dL_law_628 (lv_at hl 3 rfl) ?_
                                refine lv_iload hx hb dL_law_630 (lv_at hl 18 rfl) ?_
                                refine lv_iload hx hb dL_law_632 (lv_at hl 19 rfl) ?_
                                refine nv_icmp_lt (X := ((fav : Nat) : Int)) (Y := ((qu : Nat) : Int)) hx hb (nI_toInt (by omega)) (nI_toInt (by omega)) (tgt := 641) dL_law_634 (by decide) (fun c_16 => ?_) (fun c_16 => ?_)
                                · skip
                                  refine lv_iconst (v := nI 0) hx hb dL_law_641 (by decide) ?_
                                  refine nv_icmp_ne (X := ((0 : Nat) : Int)) (Y := ((0 : Nat) : Int)) hx hb (nI_toInt (by omega)) (nI_toInt (by omega)) (tgt := 701) dL_law_642 (by decide) (fun c_17 => ?_) (fun c_17 => ?_)
                                  · exact absurd c_17 (by omega)
                                  · skip
                                    refine lv_aload_n hx hb dL_law_645 rfl (lv_at hl 5 rfl) ?_
                                    refine run_i (S := Unit) (run_V (As := []) (rest := [.int (nI 1)]) (bs := OB E X hs w g g2 hg nx ct j ++ [smC E os f]) (cb := [coC E (X 0) (X 1) (X 2) (X 3) (X 4) (X 5) (X 6) (X 7) (X 8) w, stC E (X 1) g]) hx hb hml hown hts hK hZ hA (c_X5_houseTone l E _ (X 0) (X 1) (X 2) (X 3) (X 4) (X 5) (X 6) (X 7) (X 8) w g B hI) l_L_191 rfl ⟨⟨rfl, rfl⟩, Nat.le_of_ble_eq_true rfl, Nat.le_of_ble_eq_true rfl⟩ 9 rfl [0, 1] rfl (by decide) rfl hP hD hS hl.1 rfl (Nat.le_of_ble_eq_true rfl) dL_law_646 ⟨by show cells + 0 ≤ 800891; omega, by show slots + 0 ≤ 6687511; omega⟩) hA hP hD hS (isC := [0, 1]) rfl [2, 3, 4, 5, 6, 7, 8, 9, 10] [9, 10, 0, 1, 2, 3, 4, 5, 6, 7, 8] (br := [stC E (X 2) g2, stC E (X 3) j.1, hhC E (X 4) hs hg nx ct, diC E (X 5) j.2.1 j.2.2.1, grC E (X 6) j.2.2.2.1 j.2.2.2.2.1, prC E (X 7) j.2.2.2.2.2.1 j.2.2.2.2.2.2.1, sbO E (X 8) j.2.2.2.2.2.2.2.1 j.2.2.2.2.2.2.2.2.1 j.2.2.2.2.2.2.2.2.2.1, baC E j.2.2.2.2.2.2.2.1 j.2.2.2.2.2.2.2.2.2.2.1 j.2.2.2.2.2.2.2.2.2.2.2, smC E os f]) (bs2 := fun _ => OB E X hs w g g2 hg nx ct j ++ [smC E os f]) rfl (by decide) (fun _ => rfl) (by decide) (fun r u H locs hw hP hD hS => ?_)
                                    subst hw
                                    refine lv_iload hx hb dL_law_649 (lv_at hl 3 rfl) ?_
                                    refine lv_iconst (v := nI 1) hx hb dL_law_651 (by decide) ?_
                                    refine nv_icmp_ne (X := ((0 : Nat) : Int)) (Y := ((1 : Nat) : Int)) hx hb (nI_toInt (by omega)) (nI_toInt (by omega)) (tgt := 660) dL_law_652 (by decide) (fun c_18 => ?_) (fun c_18 => ?_)
                                    · skip
                                      refine lv_iload hx hb dL_law_660 (lv_at hl 20 rfl) ?_
                                      refine nv_icmp_ne (X := ((g 8 3 : Nat) : Int)) (Y := ((ho : Nat) : Int)) hx hb (nI_toInt (by omega)) (nI_toInt (by omega)) (tgt := 701) dL_law_662 (by decide) (fun c_19 => ?_) (fun c_19 => ?_)
                                      · exact absurd c_19 (by omega)
                                      · skip
                                        have k697 : ∀ (jk697 : JT), JV jk697 → ∀ (H : Heap) (locs : List Loc) (ls : Array Slot), va_P E.1 vwCl (OB E X hs w g g2 hg nx ct jk697 ++ [smC E os f] : List va_W).flatten H → va_D A (OB E X hs w g g2 hg nx ct jk697 ++ [smC E os f] : List va_W).flatten → va_S A s.heap H locs → lv_has ls 32 [(0, .ref (E.2.2 202)), (1, .ref (X 0 0)), (2, .ref os), (3, .int (nI made)), (4, .int (nI k9)), (5, .int (nI n9)), (6, .long bf), (8, .int (nI kd)), (9, .int (nI sz)), (10, .int (nI m9)), (11, .int (nI beats)), (12, .int (nI ea)), (13, .int (nI tone)), (14, .int (nI tol)), (15, .int (nI fav)), (16, .int (nI qu)), (17, .int (nI ho)), (18, .int (nI be)), (19, .int (nI su)), (20, .int (nI ch)), (21, .int v21), (22, .int v22), (23, .int v23), (24, .int v24), (26, .int v26), (27, .int (nI bo)), (28, .int (nI 0)), (29, .int (nI 1)), (30, .int (nI 1)), (31, .int (nI 0))] → W p l e room_1 s m args below meth c H locs (cells + 2) (slots + 12) Q (F0 m 697 ls [.int (nI 1)]) := by
                                          intro jk697 hjk697 H locs ls hP hD hS hl
                                          refine lv_iconst (v := nI 1) hx hb dL_law_697 (by decide) ?_
                                          refine lv_goto (tgt := 702) hx hb dL_law_698 (by decide) ?_
                                          refine lv_iand hx hb dL_law_702 ?_
                                          refine tp_i (show nI 1 &&& nI 1 = nI 1 from by decide) ?_
                                          refine lv_istore (lv' := [(30, .int (nI 1)), (0, .ref (E.2.2 202)), (1, .ref (X 0 0)), (2, .ref os), (3, .int (nI made)), (4, .int (nI k9)), (5, .int (nI n9)), (6, .long bf), (8, .int (nI kd)), (9, .int (nI sz)), (10, .int (nI m9)), (11, .int (nI beats)), (12, .int (nI ea)), (13, .int (nI tone)), (14, .int (nI tol)), (15, .int (nI fav)), (16, .int (nI qu)), (17, .int (nI ho)), (18, .int (nI be)), (19, .int (nI su)), (20, .int (nI ch)), (21, .int v21), (22, .int v22), (23, .int v23), (24, .int v24), (26, .int v26), (27, .int (nI bo)), (28, .int (nI 0)), (29, .int (nI 1)), (31, .int (nI 0))]) hx hb dL_law_703 hl (by decide) rfl (fun ls hl => ?_)
                                          refine lv_iload hx hb dL_law_705 (lv_at hl 0 rfl) ?_
                                          refine lv_iload hx hb dL_law_707 (lv_at hl 29 rfl) ?_
                                          refine nv_if_ne (X := ((0 : Nat) : Int)) hx hb (nI_toInt (by omega)) (tgt := 737) dL_law_709 (by decide) (fun c_20 => ?_) (fun c_20 => ?_)
                                          · exact absurd c_20 (by omega)
                                          · skip
                                            refine lv_iload hx hb dL_law_712 (lv_at hl 8 rfl) ?_
                                            refine lv_bipush (v := nI 35) hx hb dL_law_714 (by decide) ?_
                                            refine nv_icmp_gt (X := ((kd : Nat) : Int)) (Y := ((35 : Nat) : Int)) hx hb (nI_toInt (by omega)) (nI_toInt (by omega)) (tgt := 737) dL_law_716 (by decide) (fun c_21 => ?_) (fun c_21 => ?_)
                                            · exact absurd c_21 (by omega)
                                            · skip
                                              refine lv_aload_n hx hb dL_law_719 rfl (lv_at hl 2 rfl) ?_
                                              refine run_i (S := Unit) (run_V (As := []) (rest := [.int (nI 1)]) (bs := OB E X hs w g g2 hg nx ct jk697 ++ [smC E os f]) (cb := [coC E (X 0) (X 1) (X 2) (X 3) (X 4) (X 5) (X 6) (X 7) (X 8) w, stC E (X 1) g]) hx hb hml hown hts hK hZ hA (c_X5_beat l E _ (X 0) (X 1) (X 2) (X 3) (X 4) (X 5) (X 6) (X 7) (X 8) w g B hI) l_L_194 rfl ⟨⟨rfl, rfl⟩, Nat.le_of_ble_eq_true rfl, Nat.le_of_ble_eq_true rfl⟩ 9 rfl [0, 1] rfl (by decide) rfl hP hD hS hl.1 rfl (Nat.le_of_ble_eq_true rfl) dL_law_720 ⟨by show (cells + 2) + 0 ≤ 800891; omega, by show (slots + 12) + 0 ≤ 6687511; omega⟩) hA hP hD hS (isC := [0, 1]) rfl [2, 3, 4, 5, 6, 7, 8, 9, 10] [9, 10, 0, 1, 2, 3, 4, 5, 6, 7, 8] (br := [stC E (X 2) g2, stC E (X 3) jk697.1, hhC E (X 4) hs hg nx ct, diC E (X 5) jk697.2.1 jk697.2.2.1, grC E (X 6) jk697.2.2.2.1 jk697.2.2.2.2.1, prC E (X 7) jk697.2.2.2.2.2.1 jk697.2.2.2.2.2.2.1, sbO E (X 8) jk697.2.2.2.2.2.2.2.1 jk697.2.2.2.2.2.2.2.2.1 jk697.2.2.2.2.2.2.2.2.2.1, baC E jk697.2.2.2.2.2.2.2.1 jk697.2.2.2.2.2.2.2.2.2.2.1 jk697.2.2.2.2.2.2.2.2.2.2.2, smC E os f]) (bs2 := fun _ => OB E X hs w g g2 hg nx ct jk697 ++ [smC E os f]) rfl (by decide) (fun _ => rfl) (by decide) (fun r u H locs hw hP hD hS => ?_)
                                              subst hw
                                              refine lv_iload hx hb dL_law_723 (lv_at hl 18 rfl) ?_
                                              refine nv_icmp_ne (X := ((g 8 1 : Nat) : Int)) (Y := ((be : Nat) : Int)) hx hb (nI_toInt (by omega)) (nI_toInt (by omega)) (tgt := 741) dL_law_725 (by decide) (fun c_22 => ?_) (fun c_22 => ?_)
                                              · exact absurd c_22 (by omega)
                                              · skip
                                                refine lv_aload_n hx hb dL_law_728 rfl (lv_at hl 2 rfl) ?_
                                                refine run_i (S := Unit) (run_V (As := []) (rest := [.int (nI 1)]) (bs := OB E X hs w g g2 hg nx ct jk697 ++ [smC E os f]) (cb := [coC E (X 0) (X 1) (X 2) (X 3) (X 4) (X 5) (X 6) (X 7) (X 8) w, stC E (X 1) g]) hx hb hml hown hts hK hZ hA (c_X5_chirps l E _ (X 0) (X 1) (X 2) (X 3) (X 4) (X 5) (X 6) (X 7) (X 8) w g B hI) l_L_200 rfl ⟨⟨rfl, rfl⟩, Nat.le_of_ble_eq_true rfl, Nat.le_of_ble_eq_true rfl⟩ 9 rfl [0, 1] rfl (by decide) rfl hP hD hS hl.1 rfl (Nat.le_of_ble_eq_true rfl) dL_law_729 ⟨by show (cells + 2) + 0 ≤ 800891; omega, by show (slots + 12) + 0 ≤ 6687511; omega⟩) hA hP hD hS (isC := [0, 1]) rfl [2, 3, 4, 5, 6, 7, 8, 9, 10] [9, 10, 0, 1, 2, 3, 4, 5, 6, 7, 8] (br := [stC E (X 2) g2, stC E (X 3) jk697.1, hhC E (X 4) hs hg nx ct, diC E (X 5) jk697.2.1 jk697.2.2.1, grC E (X 6) jk697.2.2.2.1 jk697.2.2.2.2.1, prC E (X 7) jk697.2.2.2.2.2.1 jk697.2.2.2.2.2.2.1, sbO E (X 8) jk697.2.2.2.2.2.2.2.1 jk697.2.2.2.2.2.2.2.2.1 jk697.2.2.2.2.2.2.2.2.2.1, baC E jk697.2.2.2.2.2.2.2.1 jk697.2.2.2.2.2.2.2.2.2.2.1 jk697.2.2.2.2.2.2.2.2.2.2.2, smC E os f]) (bs2 := fun _ => OB E X hs w g g2 hg nx ct jk697 ++ [smC E os f]) rfl (by decide) (fun _ => rfl) (by decide) (fun r u H locs hw hP hD hS => ?_)
                                                subst hw
                                                refine lv_iload hx hb dL_law_732 (lv_at hl 20 rfl) ?_
                                                refine nv_icmp_ne (X := ((g 8 6 : Nat) : Int)) (Y := ((ch : Nat) : Int)) hx hb (nI_toInt (by omega)) (nI_toInt (by omega)) (tgt := 741) dL_law_734 (by decide) (fun c_23 => ?_) (fun c_23 => ?_)
                                                · exact absurd c_23 (by omega)
                                                · skip
                                                  refine lv_iconst (v := nI 1) hx hb dL_law_737 (by decide) ?_
                                                  refine lv_goto (tgt := 742) hx hb dL_law_738 (by decide) ?_
                                                  refine lv_iand hx hb dL_law_742 ?_
                                                  refine tp_i (show nI 1 &&& nI 1 = nI 1 from by decide) ?_
                                                  refine lv_istore (lv' := [(30, .int (nI 1)), (0, .ref (E.2.2 202)), (1, .ref (X 0 0)), (2, .ref os), (3, .int (nI made)), (4, .int (nI k9)), (5, .int (nI n9)), (6, .long bf), (8, .int (nI kd)), (9, .int (nI sz)), (10, .int (nI m9)), (11, .int (nI beats)), (12, .int (nI ea)), (13, .int (nI tone)), (14, .int (nI tol)), (15, .int (nI fav)), (16, .int (nI qu)), (17, .int (nI ho)), (18, .int (nI be)), (19, .int (nI su)), (20, .int (nI ch)), (21, .int v21), (22, .int v22), (23, .int v23), (24, .int v24), (26, .int v26), (27, .int (nI bo)), (28, .int (nI 0)), (29, .int (nI 1)), (31, .int (nI 0))]) hx hb dL_law_743 hl (by decide) rfl (fun ls hl => ?_)
                                                  exact W_widen (by omega) (by omega) (kk jk697 _ _ _ hjk697 hP hD hS (lv_sub hl [1, 2, 3, 4, 5, 6, 7, 28, 0] rfl))
                                        refine lv_iload hx hb dL_law_665 (lv_at hl 13 rfl) ?_
                                        refine lv_iload hx hb dL_law_667 (lv_at hl 12 rfl) ?_
                                        refine nv_icmp_ge (X := ((m9 : Nat) : Int)) (Y := ((sz : Nat) : Int)) hx hb (nI_toInt (by omega)) (nI_toInt (by omega)) (tgt := 697) dL_law_669 (by decide) (fun c_24 => ?_) (fun c_24 => ?_)
                                        · skip
                                          exact W_widen (by omega) (by omega) (k697 j hj _ _ _ hP hD hS (lv_sub hl [4, 5, 6, 7, 8, 9, 10, 11, 12, 13, 14, 15, 16, 17, 18, 19, 20, 21, 22, 23, 24, 25, 26, 27, 29, 30, 3, 2, 0, 1] rfl))
                                        · skip
                                          obtain ⟨hv25, h6a, h6b⟩ := hxq (by omega)
                                          have h6c := hI.2.2.2.1.2.2.1 m9
                                          have h6d := hbud.2.2.2.2.2.2
                                          have hl : lv_has ls 32 [(30, .int (nI 1)), (31, .int (nI 0)), (29, .int (nI 1)), (28, .int (nI 0)), (0, .ref (E.2.2 202)), (1, .ref (X 0 0)), (2, .ref os), (3, .int (nI made)), (4, .int (nI k9)), (5, .int (nI n9)), (6, .long bf), (8, .int (nI kd)), (9, .int (nI sz)), (10, .int (nI m9)), (11, .int (nI beats)), (12, .int (nI ea)), (13, .int (nI tone)), (14, .int (nI tol)), (15, .int (nI fav)), (16, .int (nI qu)), (17, .int (nI ho)), (18, .int (nI be)), (19, .int (nI su)), (20, .int (nI ch)), (21, .int v21), (22, .int v22), (23, .int v23), (24, .int v24), (25, .int (nI x25)), (26, .int v26), (27, .int (nI bo))] := by rw [show nI x25 = v25 from hv25.symm]; exact hl
                                          refine lv_aload_n hx hb dL_law_672 rfl (lv_at hl 5 rfl) ?_
                                          refine lv_iload hx hb dL_law_673 (lv_at hl 13 rfl) ?_
                                          refine run_i (S := JT) (run_SX (As := [.ref (X 0 0), .int (nI m9)]) (rest := [.int (nI 1)]) (bs := OB E X hs w g g2 hg nx ct j ++ [smC E os f]) (cb := OB E X hs w g g2 hg nx ct j) hx hb hml hown hts hK hZ hDD hA (c_L_dissents l hst E _ X hs w g g2 B hI hg nx ct hnx hct j hj (nI m9)) l_L_211 rfl ⟨⟨rfl, rfl⟩, Nat.le_of_ble_eq_true rfl, Nat.le_of_ble_eq_true rfl⟩ [0, 1, 2, 3, 4, 5, 6, 7, 8, 9] rfl (by decide) hP hD hS hl.1 rfl (Nat.le_of_ble_eq_true rfl) dL_law_675 ⟨by show cells + 1 ≤ 800891; omega, by show slots + 6 ≤ 6687511; omega⟩) hA hP hD hS (isC := [0, 1, 2, 3, 4, 5, 6, 7, 8, 9]) rfl [10] [1, 2, 3, 4, 5, 6, 7, 8, 9, 10, 0] (br := [smC E os f]) (bs2 := fun u => OB E X hs w g g2 hg nx ct u ++ [smC E os f]) rfl (by decide) (fun _ => rfl) (by decide) (fun r j_25 H locs hw hP hD hS => ?_)
                                          obtain ⟨hw, hj_26⟩ := hw
                                          refine tp_i hw ?_
                                          refine tp_i (show wf g (g 6) (nI m9) = nI (g 6 m9) from wf_in hmc (by omega)) ?_
                                          refine lv_iload hx hb dL_law_678 (lv_at hl 28 rfl) ?_
                                          refine nv_icmp_lt (X := ((g 6 m9 : Nat) : Int)) (Y := ((x25 : Nat) : Int)) hx hb (nI_toInt (by omega)) (nI_toInt (by omega)) (tgt := 701) dL_law_680 (by decide) (fun c_27 => ?_) (fun c_27 => ?_)
                                          · exact absurd c_27 (by omega)
                                          · skip
                                            refine lv_aload_n hx hb dL_law_683 rfl (lv_at hl 5 rfl) ?_
                                            refine lv_iload hx hb dL_law_684 (lv_at hl 13 rfl) ?_
                                            refine run_i (S := JT) (run_SX (As := [.ref (X 0 0), .int (nI m9)]) (rest := [.int (nI 1)]) (bs := OB E X hs w g g2 hg nx ct j_25 ++ [smC E os f]) (cb := OB E X hs w g g2 hg nx ct j_25) hx hb hml hown hts hK hZ hDD hA (c_L_dissents l hst E _ X hs w g g2 B hI hg nx ct hnx hct j_25 hj_26 (nI m9)) l_L_211 rfl ⟨⟨rfl, rfl⟩, Nat.le_of_ble_eq_true rfl, Nat.le_of_ble_eq_true rfl⟩ [0, 1, 2, 3, 4, 5, 6, 7, 8, 9] rfl (by decide) hP hD hS hl.1 rfl (Nat.le_of_ble_eq_true rfl) dL_law_686 ⟨by show (cells + 1) + 1 ≤ 800891; omega, by show (slots + 6) + 6 ≤ 6687511; omega⟩) hA hP hD hS (isC := [0, 1, 2, 3, 4, 5, 6, 7, 8, 9]) rfl [10] [1, 2, 3, 4, 5, 6, 7, 8, 9, 10, 0] (br := [smC E os f]) (bs2 := fun u => OB E X hs w g g2 hg nx ct u ++ [smC E os f]) rfl (by decide) (fun _ => rfl) (by decide) (fun r j_28 H locs hw hP hD hS => ?_)
                                            obtain ⟨hw, hj_29⟩ := hw
                                            refine tp_i hw ?_
                                            refine tp_i (show wf g (g 6) (nI m9) = nI (g 6 m9) from wf_in hmc (by omega)) ?_
                                            refine lv_iload hx hb dL_law_689 (lv_at hl 28 rfl) ?_
                                            refine lv_iload hx hb dL_law_691 (lv_at hl 3 rfl) ?_
                                            refine nv_iadd hx hb dL_law_693 ?_
                                            refine nv_icmp_gt (X := ((g 6 m9 : Nat) : Int)) (Y := ((x25 + 0 : Nat) : Int)) hx hb (nI_toInt (by omega)) (nI_toInt (by omega)) (tgt := 701) dL_law_694 (by decide) (fun c_30 => ?_) (fun c_30 => ?_)
                                            · exact absurd c_30 (by omega)
                                            · skip
                                              exact W_widen (by omega) (by omega) (k697 j_28 hj_29 _ _ _ hP hD hS (lv_sub hl [4, 5, 6, 7, 8, 9, 10, 11, 12, 13, 14, 15, 16, 17, 18, 19, 20, 21, 22, 23, 24, 25, 26, 27, 29, 30, 3, 2, 0, 1] rfl))
                                    · exact absurd c_18 (by omega)
                                · skip
                                  refine lv_iconst (v := nI 1) hx hb dL_law_637 (by decide) ?_
                                  refine lv_goto (tgt := 642) hx hb dL_law_638 (by decide) ?_
                                  refine nv_icmp_ne (X := ((0 : Nat) : Int)) (Y := ((1 : Nat) : Int)) hx hb (nI_toInt (by omega)) (nI_toInt (by omega)) (tgt := 701) dL_law_642 (by decide) (fun c_31 => ?_) (fun c_31 => ?_)
                                  · exact absurd c_31 (by omega)
                                  · skip
                                    refine lv_aload_n hx hb dL_law_645 rfl (lv_at hl 5 rfl) ?_
                                    refine run_i (S := Unit) (run_V (As := []) (rest := [.int (nI 1)]) (bs := OB E X hs w g g2 hg nx ct j ++ [smC E os f]) (cb := [coC E (X 0) (X 1) (X 2) (X 3) (X 4) (X 5) (X 6) (X 7) (X 8) w, stC E (X 1) g]) hx hb hml hown hts hK hZ hA (c_X5_houseTone l E _ (X 0) (X 1) (X 2) (X 3) (X 4) (X 5) (X 6) (X 7) (X 8) w g B hI) l_L_191 rfl ⟨⟨rfl, rfl⟩, Nat.le_of_ble_eq_true rfl, Nat.le_of_ble_eq_true rfl⟩ 9 rfl [0, 1] rfl (by decide) rfl hP hD hS hl.1 rfl (Nat.le_of_ble_eq_true rfl) dL_law_646 ⟨by show cells + 0 ≤ 800891; omega, by show slots + 0 ≤ 6687511; omega⟩) hA hP hD hS (isC := [0, 1]) rfl [2, 3, 4, 5, 6, 7, 8, 9, 10] [9, 10, 0, 1, 2, 3, 4, 5, 6, 7, 8] (br := [stC E (X 2) g2, stC E (X 3) j.1, hhC E (X 4) hs hg nx ct, diC E (X 5) j.2.1 j.2.2.1, grC E (X 6) j.2.2.2.1 j.2.2.2.2.1, prC E (X 7) j.2.2.2.2.2.1 j.2.2.2.2.2.2.1, sbO E (X 8) j.2.2.2.2.2.2.2.1 j.2.2.2.2.2.2.2.2.1 j.2.2.2.2.2.2.2.2.2.1, baC E j.2.2.2.2.2.2.2.1 j.2.2.2.2.2.2.2.2.2.2.1 j.2.2.2.2.2.2.2.2.2.2.2, smC E os f]) (bs2 := fun _ => OB E X hs w g g2 hg nx ct j ++ [smC E os f]) rfl (by decide) (fun _ => rfl) (by decide) (fun r u H locs hw hP hD hS => ?_)
                                    subst hw
                                    refine lv_iload hx hb dL_law_649 (lv_at hl 3 rfl) ?_
                                    refine lv_iconst (v := nI 1) hx hb dL_law_651 (by decide) ?_
                                    refine nv_icmp_ne (X := ((0 : Nat) : Int)) (Y := ((1 : Nat) : Int)) hx hb (nI_toInt (by omega)) (nI_toInt (by omega)) (tgt := 660) dL_law_652 (by decide) (fun c_32 => ?_) (fun c_32 => ?_)
                                    · skip
                                      refine lv_iload hx hb dL_law_660 (lv_at hl 20 rfl) ?_
                                      refine nv_icmp_ne (X := ((g 8 3 : Nat) : Int)) (Y := ((ho : Nat) : Int)) hx hb (nI_toInt (by omega)) (nI_toInt (by omega)) (tgt := 701) dL_law_662 (by decide) (fun c_33 => ?_) (fun c_33 => ?_)
                                      · exact absurd c_33 (by omega)
                                      · skip
                                        have k697 : ∀ (jk697 : JT), JV jk697 → ∀ (H : Heap) (locs : List Loc) (ls : Array Slot), va_P E.1 vwCl (OB E X hs w g g2 hg nx ct jk697 ++ [smC E os f] : List va_W).flatten H → va_D A (OB E X hs w g g2 hg nx ct jk697 ++ [smC E os f] : List va_W).flatten → va_S A s.heap H locs → lv_has ls 32 [(0, .ref (E.2.2 202)), (1, .ref (X 0 0)), (2, .ref os), (3, .int (nI made)), (4, .int (nI k9)), (5, .int (nI n9)), (6, .long bf), (8, .int (nI kd)), (9, .int (nI sz)), (10, .int (nI m9)), (11, .int (nI beats)), (12, .int (nI ea)), (13, .int (nI tone)), (14, .int (nI tol)), (15, .int (nI fav)), (16, .int (nI qu)), (17, .int (nI ho)), (18, .int (nI be)), (19, .int (nI su)), (20, .int (nI ch)), (21, .int v21), (22, .int v22), (23, .int v23), (24, .int v24), (26, .int v26), (27, .int (nI bo)), (28, .int (nI 0)), (29, .int (nI 1)), (30, .int (nI 1)), (31, .int (nI 0))] → W p l e room_1 s m args below meth c H locs (cells + 2) (slots + 12) Q (F0 m 697 ls [.int (nI 1)]) := by
                                          intro jk697 hjk697 H locs ls hP hD hS hl
                                          refine lv_iconst (v := nI 1) hx hb dL_law_697 (by decide) ?_
                                          refine lv_goto (tgt := 702) hx hb dL_law_698 (by decide) ?_
                                          refine lv_iand hx hb dL_law_702 ?_
                                          refine tp_i (show nI 1 &&& nI 1 = nI 1 from by decide) ?_
                                          refine lv_istore (lv' := [(30, .int (nI 1)), (0, .ref (E.2.2 202)), (1, .ref (X 0 0)), (2, .ref os), (3, .int (nI made)), (4, .int (nI k9)), (5, .int (nI n9)), (6, .long bf), (8, .int (nI kd)), (9, .int (nI sz)), (10, .int (nI m9)), (11, .int (nI beats)), (12, .int (nI ea)), (13, .int (nI tone)), (14, .int (nI tol)), (15, .int (nI fav)), (16, .int (nI qu)), (17, .int (nI ho)), (18, .int (nI be)), (19, .int (nI su)), (20, .int (nI ch)), (21, .int v21), (22, .int v22), (23, .int v23), (24, .int v24), (26, .int v26), (27, .int (nI bo)), (28, .int (nI 0)), (29, .int (nI 1)), (31, .int (nI 0))]) hx hb dL_law_703 hl (by decide) rfl (fun ls hl => ?_)
                                          refine lv_iload hx hb dL_law_705 (lv_at hl 0 rfl) ?_
                                          refine lv_iload hx hb dL_law_707 (lv_at hl 29 rfl) ?_
                                          refine nv_if_ne (X := ((0 : Nat) : Int)) hx hb (nI_toInt (by omega)) (tgt := 737) dL_law_709 (by decide) (fun c_34 => ?_) (fun c_34 => ?_)
                                          · exact absurd c_34 (by omega)
                                          · skip
                                            refine lv_iload hx hb dL_law_712 (lv_at hl 8 rfl) ?_
                                            refine lv_bipush (v := nI 35) hx hb dL_law_714 (by decide) ?_
                                            refine nv_icmp_gt (X := ((kd : Nat) : Int)) (Y := ((35 : Nat) : Int)) hx hb (nI_toInt (by omega)) (nI_toInt (by omega)) (tgt := 737) dL_law_716 (by decide) (fun c_35 => ?_) (fun c_35 => ?_)
                                            · exact absurd c_35 (by omega)
                                            · skip
                                              refine lv_aload_n hx hb dL_law_719 rfl (lv_at hl 2 rfl) ?_
                                              refine run_i (S := Unit) (run_V (As := []) (rest := [.int (nI 1)]) (bs := OB E X hs w g g2 hg nx ct jk697 ++ [smC E os f]) (cb := [coC E (X 0) (X 1) (X 2) (X 3) (X 4) (X 5) (X 6) (X 7) (X 8) w, stC E (X 1) g]) hx hb hml hown hts hK hZ hA (c_X5_beat l E _ (X 0) (X 1) (X 2) (X 3) (X 4) (X 5) (X 6) (X 7) (X 8) w g B hI) l_L_194 rfl ⟨⟨rfl, rfl⟩, Nat.le_of_ble_eq_true rfl, Nat.le_of_ble_eq_true rfl⟩ 9 rfl [0, 1] rfl (by decide) rfl hP hD hS hl.1 rfl (Nat.le_of_ble_eq_true rfl) dL_law_720 ⟨by show (cells + 2) + 0 ≤ 800891; omega, by show (slots + 12) + 0 ≤ 6687511; omega⟩) hA hP hD hS (isC := [0, 1]) rfl [2, 3, 4, 5, 6, 7, 8, 9, 10] [9, 10, 0, 1, 2, 3, 4, 5, 6, 7, 8] (br := [stC E (X 2) g2, stC E (X 3) jk697.1, hhC E (X 4) hs hg nx ct, diC E (X 5) jk697.2.1 jk697.2.2.1, grC E (X 6) jk697.2.2.2.1 jk697.2.2.2.2.1, prC E (X 7) jk697.2.2.2.2.2.1 jk697.2.2.2.2.2.2.1, sbO E (X 8) jk697.2.2.2.2.2.2.2.1 jk697.2.2.2.2.2.2.2.2.1 jk697.2.2.2.2.2.2.2.2.2.1, baC E jk697.2.2.2.2.2.2.2.1 jk697.2.2.2.2.2.2.2.2.2.2.1 jk697.2.2.2.2.2.2.2.2.2.2.2, smC E os f]) (bs2 := fun _ => OB E X hs w g g2 hg nx ct jk697 ++ [smC E os f]) rfl (by decide) (fun _ => rfl) (by decide) (fun r u H locs hw hP hD hS => ?_)
                                              subst hw
                                              refine lv_iload hx hb dL_law_723 (lv_at hl 18 rfl) ?_
                                              refine nv_icmp_ne (X := ((g 8 1 : Nat) : Int)) (Y := ((be : Nat) : Int)) hx hb (nI_toInt (by omega)) (nI_toInt (by omega)) (tgt := 741) dL_law_725 (by decide) (fun c_36 => ?_) (fun c_36 => ?_)
                                              · exact absurd c_36 (by omega)
                                              · skip
                                                refine lv_aload_n hx hb dL_law_728 rfl (lv_at hl 2 rfl) ?_
                                                refine run_i (S := Unit) (run_V (As := []) (rest := [.int (nI 1)]) (bs := OB E X hs w g g2 hg nx ct jk697 ++ [smC E os f]) (cb := [coC E (X 0) (X 1) (X 2) (X 3) (X 4) (X 5) (X 6) (X 7) (X 8) w, stC E (X 1) g]) hx hb hml hown hts hK hZ hA (c_X5_chirps l E _ (X 0) (X 1) (X 2) (X 3) (X 4) (X 5) (X 6) (X 7) (X 8) w g B hI) l_L_200 rfl ⟨⟨rfl, rfl⟩, Nat.le_of_ble_eq_true rfl, Nat.le_of_ble_eq_true rfl⟩ 9 rfl [0, 1] rfl (by decide) rfl hP hD hS hl.1 rfl (Nat.le_of_ble_eq_true rfl) dL_law_729 ⟨by show (cells + 2) + 0 ≤ 800891; omega, by show (slots + 12) + 0 ≤ 6687511; omega⟩) hA hP hD hS (isC := [0, 1]) rfl [2, 3, 4, 5, 6, 7, 8, 9, 10] [9, 10, 0, 1, 2, 3, 4, 5, 6, 7, 8] (br := [stC E (X 2) g2, stC E (X 3) jk697.1, hhC E (X 4) hs hg nx ct, diC E (X 5) jk697.2.1 jk697.2.2.1, grC E (X 6) jk697.2.2.2.1 jk697.2.2.2.2.1, prC E (X 7) jk697.2.2.2.2.2.1 jk697.2.2.2.2.2.2.1, sbO E (X 8) jk697.2.2.2.2.2.2.2.1 jk697.2.2.2.2.2.2.2.2.1 jk697.2.2.2.2.2.2.2.2.2.1, baC E jk697.2.2.2.2.2.2.2.1 jk697.2.2.2.2.2.2.2.2.2.2.1 jk697.2.2.2.2.2.2.2.2.2.2.2, smC E os f]) (bs2 := fun _ => OB E X hs w g g2 hg nx ct jk697 ++ [smC E os f]) rfl (by decide) (fun _ => rfl) (by decide) (fun r u H locs hw hP hD hS => ?_)
                                                subst hw
                                                refine lv_iload hx hb dL_law_732 (lv_at hl 20 rfl) ?_
                                                refine nv_icmp_ne (X := ((g 8 6 : Nat) : Int)) (Y := ((ch : Nat) : Int)) hx hb (nI_toInt (by omega)) (nI_toInt (by omega)) (tgt := 741) dL_law_734 (by decide) (fun c_37 => ?_) (fun c_37 => ?_)
                                                · exact absurd c_37 (by omega)
                                                · skip
                                                  refine lv_iconst (v := nI 1) hx hb dL_law_737 (by decide) ?_
                                                  refine lv_goto (tgt := 742) hx hb dL_law_738 (by decide) ?_
                                                  refine lv_iand hx hb dL_law_742 ?_
                                                  refine tp_i (show nI 1 &&& nI 1 = nI 1 from by decide) ?_
                                                  refine lv_istore (lv' := [(30, .int (nI 1)), (0, .ref (E.2.2 202)), (1, .ref (X 0 0)), (2, .ref os), (3, .int (nI made)), (4, .int (nI k9)), (5, .int (nI n9)), (6, .long bf), (8, .int (nI kd)), (9, .int (nI sz)), (10, .int (nI m9)), (11, .int (nI beats)), (12, .int (nI ea)), (13, .int (nI tone)), (14, .int (nI tol)), (15, .int (nI fav)), (16, .int (nI qu)), (17, .int (nI ho)), (18, .int (nI be)), (19, .int (nI su)), (20, .int (nI ch)), (21, .int v21), (22, .int v22), (23, .int v23), (24, .int v24), (26, .int v26), (27, .int (nI bo)), (28, .int (nI 0)), (29, .int (nI 1)), (31, .int (nI 0))]) hx hb dL_law_743 hl (by decide) rfl (fun ls hl => ?_)
                                                  exact W_widen (by omega) (by omega) (kk jk697 _ _ _ hjk697 hP hD hS (lv_sub hl [1, 2, 3, 4, 5, 6, 7, 28, 0] rfl))
                                        refine lv_iload hx hb dL_law_665 (lv_at hl 13 rfl) ?_
                                        refine lv_iload hx hb dL_law_667 (lv_at hl 12 rfl) ?_
                                        refine nv_icmp_ge (X := ((m9 : Nat) : Int)) (Y := ((sz : Nat) : Int)) hx hb (nI_toInt (by omega)) (nI_toInt (by omega)) (tgt := 697) dL_law_669 (by decide) (fun c_38 => ?_) (fun c_38 => ?_)
                                        · skip
                                          exact W_widen (by omega) (by omega) (k697 j hj _ _ _ hP hD hS (lv_sub hl [4, 5, 6, 7, 8, 9, 10, 11, 12, 13, 14, 15, 16, 17, 18, 19, 20, 21, 22, 23, 24, 25, 26, 27, 29, 30, 3, 2, 0, 1] rfl))
                                        · skip
                                          obtain ⟨hv25, h6a, h6b⟩ := hxq (by omega)
                                          have h6c := hI.2.2.2.1.2.2.1 m9
                                          have h6d := hbud.2.2.2.2.2.2
                                          have hl : lv_has ls 32 [(30, .int (nI 1)), (31, .int (nI 0)), (29, .int (nI 1)), (28, .int (nI 0)), (0, .ref (E.2.2 202)), (1, .ref (X 0 0)), (2, .ref os), (3, .int (nI made)), (4, .int (nI k9)), (5, .int (nI n9)), (6, .long bf), (8, .int (nI kd)), (9, .int (nI sz)), (10, .int (nI m9)), (11, .int (nI beats)), (12, .int (nI ea)), (13, .int (nI tone)), (14, .int (nI tol)), (15, .int (nI fav)), (16, .int (nI qu)), (17, .int (nI ho)), (18, .int (nI be)), (19, .int (nI su)), (20, .int (nI ch)), (21, .int v21), (22, .int v22), (23, .int v23), (24, .int v24), (25, .int (nI x25)), (26, .int v26), (27, .int (nI bo))] := by rw [show nI x25 = v25 from hv25.symm]; exact hl
                                          refine lv_aload_n hx hb dL_law_672 rfl (lv_at hl 5 rfl) ?_
                                          refine lv_iload hx hb dL_law_673 (lv_at hl 13 rfl) ?_
                                          refine run_i (S := JT) (run_SX (As := [.ref (X 0 0), .int (nI m9)]) (rest := [.int (nI 1)]) (bs := OB E X hs w g g2 hg nx ct j ++ [smC E os f]) (cb := OB E X hs w g g2 hg nx ct j) hx hb hml hown hts hK hZ hDD hA (c_L_dissents l hst E _ X hs w g g2 B hI hg nx ct hnx hct j hj (nI m9)) l_L_211 rfl ⟨⟨rfl, rfl⟩, Nat.le_of_ble_eq_true rfl, Nat.le_of_ble_eq_true rfl⟩ [0, 1, 2, 3, 4, 5, 6, 7, 8, 9] rfl (by decide) hP hD hS hl.1 rfl (Nat.le_of_ble_eq_true rfl) dL_law_675 ⟨by show cells + 1 ≤ 800891; omega, by show slots + 6 ≤ 6687511; omega⟩) hA hP hD hS (isC := [0, 1, 2, 3, 4, 5, 6, 7, 8, 9]) rfl [10] [1, 2, 3, 4, 5, 6, 7, 8, 9, 10, 0] (br := [smC E os f]) (bs2 := fun u => OB E X hs w g g2 hg nx ct u ++ [smC E os f]) rfl (by decide) (fun _ => rfl) (by decide) (fun r j_39 H locs hw hP hD hS => ?_)
                                          obtain ⟨hw, hj_40⟩ := hw
                                          refine tp_i hw ?_
                                          refine tp_i (show wf g (g 6) (nI m9) = nI (g 6 m9) from wf_in hmc (by omega)) ?_
                                          refine lv_iload hx hb dL_law_678 (lv_at hl 28 rfl) ?_
                                          refine nv_icmp_lt (X := ((g 6 m9 : Nat) : Int)) (Y := ((x25 : Nat) : Int)) hx hb (nI_toInt (by omega)) (nI_toInt (by omega)) (tgt := 701) dL_law_680 (by decide) (fun c_41 => ?_) (fun c_41 => ?_)
                                          · exact absurd c_41 (by omega)
                                          · skip
                                            refine lv_aload_n hx hb dL_law_683 rfl (lv_at hl 5 rfl) ?_
                                            refine lv_iload hx hb dL_law_684 (lv_at hl 13 rfl) ?_
                                            refine run_i (S := JT) (run_SX (As := [.ref (X 0 0), .int (nI m9)]) (rest := [.int (nI 1)]) (bs := OB E X hs w g g2 hg nx ct j_39 ++ [smC E os f]) (cb := OB E X hs w g g2 hg nx ct j_39) hx hb hml hown hts hK hZ hDD hA (c_L_dissents l hst E _ X hs w g g2 B hI hg nx ct hnx hct j_39 hj_40 (nI m9)) l_L_211 rfl ⟨⟨rfl, rfl⟩, Nat.le_of_ble_eq_true rfl, Nat.le_of_ble_eq_true rfl⟩ [0, 1, 2, 3, 4, 5, 6, 7, 8, 9] rfl (by decide) hP hD hS hl.1 rfl (Nat.le_of_ble_eq_true rfl) dL_law_686 ⟨by show (cells + 1) + 1 ≤ 800891; omega, by show (slots + 6) + 6 ≤ 6687511; omega⟩) hA hP hD hS (isC := [0, 1, 2, 3, 4, 5, 6, 7, 8, 9]) rfl [10] [1, 2, 3, 4, 5, 6, 7, 8, 9, 10, 0] (br := [smC E os f]) (bs2 := fun u => OB E X hs w g g2 hg nx ct u ++ [smC E os f]) rfl (by decide) (fun _ => rfl) (by decide) (fun r j_42 H locs hw hP hD hS => ?_)
                                            obtain ⟨hw, hj_43⟩ := hw
                                            refine tp_i hw ?_
                                            refine tp_i (show wf g (g 6) (nI m9) = nI (g 6 m9) from wf_in hmc (by omega)) ?_
                                            refine lv_iload hx hb dL_law_689 (lv_at hl 28 rfl) ?_
                                            refine lv_iload hx hb dL_law_691 (lv_at hl 3 rfl) ?_
                                            refine nv_iadd hx hb dL_law_693 ?_
                                            refine nv_icmp_gt (X := ((g 6 m9 : Nat) : Int)) (Y := ((x25 + 0 : Nat) : Int)) hx hb (nI_toInt (by omega)) (nI_toInt (by omega)) (tgt := 701) dL_law_694 (by decide) (fun c_44 => ?_) (fun c_44 => ?_)
                                            · exact absurd c_44 (by omega)
                                            · skip
                                              exact W_widen (by omega) (by omega) (k697 j_42 hj_43 _ _ _ hP hD hS (lv_sub hl [4, 5, 6, 7, 8, 9, 10, 11, 12, 13, 14, 15, 16, 17, 18, 19, 20, 21, 22, 23, 24, 25, 26, 27, 29, 30, 3, 2, 0, 1] rfl))
                                    · exact absurd c_32 (by omega)
                          · exact absurd c_13 (by omega)
                    · exact absurd c_10 (by omega)
                  · exact absurd c_9 (by omega)
            · exact absurd c_6 (by omega)
      · exact absurd c_3 (by omega)
set_option maxHeartbeats 8000000 in
set_option maxRecDepth 100000 in
theorem chk_K8 {p : Program} {l : Launch} {e : Env} {s : State} {m : MethodId} {args : Array Value} {below : List Frame} {meth : Method} {c : Code} {E : EE} {A : Nat → Prop} {Q : State → Prop} (X hs : Nat → Nat → Nat) (os : Nat) (f : Nat → Int64) (w : Nat → Nat) (g g2 : GG) (B : Nat) (hI : IB B g) (hg : Nat → GG) (nx ct : Nat) (hnx : nx < 8) (hct : ct ≤ 8) (j : JT) (hj : JV j) (bf : Int64) (kd sz m9 beats ea tone tol fav qu ho be su ch bo made k9 n9 : Nat) (v21 v22 v23 v24 v25 v26 : Int32) (rr : Nat) (hrr : rr < 2147483648) (hsz : sz ≤ 8) (hm9 : m9 ≤ 8) (hk : 36 ≤ kd) (hk2 : kd < 38) (C : LCL p l s m args c E A) {cells slots : Nat} (hcs : cells + 100 ≤ 800000 ∧ slots + 600 ≤ 6680000) (kk : ∀ (j9 : JT) (H : Heap) (locs : List Loc) (ls : Array Slot), JV j9 → va_P E.1 vwCl (OB E X hs w g g2 hg nx ct j9 ++ [smC E os f] : List va_W).flatten H → va_D A (OB E X hs w g g2 hg nx ct j9 ++ [smC E os f] : List va_W).flatten → va_S A s.heap H locs → lv_has ls 32 [(0, .ref (E.2.2 202)), (1, .ref (X 0 0)), (2, .ref os), (3, .int (nI made)), (4, .int (nI k9)), (5, .int (nI n9)), (6, .long bf), (29, .int (nI 1)), (30, .int (nI 1))] → W p l e room_1 s m args below meth c H locs (cells + 40) (slots + 240) Q (F0 m 745 ls [])) {H : Heap} {locs : List Loc} {ls : Array Slot} (hP : va_P E.1 vwCl (OB E X hs w g g2 hg nx ct j ++ [smC E os f] : List va_W).flatten H) (hD : va_D A (OB E X hs w g g2 hg nx ct j ++ [smC E os f] : List va_W).flatten) (hS : va_S A s.heap H locs) (hl : lv_has ls 32 [(0, .ref (E.2.2 202)), (1, .ref (X 0 0)), (2, .ref os), (3, .int (nI made)), (4, .int (nI k9)), (5, .int (nI n9)), (6, .long bf), (8, .int (nI kd)), (9, .int (nI sz)), (10, .int (nI m9)), (11, .int (nI beats)), (12, .int (nI ea)), (13, .int (nI tone)), (14, .int (nI tol)), (15, .int (nI fav)), (16, .int (nI qu)), (17, .int (nI ho)), (18, .int (nI be)), (19, .int (nI su)), (20, .int (nI ch)), (21, .int v21), (22, .int v22), (23, .int v23), (24, .int v24), (25, .int v25), (26, .int v26), (27, .int (nI bo))]) : W p l e room_1 s m args below meth c H locs cells slots Q (F0 m 276 ls [.int (nI rr)]) := by
  have C0 := C
  obtain ⟨hx, hb, hml, hown, hts, hK, hZ, hDD, hA, hst, hL⟩ := C
  have hmc := hI.mc
  have hbud := hI.bud
  refine lv_istore (lv' := [(28, .int (nI rr)), (0, .ref (E.2.2 202)), (1, .ref (X 0 0)), (2, .ref os), (3, .int (nI made)), (4, .int (nI k9)), (5, .int (nI n9)), (6, .long bf), (8, .int (nI kd)), (9, .int (nI sz)), (10, .int (nI m9)), (11, .int (nI beats)), (12, .int (nI ea)), (13, .int (nI tone)), (14, .int (nI tol)), (15, .int (nI fav)), (16, .int (nI qu)), (17, .int (nI ho)), (18, .int (nI be)), (19, .int (nI su)), (20, .int (nI ch)), (21, .int v21), (22, .int v22), (23, .int v23), (24, .int v24), (25, .int v25), (26, .int v26), (27, .int (nI bo))]) hx hb dL_law_276 hl (by decide) rfl (fun ls hl => ?_)
  refine lv_iload hx hb dL_law_278 (lv_at hl 0 rfl) ?_
  refine lv_bipush (v := -70) hx hb dL_law_280 (by decide) ?_
  refine nv_icmp_le (X := ((rr : Nat) : Int)) (Y := (-70)) hx hb (nI_toInt (by omega)) (by decide) (tgt := 289) dL_law_282 (by decide) (fun c_1 => ?_) (fun c_1 => ?_)
  · exact absurd c_1 (by omega)
  · skip
    refine lv_iconst (v := nI 1) hx hb dL_law_285 (by decide) ?_
    refine lv_goto (tgt := 290) hx hb dL_law_286 (by decide) ?_
    refine lv_istore (lv' := [(29, .int (nI 1)), (28, .int (nI rr)), (0, .ref (E.2.2 202)), (1, .ref (X 0 0)), (2, .ref os), (3, .int (nI made)), (4, .int (nI k9)), (5, .int (nI n9)), (6, .long bf), (8, .int (nI kd)), (9, .int (nI sz)), (10, .int (nI m9)), (11, .int (nI beats)), (12, .int (nI ea)), (13, .int (nI tone)), (14, .int (nI tol)), (15, .int (nI fav)), (16, .int (nI qu)), (17, .int (nI ho)), (18, .int (nI be)), (19, .int (nI su)), (20, .int (nI ch)), (21, .int v21), (22, .int v22), (23, .int v23), (24, .int v24), (25, .int v25), (26, .int v26), (27, .int (nI bo))]) hx hb dL_law_290 hl (by decide) rfl (fun ls hl => ?_)
    refine lv_iload hx hb dL_law_292 (lv_at hl 0 rfl) ?_
    refine nv_if_eq (X := ((1 : Nat) : Int)) hx hb (nI_toInt (by omega)) (tgt := 337) dL_law_294 (by decide) (fun c_2 => ?_) (fun c_2 => ?_)
    · exact absurd c_2 (by omega)
    · skip
      refine lv_iload hx hb dL_law_297 (lv_at hl 9 rfl) ?_
      refine lv_iconst (v := nI 3) hx hb dL_law_299 (by decide) ?_
      refine nv_icmp_gt (X := ((kd : Nat) : Int)) (Y := ((3 : Nat) : Int)) hx hb (nI_toInt (by omega)) (nI_toInt (by omega)) (tgt := 337) dL_law_300 (by decide) (fun c_3 => ?_) (fun c_3 => ?_)
      · skip
        refine lv_iconst (v := nI 1) hx hb dL_law_337 (by decide) ?_
        refine lv_goto (tgt := 342) hx hb dL_law_338 (by decide) ?_
        refine lv_istore (lv' := [(30, .int (nI 1)), (29, .int (nI 1)), (28, .int (nI rr)), (0, .ref (E.2.2 202)), (1, .ref (X 0 0)), (2, .ref os), (3, .int (nI made)), (4, .int (nI k9)), (5, .int (nI n9)), (6, .long bf), (8, .int (nI kd)), (9, .int (nI sz)), (10, .int (nI m9)), (11, .int (nI beats)), (12, .int (nI ea)), (13, .int (nI tone)), (14, .int (nI tol)), (15, .int (nI fav)), (16, .int (nI qu)), (17, .int (nI ho)), (18, .int (nI be)), (19, .int (nI su)), (20, .int (nI ch)), (21, .int v21), (22, .int v22), (23, .int v23), (24, .int v24), (25, .int v25), (26, .int v26), (27, .int (nI bo))]) hx hb dL_law_342 hl (by decide) rfl (fun ls hl => ?_)
        refine lv_iload hx hb dL_law_344 (lv_at hl 0 rfl) ?_
        refine lv_iload hx hb dL_law_346 (lv_at hl 1 rfl) ?_
        refine nv_if_eq (X := ((1 : Nat) : Int)) hx hb (nI_toInt (by omega)) (tgt := 405) dL_law_348 (by decide) (fun c_4 => ?_) (fun c_4 => ?_)
        · exact absurd c_4 (by omega)
        · skip
          refine lv_iload hx hb dL_law_351 (lv_at hl 10 rfl) ?_
          refine lv_bipush (v := nI 16) hx hb dL_law_353 (by decide) ?_
          refine nv_icmp_lt (X := ((kd : Nat) : Int)) (Y := ((16 : Nat) : Int)) hx hb (nI_toInt (by omega)) (nI_toInt (by omega)) (tgt := 405) dL_law_355 (by decide) (fun c_5 => ?_) (fun c_5 => ?_)
          · exact absurd c_5 (by omega)
          · skip
            refine lv_iload hx hb dL_law_358 (lv_at hl 10 rfl) ?_
            refine lv_bipush (v := nI 18) hx hb dL_law_360 (by decide) ?_
            refine nv_icmp_gt (X := ((kd : Nat) : Int)) (Y := ((18 : Nat) : Int)) hx hb (nI_toInt (by omega)) (nI_toInt (by omega)) (tgt := 405) dL_law_362 (by decide) (fun c_6 => ?_) (fun c_6 => ?_)
            · skip
              refine lv_iconst (v := nI 1) hx hb dL_law_405 (by decide) ?_
              refine lv_goto (tgt := 410) hx hb dL_law_406 (by decide) ?_
              refine lv_iand hx hb dL_law_410 ?_
              refine tp_i (show nI 1 &&& nI 1 = nI 1 from by decide) ?_
              refine lv_istore (lv' := [(30, .int (nI 1)), (29, .int (nI 1)), (28, .int (nI rr)), (0, .ref (E.2.2 202)), (1, .ref (X 0 0)), (2, .ref os), (3, .int (nI made)), (4, .int (nI k9)), (5, .int (nI n9)), (6, .long bf), (8, .int (nI kd)), (9, .int (nI sz)), (10, .int (nI m9)), (11, .int (nI beats)), (12, .int (nI ea)), (13, .int (nI tone)), (14, .int (nI tol)), (15, .int (nI fav)), (16, .int (nI qu)), (17, .int (nI ho)), (18, .int (nI be)), (19, .int (nI su)), (20, .int (nI ch)), (21, .int v21), (22, .int v22), (23, .int v23), (24, .int v24), (25, .int v25), (26, .int v26), (27, .int (nI bo))]) hx hb dL_law_411 hl (by decide) rfl (fun ls hl => ?_)
              refine lv_iload hx hb dL_law_413 (lv_at hl 1 rfl) ?_
              refine nv_if_eq (X := ((1 : Nat) : Int)) hx hb (nI_toInt (by omega)) (tgt := 436) dL_law_415 (by decide) (fun c_7 => ?_) (fun c_7 => ?_)
              · exact absurd c_7 (by omega)
              · skip
                refine lv_iload hx hb dL_law_418 (lv_at hl 10 rfl) ?_
                refine lv_bipush (v := nI 18) hx hb dL_law_420 (by decide) ?_
                refine nv_icmp_le (X := ((kd : Nat) : Int)) (Y := ((18 : Nat) : Int)) hx hb (nI_toInt (by omega)) (nI_toInt (by omega)) (tgt := 436) dL_law_422 (by decide) (fun c_8 => ?_) (fun c_8 => ?_)
                · exact absurd c_8 (by omega)
                · skip
                  refine lv_iload hx hb dL_law_425 (lv_at hl 10 rfl) ?_
                  refine lv_bipush (v := nI 28) hx hb dL_law_427 (by decide) ?_
                  refine nv_icmp_ge (X := ((kd : Nat) : Int)) (Y := ((28 : Nat) : Int)) hx hb (nI_toInt (by omega)) (nI_toInt (by omega)) (tgt := 436) dL_law_429 (by decide) (fun c_9 => ?_) (fun c_9 => ?_)
                  · skip
                    refine lv_iconst (v := nI 0) hx hb dL_law_436 (by decide) ?_
                    refine lv_istore (lv' := [(31, .int (nI 0)), (30, .int (nI 1)), (29, .int (nI 1)), (28, .int (nI rr)), (0, .ref (E.2.2 202)), (1, .ref (X 0 0)), (2, .ref os), (3, .int (nI made)), (4, .int (nI k9)), (5, .int (nI n9)), (6, .long bf), (8, .int (nI kd)), (9, .int (nI sz)), (10, .int (nI m9)), (11, .int (nI beats)), (12, .int (nI ea)), (13, .int (nI tone)), (14, .int (nI tol)), (15, .int (nI fav)), (16, .int (nI qu)), (17, .int (nI ho)), (18, .int (nI be)), (19, .int (nI su)), (20, .int (nI ch)), (21, .int v21), (22, .int v22), (23, .int v23), (24, .int v24), (25, .int v25), (26, .int v26), (27, .int (nI bo))]) hx hb dL_law_437 hl (by decide) rfl (fun ls hl => ?_)
                    refine lv_iload hx hb dL_law_439 (lv_at hl 1 rfl) ?_
                    refine lv_iload hx hb dL_law_441 (lv_at hl 0 rfl) ?_
                    refine nv_if_eq (X := ((0 : Nat) : Int)) hx hb (nI_toInt (by omega)) (tgt := 540) dL_law_443 (by decide) (fun c_10 => ?_) (fun c_10 => ?_)
                    · skip
                      refine lv_iconst (v := nI 1) hx hb dL_law_540 (by decide) ?_
                      refine lv_goto (tgt := 545) hx hb dL_law_541 (by decide) ?_
                      refine lv_iand hx hb dL_law_545 ?_
                      refine tp_i (show nI 1 &&& nI 1 = nI 1 from by decide) ?_
                      refine lv_istore (lv' := [(30, .int (nI 1)), (31, .int (nI 0)), (29, .int (nI 1)), (28, .int (nI rr)), (0, .ref (E.2.2 202)), (1, .ref (X 0 0)), (2, .ref os), (3, .int (nI made)), (4, .int (nI k9)), (5, .int (nI n9)), (6, .long bf), (8, .int (nI kd)), (9, .int (nI sz)), (10, .int (nI m9)), (11, .int (nI beats)), (12, .int (nI ea)), (13, .int (nI tone)), (14, .int (nI tol)), (15, .int (nI fav)), (16, .int (nI qu)), (17, .int (nI ho)), (18, .int (nI be)), (19, .int (nI su)), (20, .int (nI ch)), (21, .int v21), (22, .int v22), (23, .int v23), (24, .int v24), (25, .int v25), (26, .int v26), (27, .int (nI bo))]) hx hb dL_law_546 hl (by decide) rfl (fun ls hl => ?_)
                      refine lv_iload hx hb dL_law_548 (lv_at hl 0 rfl) ?_
                      refine lv_iload hx hb dL_law_550 (lv_at hl 2 rfl) ?_
                      refine nv_if_eq (X := ((1 : Nat) : Int)) hx hb (nI_toInt (by omega)) (tgt := 604) dL_law_552 (by decide) (fun c_11 => ?_) (fun c_11 => ?_)
                      · exact absurd c_11 (by omega)
                      · skip
                        refine lv_iload hx hb dL_law_555 (lv_at hl 11 rfl) ?_
                        refine lv_bipush (v := nI 28) hx hb dL_law_557 (by decide) ?_
                        refine nv_icmp_lt (X := ((kd : Nat) : Int)) (Y := ((28 : Nat) : Int)) hx hb (nI_toInt (by omega)) (nI_toInt (by omega)) (tgt := 604) dL_law_559 (by decide) (fun c_12 => ?_) (fun c_12 => ?_)
                        · exact absurd c_12 (by omega)
                        · skip
                          refine lv_iload hx hb dL_law_562 (lv_at hl 11 rfl) ?_
                          refine lv_bipush (v := nI 30) hx hb dL_law_564 (by decide) ?_
                          refine nv_icmp_gt (X := ((kd : Nat) : Int)) (Y := ((30 : Nat) : Int)) hx hb (nI_toInt (by omega)) (nI_toInt (by omega)) (tgt := 604) dL_law_566 (by decide) (fun c_13 => ?_) (fun c_13 => ?_)
                          · skip
                            refine lv_iconst (v := nI 1) hx hb dL_law_604 (by decide) ?_
                            refine lv_goto (tgt := 609) hx hb dL_law_605 (by decide) ?_
                            refine lv_iand hx hb dL_law_609 ?_
                            refine tp_i (show nI 1 &&& nI 1 = nI 1 from by decide) ?_
                            refine lv_istore (lv' := [(30, .int (nI 1)), (31, .int (nI 0)), (29, .int (nI 1)), (28, .int (nI rr)), (0, .ref (E.2.2 202)), (1, .ref (X 0 0)), (2, .ref os), (3, .int (nI made)), (4, .int (nI k9)), (5, .int (nI n9)), (6, .long bf), (8, .int (nI kd)), (9, .int (nI sz)), (10, .int (nI m9)), (11, .int (nI beats)), (12, .int (nI ea)), (13, .int (nI tone)), (14, .int (nI tol)), (15, .int (nI fav)), (16, .int (nI qu)), (17, .int (nI ho)), (18, .int (nI be)), (19, .int (nI su)), (20, .int (nI ch)), (21, .int v21), (22, .int v22), (23, .int v23), (24, .int v24), (25, .int v25), (26, .int v26), (27, .int (nI bo))]) hx hb dL_law_610 hl (by decide) rfl (fun ls hl => ?_)
                            refine lv_iload hx hb dL_law_612 (lv_at hl 0 rfl) ?_
                            refine lv_iload hx hb dL_law_614 (lv_at hl 11 rfl) ?_
                            refine lv_bipush (v := nI 31) hx hb dL_law_616 (by decide) ?_
                            refine nv_icmp_lt (X := ((kd : Nat) : Int)) (Y := ((31 : Nat) : Int)) hx hb (nI_toInt (by omega)) (nI_toInt (by omega)) (tgt := 697) dL_law_618 (by decide) (fun c_14 => ?_) (fun c_14 => ?_)
                            · exact absurd c_14 (by omega)
                            · skip
                              refine lv_iload hx hb dL_law_621 (lv_at hl 11 rfl) ?_
                              refine lv_bipush (v := nI 35) hx hb dL_law_623 (by decide) ?_
                              refine nv_icmp_gt (X := ((kd : Nat) : Int)) (Y := ((35 : Nat) : Int)) hx hb (nI_toInt (by omega)) (nI_toInt (by omega)) (tgt := 697) dL_law_625 (by decide) (fun c_15 => ?_) (fun c_15 => ?_)
                              · skip
                                refine lv_iconst (v := nI 1) hx hb dL_law_697 (by decide) ?_
                                refine lv_goto (tgt := 702) hx hb dL_law_698 (by decide) ?_
                                refine lv_iand hx hb dL_law_702 ?_
                                refine tp_i (show nI 1 &&& nI 1 = nI 1 from by decide) ?_
                                refine lv_istore (lv' := [(30, .int (nI 1)), (31, .int (nI 0)), (29, .int (nI 1)), (28, .int (nI rr)), (0, .ref (E.2.2 202)), (1, .ref (X 0 0)), (2, .ref os), (3, .int (nI made)), (4, .int (nI k9)), (5, .int (nI n9)), (6, .long bf), (8, .int (nI kd)), (9, .int (nI sz)), (10, .int (nI m9)), (11, .int (nI beats)), (12, .int (nI ea)), (13, .int (nI tone)), (14, .int (nI tol)), (15, .int (nI fav)), (16, .int (nI qu)), (17, .int (nI ho)), (18, .int (nI be)), (19, .int (nI su)), (20, .int (nI ch)), (21, .int v21), (22, .int v22), (23, .int v23), (24, .int v24), (25, .int v25), (26, .int v26), (27, .int (nI bo))]) hx hb dL_law_703 hl (by decide) rfl (fun ls hl => ?_)
                                refine lv_iload hx hb dL_law_705 (lv_at hl 0 rfl) ?_
                                refine lv_iload hx hb dL_law_707 (lv_at hl 1 rfl) ?_
                                refine nv_if_ne (X := ((0 : Nat) : Int)) hx hb (nI_toInt (by omega)) (tgt := 737) dL_law_709 (by decide) (fun c_16 => ?_) (fun c_16 => ?_)
                                · exact absurd c_16 (by omega)
                                · skip
                                  refine lv_iload hx hb dL_law_712 (lv_at hl 11 rfl) ?_
                                  refine lv_bipush (v := nI 35) hx hb dL_law_714 (by decide) ?_
                                  refine nv_icmp_gt (X := ((kd : Nat) : Int)) (Y := ((35 : Nat) : Int)) hx hb (nI_toInt (by omega)) (nI_toInt (by omega)) (tgt := 737) dL_law_716 (by decide) (fun c_17 => ?_) (fun c_17 => ?_)
                                  · skip
                                    refine lv_iconst (v := nI 1) hx hb dL_law_737 (by decide) ?_
                                    refine lv_goto (tgt := 742) hx hb dL_law_738 (by decide) ?_
                                    refine lv_iand hx hb dL_law_742 ?_
                                    refine tp_i (show nI 1 &&& nI 1 = nI 1 from by decide) ?_
                                    refine lv_istore (lv' := [(30, .int (nI 1)), (31, .int (nI 0)), (29, .int (nI 1)), (28, .int (nI rr)), (0, .ref (E.2.2 202)), (1, .ref (X 0 0)), (2, .ref os), (3, .int (nI made)), (4, .int (nI k9)), (5, .int (nI n9)), (6, .long bf), (8, .int (nI kd)), (9, .int (nI sz)), (10, .int (nI m9)), (11, .int (nI beats)), (12, .int (nI ea)), (13, .int (nI tone)), (14, .int (nI tol)), (15, .int (nI fav)), (16, .int (nI qu)), (17, .int (nI ho)), (18, .int (nI be)), (19, .int (nI su)), (20, .int (nI ch)), (21, .int v21), (22, .int v22), (23, .int v23), (24, .int v24), (25, .int v25), (26, .int v26), (27, .int (nI bo))]) hx hb dL_law_743 hl (by decide) rfl (fun ls hl => ?_)
                                    exact W_widen (by omega) (by omega) (kk j _ _ _ hj hP hD hS (lv_sub hl [4, 5, 6, 7, 8, 9, 10, 2, 0] rfl))
                                  · exact absurd c_17 (by omega)
                              · exact absurd c_15 (by omega)
                          · exact absurd c_13 (by omega)
                    · exact absurd c_10 (by omega)
                  · exact absurd c_9 (by omega)
            · exact absurd c_6 (by omega)
      · exact absurd c_3 (by omega)
