set_option maxHeartbeats 8000000 in
set_option maxRecDepth 100000 in
theorem law_276 {p : Program} {l : Launch} {e : Env} {s : State} {m : MethodId} {args : Array Value} {below : List Frame} {meth : Method} {c : Code} {E : EE} {A : Nat → Prop} {Q : State → Prop} (X hs : Nat → Nat → Nat) (os : Nat) (f : Nat → Int64) (w : Nat → Nat) (g g9 g2 : GG) (hg : Nat → GG) (nx ct : Nat) (j0 j9 : JT) (n9 made : Nat) (b : Bool) (r : Int32) (hn : n9 < 56) (hR : TRN n9 g hg nx ct j0 made f) (hj9 : JV j9) (kd m9 beats tone tol bo : Nat) (hkd : kd < 38) (hm9 : m9 ≤ g 8 0) (hb1 : 1 ≤ beats ∧ beats ≤ 20) (ht12 : tone < 12) (htl : tol ≤ 6) (hbo : 1 ≤ bo) (hbo3 : bo ≤ 3) (hd : DOES g kd m9 beats tone tol bo b g9 r) (C : LCL p l s m args c E A) {cells slots kc ks : Nat} (hcs9 : cells + 1860 ≤ 800000 ∧ slots + 15700 ≤ 6680000) (hk : cells + 1800 ≤ kc ∧ slots + 15090 ≤ ks) (K : LGo p l e s m args below meth c E A Q X hs g2 os (n9 + 1) kc ks) {H : Heap} {locs : List Loc} {ls : Array Slot} (hP : va_P E.1 vwCl (OB E X hs w g9 g2 (hgN b hg nx g) (nxN b nx) (ctN b ct) j9 ++ [smC E os f] : List va_W).flatten H) (hD : va_D A (OB E X hs w g9 g2 (hgN b hg nx g) (nxN b nx) (ctN b ct) j9 ++ [smC E os f] : List va_W).flatten) (hS : va_S A s.heap H locs) (hl : lv_has ls 32 [(0, .ref (E.2.2 202)), (1, .ref (X 0 0)), (2, .ref os), (3, .int (nI made)), (4, .int (nI (5 * n9))), (5, .int (nI n9)), (6, .long (sumF g)), (8, .int (nI kd)), (9, .int (nI (g 8 0))), (10, .int (nI m9)), (11, .int (nI beats)), (12, .int (nI (passN g beats))), (13, .int (nI tone)), (14, .int (nI tol)), (15, .int (nI (favN g tone tol))), (16, .int (nI (quo g))), (17, .int (nI (g 8 3))), (18, .int (nI (g 8 1))), (19, .int (nI (g 8 2))), (20, .int (nI (g 8 6))), (21, .int (wsp g (nI 0))), (22, .int (wf g (dv g) (nI m9))), (23, .int (wf g (g 5) (nI m9))), (24, .int (wf g (g 0) (nI m9))), (25, .int (wf g (g 6) (nI m9))), (26, .int (wf g (g 4) (nI m9))), (27, .int (nI bo))]) : W p l e room_1 s m args below meth c H locs cells slots Q (F0 m 276 ls [.int r]) := by
  obtain ⟨d0, d1⟩ := hd
  obtain ⟨hI, hJ, hnx, hmd, hcm, hj0, hfm, hh0⟩ := id hR
  have hmc := hI.mc
  have hbud := hI.bud
  have hcs : cells + 100 ≤ 800000 ∧ slots + 600 ≤ 6680000 := ⟨by omega, by omega⟩
  have hm98 : m9 ≤ 8 := by omega
  have hB4 : 420 * n9 + 420 ≤ 300000 := by omega
  have hA4 := all_le hI
  have hfv : favN g tone tol ≤ 400 := fav_le8 hI
  have hqd : quo g = allSh g / 2 + 1 := rfl
  have hs2 := hI.1.2.1
  cases b
  · obtain ⟨hg9, hr, hnk⟩ := d0 rfl
    obtain rfl : g = g9 := hg9.symm
    have hR9 := fun (j8 : JT) (h8 : JV j8) => TRN_no hn hR h8
    have hnx9 := (hR9 j9 hj9).2.2.1
    have hct9 := (hR9 j9 hj9).ct8
    have kk : ∀ (j8 : JT) (H : Heap) (locs : List Loc) (ls : Array Slot), JV j8 → va_P E.1 vwCl (OB E X hs w g g2 (hgN false hg nx g) (nxN false nx) (ctN false ct) j8 ++ [smC E os f] : List va_W).flatten H → va_D A (OB E X hs w g g2 (hgN false hg nx g) (nxN false nx) (ctN false ct) j8 ++ [smC E os f] : List va_W).flatten → va_S A s.heap H locs → lv_has ls 32 [(0, .ref (E.2.2 202)), (1, .ref (X 0 0)), (2, .ref os), (3, .int (nI made)), (4, .int (nI (5 * n9))), (5, .int (nI n9)), (6, .long (sumF g)), (29, .int (nI 0)), (30, .int (nI 1))] → W p l e room_1 s m args below meth c H locs (cells + 40) (slots + 240) Q (F0 m 745 ls []) := fun j8 H locs ls hj8 hP hD hS hl => tail_F X hs os f w g g2 (420 * n9) hI (hgN false hg nx g) (nxN false nx) (ctN false ct) hnx9 hct9 j8 hj8 hJ (sumF g) n9 made hn hmd hR9 C (by omega) (by omega) K hP hD hS hl
    rcases Nat.lt_or_ge kd 31 with q | q
    · exact chk_F1 X hs os f w g g2 (420 * n9) hI (hgN false hg nx g) (nxN false nx) (ctN false ct) hnx9 hct9 j9 hj9 (sumF g) kd (g 8 0) m9 beats (passN g beats) tone tol (favN g tone tol) (quo g) (g 8 3) (g 8 1) (g 8 2) (g 8 6) bo made (5 * n9) n9 (wsp g (nI 0)) (wf g (dv g) (nI m9)) (wf g (g 5) (nI m9)) (wf g (g 0) (nI m9)) (wf g (g 6) (nI m9)) (wf g (g 4) (nI m9)) r hmc hm98 rfl rfl hr q C hcs kk hP hD hS hl
    · exact chk_F2 X hs os f w g g2 (420 * n9) hI (hgN false hg nx g) (nxN false nx) (ctN false ct) hnx9 hct9 j9 hj9 (sumF g) kd (g 8 0) m9 beats (passN g beats) tone tol (favN g tone tol) (quo g) (g 8 3) (g 8 1) (g 8 2) (g 8 6) bo made (5 * n9) n9 (wsp g (nI 0)) (wf g (dv g) (nI m9)) (wf g (g 5) (nI m9)) (wf g (g 0) (nI m9)) (wf g (g 6) (nI m9)) (wf g (g 4) (nI m9)) r hmc hm98 rfl rfl hr (by have := hnk q; omega) hkd C hcs kk hP hD hS hl
  · have dk := d1 rfl
    obtain ⟨hI9, hJ9⟩ := dk.ij hI hJ hB4 hkd (by omega) ht12
    have hR9 := fun (j8 : JT) (h8 : JV j8) => TRN_ok hn hR hI9 hJ9 h8
    have hnx9 := (hR9 j9 hj9).2.2.1
    have hct9 := (hR9 j9 hj9).ct8
    have kk : ∀ (j8 : JT) (H : Heap) (locs : List Loc) (ls : Array Slot), JV j8 → va_P E.1 vwCl (OB E X hs w g9 g2 (hgN true hg nx g) (nxN true nx) (ctN true ct) j8 ++ [smC E os f] : List va_W).flatten H → va_D A (OB E X hs w g9 g2 (hgN true hg nx g) (nxN true nx) (ctN true ct) j8 ++ [smC E os f] : List va_W).flatten → va_S A s.heap H locs → lv_has ls 32 [(0, .ref (E.2.2 202)), (1, .ref (X 0 0)), (2, .ref os), (3, .int (nI made)), (4, .int (nI (5 * n9))), (5, .int (nI n9)), (6, .long (sumF g)), (29, .int (nI 1)), (30, .int (nI 1))] → W p l e room_1 s m args below meth c H locs (cells + 40) (slots + 240) Q (F0 m 745 ls []) := fun j8 H locs ls hj8 hP hD hS hl => tail_T X hs os f w g9 g2 (420 * n9 + 420) hI9 (hgN true hg nx g) (nxN true nx) (ctN true ct) hnx9 hct9 j8 hj8 hJ9 (sumF g) n9 made hn hmd hR9 C (by omega) (by omega) K hP hD hS hl
    obtain ⟨k0, k1, k2, k3, k4, k5, k6, k7⟩ := dk
    have e8 : kd < 4 ∨ (4 ≤ kd ∧ kd < 13) ∨ (13 ≤ kd ∧ kd < 16) ∨ (16 ≤ kd ∧ kd < 19) ∨ (19 ≤ kd ∧ kd < 28) ∨ (28 ≤ kd ∧ kd < 31) ∨ (31 ≤ kd ∧ kd < 36) ∨ 36 ≤ kd := by omega
    rcases e8 with q | ⟨q1, q2⟩ | ⟨q1, q2⟩ | ⟨q1, q2⟩ | ⟨q1, q2⟩ | ⟨q1, q2⟩ | ⟨q1, q2⟩ | q
    · obtain ⟨a, b, c, d, -, rfl, rfl⟩ := k0 q
      obtain ⟨e0, e4, e5, e6, e1, e7⟩ := dk_join (g := g) (a := tn a) (b := tn b) (c := tn c) (d := tn d)
      exact chk_K0 X hs os f w (joinG g (tn a) (tn b) (tn c) (tn d)) g2 (420 * n9 + 420) hI9 (hgN true hg nx g) (nxN true nx) (ctN true ct) hnx9 hct9 j9 hj9 (sumF g) kd (g 8 0) m9 beats (passN g beats) tone tol (favN g tone tol) (quo g) (g 8 3) (g 8 1) (g 8 2) (g 8 6) bo made (5 * n9) n9 (wsp g (nI 0)) (wf g (dv g) (nI m9)) (wf g (g 5) (nI m9)) (wf g (g 0) (nI m9)) (wf g (g 6) (nI m9)) (wf g (g 4) (nI m9)) hmc hm98 e1 e7 q e0 e4 e5 e6 C hcs kk hP hD hS hl
    · obtain ⟨a, b, f0, rfl, rfl⟩ := k1 q1 q2
      have h9 := fWind_0 f0
      have e9 := tn_t (x := b) (by omega)
      exact chk_K1 X hs os f w (windG g (tn a) (tn b)) g2 (420 * n9 + 420) hI9 (hgN true hg nx g) (nxN true nx) (ctN true ct) hnx9 hct9 j9 hj9 (sumF g) kd (g 8 0) m9 beats (passN g beats) tone tol (favN g tone tol) (quo g) (g 8 3) (g 8 1) (g 8 2) (g 8 6) bo made (5 * n9) n9 (wsp g (nI 0)) (wf g (dv g) (nI m9)) (wf g (g 5) (nI m9)) (wf g (g 0) (nI m9)) (wf g (g 6) (nI m9)) (wf g (g 4) (nI m9)) (g 4 (tn a) + tn b) (by omega) hmc hm98 rfl rfl q1 (by omega) C hcs kk hP hD hS hl
    · obtain ⟨a, b, f0, rfl, rfl⟩ := k2 q1 q2
      have h9 := fTune_0 f0
      have e9 := tn_t (x := a) (by omega)
      have h10 := (hI.mem (m := tn a) (by omega)).2.2.1
      exact chk_K1 X hs os f w (up2 g 3 (tn a) (tn b)) g2 (420 * n9 + 420) hI9 (hgN true hg nx g) (nxN true nx) (ctN true ct) hnx9 hct9 j9 hj9 (sumF g) kd (g 8 0) m9 beats (passN g beats) tone tol (favN g tone tol) (quo g) (g 8 3) (g 8 1) (g 8 2) (g 8 6) bo made (5 * n9) n9 (wsp g (nI 0)) (wf g (dv g) (nI m9)) (wf g (g 5) (nI m9)) (wf g (g 0) (nI m9)) (wf g (g 6) (nI m9)) (wf g (g 4) (nI m9)) (g 3 (tn a)) (by omega) hmc hm98 rfl rfl (by omega) (by omega) C hcs kk hP hD hS hl
    · obtain ⟨f0, rfl, rfl⟩ := k3 q1 q2
      have h9 := fBuy_0 f0
      rw [tn_nI (show m9 < 2147483648 by omega), tn_nI (show bo < 2147483648 by omega)] at hP hD hI9 hJ9 kk ⊢
      rw [tn_nI (show m9 < 2147483648 by omega), nI_toInt (show m9 < 2147483648 by omega), nI_toInt (show bo < 2147483648 by omega)] at h9
      obtain ⟨e0, e5, e2, e1, e6⟩ := dk_buy (g := g) (m := m9) (t := bo)
      have hmm := (hI.mem (m := m9) (by omega)).1
      have hpu := hI.pu (m := m9) (by omega)
      exact chk_K3 X hs os f w (buyG g m9 bo) g2 (420 * n9 + 420) hI9 (hgN true hg nx g) (nxN true nx) (ctN true ct) hnx9 hct9 j9 hj9 (sumF g) kd (g 8 0) m9 beats (passN g beats) tone tol (favN g tone tol) (quo g) (g 8 3) (g 8 1) (g 8 2) (g 8 6) bo made (5 * n9) n9 (wsp g (nI 0)) (wf g (dv g) (nI m9)) (wf g (g 5) (nI m9)) (wf g (g 0) (nI m9)) (wf g (g 6) (nI m9)) (wf g (g 4) (nI m9)) (g 5 m9) (g 0 m9) hmc hm98 e1 e6 q1 q2 (by rw [e0]; omega) (wf_in hmc (by omega)) (wf_in hmc (by omega)) (by omega) (by omega) (by omega) (by omega) (by rw [e5]; omega) (by rw [e2]; omega) C hcs kk hP hD hS hl
    · obtain ⟨f0, rfl, rfl⟩ := k4 q1 q2
      rw [tn_nI (show beats < 2147483648 by omega)] at hP hD hI9 hJ9 kk ⊢
      have e2 := pass_sur (g := g) (k := beats)
      have e6 := pass_chi (g := g) (k := beats)
      have e7 := pass_wsp hI hI9 hJ (pass_sp beats)
      exact chk_K4 X hs os f w (passG g beats) g2 (420 * n9 + 420) hI9 (hgN true hg nx g) (nxN true nx) (ctN true ct) hnx9 hct9 j9 hj9 (sumF g) kd (g 8 0) m9 beats (passN g beats) tone tol (favN g tone tol) (quo g) (g 8 3) (g 8 1) (g 8 2) (g 8 6) bo made (5 * n9) n9 (wsp g (nI 0)) (wf g (dv g) (nI m9)) (wf g (g 5) (nI m9)) (wf g (g 0) (nI m9)) (wf g (g 6) (nI m9)) (wf g (g 4) (nI m9)) hmc hm98 q1 q2 e2 (pass_beat beats) e6 (@wf_sp _ 0 _ hI _ _ hm98) (e7.trans ⟨fun _ => by omega, fun _ => by omega⟩) C hcs kk hP hD hS hl
    · obtain ⟨f0, rfl, rfl⟩ := k5 q1 q2
      exact chk_K5 X hs os f w (payG g) g2 (420 * n9 + 420) hI9 (hgN true hg nx g) (nxN true nx) (ctN true ct) hnx9 hct9 j9 hj9 (sumF g) kd (g 8 0) m9 beats (passN g beats) tone tol (favN g tone tol) (quo g) (g 8 3) (g 8 1) (g 8 2) (g 8 6) bo made (5 * n9) n9 (wsp g (nI 0)) (wf g (dv g) (nI m9)) (wf g (g 5) (nI m9)) (wf g (g 0) (nI m9)) (wf g (g 6) (nI m9)) (wf g (g 4) (nI m9)) (dv g m9) (g 5 m9) hmc hm98 rfl rfl q1 q2 rfl (by omega) rfl (fun h8 => ⟨wf_in hmc h8, wf_in hmc h8, pay_purse h8⟩) C hcs kk hP hD hS hl
    · obtain ⟨rfl, rfl⟩ := k6 q1 q2
      rw [tn_nI (show tone < 2147483648 by omega), tn_nI (show tol < 2147483648 by omega)] at hP hD hI9 hJ9 kk ⊢
      obtain ⟨e1, e6, e0⟩ := vote_same (g := g) (t := tone) (k := tol)
      have e3 := vote_house (g := g) (t := tone) (k := tol)
      by_cases c9 : quo g ≤ favN g tone tol
      · rw [if_pos c9] at e3
        refine tp_i (show bI (decide (quo g ≤ favN g tone tol)) = nI 1 from (bt_of c9).symm) ?_
        have e5 := fun (h8 : m9 < g 8 0) => vote_dis (g := g) (t := tone) (k := tol) (m := m9)
        exact chk_K6 X hs os f w (voteG g tone tol) g2 (420 * n9 + 420) hI9 (hgN true hg nx g) (nxN true nx) (ctN true ct) hnx9 hct9 j9 hj9 (sumF g) kd (g 8 0) m9 beats (passN g beats) tone tol (favN g tone tol) (quo g) (g 8 3) (g 8 1) (g 8 2) (g 8 6) bo made (5 * n9) n9 (wsp g (nI 0)) (wf g (dv g) (nI m9)) (wf g (g 5) (nI m9)) (wf g (g 0) (nI m9)) (wf g (g 6) (nI m9)) (wf g (g 4) (nI m9)) (g 6 m9) hmc hm98 e1 e6 q1 q2 e0 ⟨by omega, by omega⟩ ⟨by omega, by omega⟩ (by omega) e3 (fun h8 => ⟨wf_in hmc h8, (e5 h8).1, by have h7 := (e5 h8).2; rw [if_pos c9] at h7; exact h7⟩) C hcs kk hP hD hS hl
      · rw [if_neg c9] at e3
        refine tp_i (show bI (decide (quo g ≤ favN g tone tol)) = nI 0 from (bf_of c9).symm) ?_
        have e5 := fun (h8 : m9 < g 8 0) => vote_dis (g := g) (t := tone) (k := tol) (m := m9)
        exact chk_K7 X hs os f w (voteG g tone tol) g2 (420 * n9 + 420) hI9 (hgN true hg nx g) (nxN true nx) (ctN true ct) hnx9 hct9 j9 hj9 (sumF g) kd (g 8 0) m9 beats (passN g beats) tone tol (favN g tone tol) (quo g) (g 8 3) (g 8 1) (g 8 2) (g 8 6) bo made (5 * n9) n9 (wsp g (nI 0)) (wf g (dv g) (nI m9)) (wf g (g 5) (nI m9)) (wf g (g 0) (nI m9)) (wf g (g 6) (nI m9)) (wf g (g 4) (nI m9)) (g 6 m9) hmc hm98 e1 e6 q1 q2 e0 ⟨by omega, by omega⟩ ⟨by omega, by omega⟩ (by omega) e3 (fun h8 => ⟨wf_in hmc h8, (e5 h8).1, by have h7 := (e5 h8).2; rw [if_neg c9] at h7; exact h7⟩) C hcs kk hP hD hS hl
    · obtain ⟨T, C9, hC, -, -, rfl⟩ := k7 q
      exact chk_K8 X hs os f w g9 g2 (420 * n9 + 420) hI9 (hgN true hg nx g) (nxN true nx) (ctN true ct) hnx9 hct9 j9 hj9 (sumF g) kd (g 8 0) m9 beats (passN g beats) tone tol (favN g tone tol) (quo g) (g 8 3) (g 8 1) (g 8 2) (g 8 6) bo made (5 * n9) n9 (wsp g (nI 0)) (wf g (dv g) (nI m9)) (wf g (g 5) (nI m9)) (wf g (g 0) (nI m9)) (wf g (g 6) (nI m9)) (wf g (g 4) (nI m9)) C9 (by omega) hmc hm98 q hkd C hcs kk hP hD hS hl
