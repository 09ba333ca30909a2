set_option maxHeartbeats 8000000 in
set_option maxRecDepth 100000 in
theorem law_276 {p : Program} {l : Launch} {e : Env} {s : State} {m : MethodId} {args : Array Value} {below : List Frame} {meth : Method} {c : Code} {E : EE} {A : Nat → Prop} {Q : State → Prop} (X hs : Nat → Nat → Nat) (os : Nat) (f : Nat → Int64) (w : Nat → Nat) (g g9 g2 : GG) (hg : Nat → GG) (nx ct : Nat) (j0 j9 : JT) (n9 made : Nat) (b : Bool) (r : Int32) (hn : n9 < 56) (hR : TRN n9 g hg nx ct j0 made f) (hj9 : JV j9) (kd m9 beats tone tol bo : Nat) (hkd : kd < 38) (hm9 : m9 ≤ g 8 0) (hb1 : 1 ≤ beats ∧ beats ≤ 20) (ht12 : tone < 12) (htl : tol ≤ 6) (hbo : 1 ≤ bo) (hbo3 : bo ≤ 3) (hd : DOES g kd m9 beats tone tol bo b g9 r) (C : LCL p l s m args c E A) {cells slots kc ks : Nat} (hcs9 : cells + 1860 ≤ 800000 ∧ slots + 15700 ≤ 6680000) (hk : cells + 1800 ≤ kc ∧ slots + 15090 ≤ ks) (K : LGo p l e s m args below meth c E A Q X hs g2 os (n9 + 1) kc ks) {H : Heap} {locs : List Loc} {ls : Array Slot} (hP : va_P E.1 vwCl (OB E X hs w g9 g2 (hgN b hg nx g) (nxN b nx) (ctN b ct) j9 ++ [smC E os f] : List va_W).flatten H) (hD : va_D A (OB E X hs w g9 g2 (hgN b hg nx g) (nxN b nx) (ctN b ct) j9 ++ [smC E os f] : List va_W).flatten) (hS : va_S A s.heap H locs) (hl : lv_has ls 32 [(0, .ref (E.2.2 202)), (1, .ref (X 0 0)), (2, .ref os), (3, .int (nI made)), (4, .int (nI (5 * n9))), (5, .int (nI n9)), (6, .long (sumF g)), (8, .int (nI kd)), (9, .int (nI (g 8 0))), (10, .int (nI m9)), (11, .int (nI beats)), (12, .int (nI (passN g beats))), (13, .int (nI tone)), (14, .int (nI tol)), (15, .int (nI (favN g tone tol))), (16, .int (nI (quo g))), (17, .int (nI (g 8 3))), (18, .int (nI (g 8 1))), (19, .int (nI (g 8 2))), (20, .int (nI (g 8 6))), (21, .int (wsp g (nI 0))), (22, .int (wf g (dv g) (nI m9))), (23, .int (wf g (g 5) (nI m9))), (24, .int (wf g (g 0) (nI m9))), (25, .int (wf g (g 6) (nI m9))), (26, .int (wf g (g 4) (nI m9))), (27, .int (nI bo))]) : W p l e room_1 s m args below meth c H locs cells slots Q (F0 m 276 ls [.int r]) := by
  obtain ⟨d0, d1⟩ := hd
  obtain ⟨hI, hJ, hnx, hmd, hcm, hj0, hfm, hh0⟩ := id hR
  have hmc := hI.mc
  have hbud := hI.bud
  have hcs : cells + 100 ≤ 800000 ∧ slots + 600 ≤ 6680000 := ⟨by omega, by omega⟩
  have hm98 : m9 ≤ 8 := by omega
  have hB4 : 420 * n9 + 420 ≤ 300000 := by omega
  have hA4 := all_le hI
  have hfv : favN g tone tol ≤ 400 := fav_le8 hI
  have hqd : quo g = allSh g / 2 + 1 := rfl
  have hs2 := hI.1.2.1
  sorry
