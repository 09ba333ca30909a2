theorem x63 (x : Int32) : ∃ r, r < 64 ∧ x &&& nI 63 = nI r := by
  have hx : x = nI x.toBitVec.toNat := by
    apply Int32.toBitVec_inj.1
    show x.toBitVec = BitVec.ofNat 32 x.toBitVec.toNat
    simp
  refine ⟨x.toBitVec.toNat &&& 63, ?_, ?_⟩
  · rw [show (63 : Nat) = 2 ^ 6 - 1 from rfl, Nat.and_two_pow_sub_one_eq_mod]; omega
  · rw [← fa_and, ← hx]
set_option maxHeartbeats 4000000 in
set_option maxRecDepth 100000 in
theorem law_step {p : Program} {l : Launch} {e : Env} {s : State} {m : MethodId} {args : Array Value} {below : List Frame} {meth : Method} {c : Code} {E : EE} {A : Nat → Prop} {Q : State → Prop} {x a a2 a3 b d k pa y : Nat → Nat} {hs : Nat → Nat → Nat} {mb : Nat → Nat} {ol od sb : Nat} {i B cells slots L : Nat} {xs : Nat → Int32} (C : LCx p l s m args c E A sb L xs) (hL : L ≤ 2560) (hi : i + 5 ≤ L) (hB4 : B + 420 ≤ 300000) (hrc : cells + 13 ≤ 603072 ∧ slots + 414 ≤ 7174250) (kk : LGo p l e s m args below meth c E A Q x a a2 a3 b d k pa y hs mb ol od sb i (B + 420) (cells + 13) (slots + 414) 2541) : LGo p l e s m args below meth c E A Q x a a2 a3 b d k pa y hs mb ol od sb i B cells slots 37 := by
  have C0 := C
  obtain ⟨hx, hb, hml, hown, hts, hK, hZ, hDD, hA, hX, hbl, hbA, hst⟩ := C
  intro w g g2 g3 hg nx ct co re so gw q F v ml n cp t z gs ar lo dO H locs ls hR hP hD hS hl
  refine lv_aload_n hx hb dL_law_37 rfl (lv_at hl 0 rfl) ?_
  refine lv_iload hx hb dL_law_38 (lv_at hl 5 rfl) ?_
  refine va_sld hx hb hX hbl hbA hS (vp_in_nI (show i < L by omega) (by omega)) dL_law_40 ?_
  refine lv_bipush (v := nI 63) hx hb dL_law_41 (by decide) ?_
  refine lv_iand hx hb dL_law_43 ?_
  obtain ⟨r, hr, er⟩ := x63 (xs (nI i).toNatClampNeg)
  refine tp_i er ?_
  rcases (show r = 0 ∨ r = 1 ∨ r = 2 ∨ r = 3 ∨ r = 4 ∨ r = 5 ∨ r = 6 ∨ r = 7 ∨ r = 8 ∨ r = 9 ∨ r = 10 ∨ r = 11 ∨ r = 12 ∨ r = 13 ∨ r = 14 ∨ r = 15 ∨ r = 16 ∨ r = 17 ∨ r = 18 ∨ r = 19 ∨ r = 20 ∨ r = 21 ∨ r = 22 ∨ r = 23 ∨ r = 24 ∨ r = 25 ∨ r = 26 ∨ r = 27 ∨ r = 28 ∨ r = 29 ∨ r = 30 ∨ r = 31 ∨ r = 32 ∨ r = 33 ∨ r = 34 ∨ r = 35 ∨ r = 36 ∨ r = 37 ∨ r = 38 ∨ r = 39 ∨ r = 40 ∨ r = 41 ∨ r = 42 ∨ r = 43 ∨ r = 44 ∨ r = 45 ∨ r = 46 ∨ r = 47 ∨ r = 48 ∨ r = 49 ∨ 50 ≤ r by omega) with rfl | rfl | rfl | rfl | rfl | rfl | rfl | rfl | rfl | rfl | rfl | rfl | rfl | rfl | rfl | rfl | rfl | rfl | rfl | rfl | rfl | rfl | rfl | rfl | rfl | rfl | rfl | rfl | rfl | rfl | rfl | rfl | rfl | rfl | rfl | rfl | rfl | rfl | rfl | rfl | rfl | rfl | rfl | rfl | rfl | rfl | rfl | rfl | rfl | rfl | h50
  · refine lv_tableIn (off := 216) (tgt := 260) hx hb dL_law_44 (by decide) (by decide) (by decide +kernel) (by decide) ?_
    exact (st_addMember C0 hL hi hB4 hrc kk) w g g2 g3 hg nx ct co re so gw q F v ml n cp t z gs ar lo dO H locs ls hR hP hD hS hl
  · refine lv_tableIn (off := 308) (tgt := 352) hx hb dL_law_44 (by decide) (by decide) (by decide +kernel) (by decide) ?_
    exact (st_wind C0 hL hi hB4 hrc kk) w g g2 g3 hg nx ct co re so gw q F v ml n cp t z gs ar lo dO H locs ls hR hP hD hS hl
  · refine lv_tableIn (off := 376) (tgt := 420) hx hb dL_law_44 (by decide) (by decide) (by decide +kernel) (by decide) ?_
    exact (st_tune C0 hL hi hB4 hrc kk) w g g2 g3 hg nx ct co re so gw q F v ml n cp t z gs ar lo dO H locs ls hR hP hD hS hl
  · refine lv_tableIn (off := 444) (tgt := 488) hx hb dL_law_44 (by decide) (by decide) (by decide +kernel) (by decide) ?_
    exact (st_buyShares C0 hL hi hB4 hrc kk) w g g2 g3 hg nx ct co re so gw q F v ml n cp t z gs ar lo dO H locs ls hR hP hD hS hl
  · refine lv_tableIn (off := 512) (tgt := 556) hx hb dL_law_44 (by decide) (by decide) (by decide +kernel) (by decide) ?_
    exact (st_passBeats C0 hL hi hB4 hrc kk) w g g2 g3 hg nx ct co re so gw q F v ml n cp t z gs ar lo dO H locs ls hR hP hD hS hl
  · refine lv_tableIn (off := 568) (tgt := 612) hx hb dL_law_44 (by decide) (by decide) (by decide +kernel) (by decide) ?_
    exact (st_endQuarter C0 hL hi hB4 hrc kk) w g g2 g3 hg nx ct co re so gw q F v ml n cp t z gs ar lo dO H locs ls hR hP hD hS hl
  · refine lv_tableIn (off := 612) (tgt := 656) hx hb dL_law_44 (by decide) (by decide) (by decide +kernel) (by decide) ?_
    exact (st_vote C0 hL hi hB4 hrc kk) w g g2 g3 hg nx ct co re so gw q F v ml n cp t z gs ar lo dO H locs ls hR hP hD hS hl
  · refine lv_tableIn (off := 687) (tgt := 731) hx hb dL_law_44 (by decide) (by decide) (by decide +kernel) (by decide) ?_
    exact (st_memberCount C0 hL hi hB4 hrc kk) w g g2 g3 hg nx ct co re so gw q F v ml n cp t z gs ar lo dO H locs ls hR hP hD hS hl
  · refine lv_tableIn (off := 700) (tgt := 744) hx hb dL_law_44 (by decide) (by decide) (by decide +kernel) (by decide) ?_
    exact (st_shares C0 hL hi hB4 hrc kk) w g g2 g3 hg nx ct co re so gw q F v ml n cp t z gs ar lo dO H locs ls hR hP hD hS hl
  · refine lv_tableIn (off := 756) (tgt := 800) hx hb dL_law_44 (by decide) (by decide) (by decide +kernel) (by decide) ?_
    exact (st_spring C0 hL hi hB4 hrc kk) w g g2 g3 hg nx ct co re so gw q F v ml n cp t z gs ar lo dO H locs ls hR hP hD hS hl
  · refine lv_tableIn (off := 812) (tgt := 856) hx hb dL_law_44 (by decide) (by decide) (by decide +kernel) (by decide) ?_
    exact (st_tone C0 hL hi hB4 hrc kk) w g g2 g3 hg nx ct co re so gw q F v ml n cp t z gs ar lo dO H locs ls hR hP hD hS hl
  · refine lv_tableIn (off := 868) (tgt := 912) hx hb dL_law_44 (by decide) (by decide) (by decide +kernel) (by decide) ?_
    exact (st_purse C0 hL hi hB4 hrc kk) w g g2 g3 hg nx ct co re so gw q F v ml n cp t z gs ar lo dO H locs ls hR hP hD hS hl
  · refine lv_tableIn (off := 924) (tgt := 968) hx hb dL_law_44 (by decide) (by decide) (by decide +kernel) (by decide) ?_
    exact (st_dissents C0 hL hi hB4 hrc kk) w g g2 g3 hg nx ct co re so gw q F v ml n cp t z gs ar lo dO H locs ls hR hP hD hS hl
  · refine lv_tableIn (off := 980) (tgt := 1024) hx hb dL_law_44 (by decide) (by decide) (by decide +kernel) (by decide) ?_
    exact (st_interval C0 hL hi hB4 hrc kk) w g g2 g3 hg nx ct co re so gw q F v ml n cp t z gs ar lo dO H locs ls hR hP hD hS hl
  · refine lv_tableIn (off := 1048) (tgt := 1092) hx hb dL_law_44 (by decide) (by decide) (by decide +kernel) (by decide) ?_
    exact (st_memberAtRank C0 hL hi hB4 hrc kk) w g g2 g3 hg nx ct co re so gw q F v ml n cp t z gs ar lo dO H locs ls hR hP hD hS hl
  · refine lv_tableIn (off := 1104) (tgt := 1148) hx hb dL_law_44 (by decide) (by decide) (by decide +kernel) (by decide) ?_
    exact (st_dueBeats C0 hL hi hB4 hrc kk) w g g2 g3 hg nx ct co re so gw q F v ml n cp t z gs ar lo dO H locs ls hR hP hD hS hl
  · refine lv_tableIn (off := 1159) (tgt := 1203) hx hb dL_law_44 (by decide) (by decide) (by decide +kernel) (by decide) ?_
    exact (st_dueBeatsByDoubling C0 hL hi hB4 hrc kk) w g g2 g3 hg nx ct co re so gw q F v ml n cp t z gs ar lo dO H locs ls hR hP hD hS hl
  · refine lv_tableIn (off := 1214) (tgt := 1258) hx hb dL_law_44 (by decide) (by decide) (by decide +kernel) (by decide) ?_
    exact (st_commonBeats C0 hL hi hB4 hrc kk) w g g2 g3 hg nx ct co re so gw q F v ml n cp t z gs ar lo dO H locs ls hR hP hD hS hl
  · refine lv_tableIn (off := 1282) (tgt := 1326) hx hb dL_law_44 (by decide) (by decide) (by decide +kernel) (by decide) ?_
    exact (st_beatsUntilChorus C0 hL hi hB4 hrc kk) w g g2 g3 hg nx ct co re so gw q F v ml n cp t z gs ar lo dO H locs ls hR hP hD hS hl
  · refine lv_tableIn (off := 1326) (tgt := 1370) hx hb dL_law_44 (by decide) (by decide) (by decide +kernel) (by decide) ?_
    exact (st_earningsIn C0 hL hi hB4 hrc kk) w g g2 g3 hg nx ct co re so gw q F v ml n cp t z gs ar lo dO H locs ls hR hP hD hS hl
  · refine lv_tableIn (off := 1382) (tgt := 1426) hx hb dL_law_44 (by decide) (by decide) (by decide +kernel) (by decide) ?_
    exact (st_dividend C0 hL hi hB4 hrc kk) w g g2 g3 hg nx ct co re so gw q F v ml n cp t z gs ar lo dO H locs ls hR hP hD hS hl
  · refine lv_tableIn (off := 1438) (tgt := 1482) hx hb dL_law_44 (by decide) (by decide) (by decide +kernel) (by decide) ?_
    exact (st_dividendByCounting C0 hL hi hB4 hrc kk) w g g2 g3 hg nx ct co re so gw q F v ml n cp t z gs ar lo dO H locs ls hR hP hD hS hl
  · refine lv_tableIn (off := 1494) (tgt := 1538) hx hb dL_law_44 (by decide) (by decide) (by decide +kernel) (by decide) ?_
    exact (st_sharesInFavour C0 hL hi hB4 hrc kk) w g g2 g3 hg nx ct co re so gw q F v ml n cp t z gs ar lo dO H locs ls hR hP hD hS hl
  · refine lv_tableIn (off := 1562) (tgt := 1606) hx hb dL_law_44 (by decide) (by decide) (by decide +kernel) (by decide) ?_
    exact (st_carriedTone C0 hL hi hB4 hrc kk) w g g2 g3 hg nx ct co re so gw q F v ml n cp t z gs ar lo dO H locs ls hR hP hD hS hl
  · refine lv_tableIn (off := 1618) (tgt := 1662) hx hb dL_law_44 (by decide) (by decide) (by decide +kernel) (by decide) ?_
    exact (st_quota C0 hL hi hB4 hrc kk) w g g2 g3 hg nx ct co re so gw q F v ml n cp t z gs ar lo dO H locs ls hR hP hD hS hl
  · refine lv_tableIn (off := 1631) (tgt := 1675) hx hb dL_law_44 (by decide) (by decide) (by decide +kernel) (by decide) ?_
    exact (st_winningGroups C0 hL hi hB4 hrc kk) w g g2 g3 hg nx ct co re so gw q F v ml n cp t z gs ar lo dO H locs ls hR hP hD hS hl
  · refine lv_tableIn (off := 1644) (tgt := 1688) hx hb dL_law_44 (by decide) (by decide) (by decide +kernel) (by decide) ?_
    exact (st_winningGroupsByTable C0 hL hi hB4 hrc kk) w g g2 g3 hg nx ct co re so gw q F v ml n cp t z gs ar lo dO H locs ls hR hP hD hS hl
  · refine lv_tableIn (off := 1657) (tgt := 1701) hx hb dL_law_44 (by decide) (by decide) (by decide +kernel) (by decide) ?_
    exact (st_power C0 hL hi hB4 hrc kk) w g g2 g3 hg nx ct co re so gw q F v ml n cp t z gs ar lo dO H locs ls hR hP hD hS hl
  · refine lv_tableIn (off := 1713) (tgt := 1757) hx hb dL_law_44 (by decide) (by decide) (by decide +kernel) (by decide) ?_
    exact (st_powerByTable C0 hL hi hB4 hrc kk) w g g2 g3 hg nx ct co re so gw q F v ml n cp t z gs ar lo dO H locs ls hR hP hD hS hl
  · refine lv_tableIn (off := 1769) (tgt := 1813) hx hb dL_law_44 (by decide) (by decide) (by decide +kernel) (by decide) ?_
    exact (st_smallestMajority C0 hL hi hB4 hrc kk) w g g2 g3 hg nx ct co re so gw q F v ml n cp t z gs ar lo dO H locs ls hR hP hD hS hl
  · refine lv_tableIn (off := 1813) (tgt := 1857) hx hb dL_law_44 (by decide) (by decide) (by decide +kernel) (by decide) ?_
    exact (st_beat C0 hL hi hB4 hrc kk) w g g2 g3 hg nx ct co re so gw q F v ml n cp t z gs ar lo dO H locs ls hR hP hD hS hl
  · refine lv_tableIn (off := 1826) (tgt := 1870) hx hb dL_law_44 (by decide) (by decide) (by decide +kernel) (by decide) ?_
    exact (st_surplus C0 hL hi hB4 hrc kk) w g g2 g3 hg nx ct co re so gw q F v ml n cp t z gs ar lo dO H locs ls hR hP hD hS hl
  · refine lv_tableIn (off := 1839) (tgt := 1883) hx hb dL_law_44 (by decide) (by decide) (by decide +kernel) (by decide) ?_
    exact (st_houseTone C0 hL hi hB4 hrc kk) w g g2 g3 hg nx ct co re so gw q F v ml n cp t z gs ar lo dO H locs ls hR hP hD hS hl
  · refine lv_tableIn (off := 1852) (tgt := 1896) hx hb dL_law_44 (by decide) (by decide) (by decide +kernel) (by decide) ?_
    exact (st_quarters C0 hL hi hB4 hrc kk) w g g2 g3 hg nx ct co re so gw q F v ml n cp t z gs ar lo dO H locs ls hR hP hD hS hl
  · refine lv_tableIn (off := 1865) (tgt := 1909) hx hb dL_law_44 (by decide) (by decide) (by decide +kernel) (by decide) ?_
    exact (st_coinTotal C0 hL hi hB4 hrc kk) w g g2 g3 hg nx ct co re so gw q F v ml n cp t z gs ar lo dO H locs ls hR hP hD hS hl
  · refine lv_tableIn (off := 1878) (tgt := 1922) hx hb dL_law_44 (by decide) (by decide) (by decide +kernel) (by decide) ?_
    exact (st_coinsByAccounts C0 hL hi hB4 hrc kk) w g g2 g3 hg nx ct co re so gw q F v ml n cp t z gs ar lo dO H locs ls hR hP hD hS hl
  · refine lv_tableIn (off := 1891) (tgt := 1935) hx hb dL_law_44 (by decide) (by decide) (by decide +kernel) (by decide) ?_
    exact (st_chirps C0 hL hi hB4 hrc kk) w g g2 g3 hg nx ct co re so gw q F v ml n cp t z gs ar lo dO H locs ls hR hP hD hS hl
  · refine lv_tableIn (off := 1904) (tgt := 1948) hx hb dL_law_44 (by decide) (by decide) (by decide +kernel) (by decide) ?_
    exact (st_spoiltBeat C0 hL hi hB4 hrc kk) w g g2 g3 hg nx ct co re so gw q F v ml n cp t z gs ar lo dO H locs ls hR hP hD hS hl
  · refine lv_tableIn (off := 1960) (tgt := 2004) hx hb dL_law_44 (by decide) (by decide) (by decide +kernel) (by decide) ?_
    exact (st_meanPurse C0 hL hi hB4 hrc kk) w g g2 g3 hg nx ct co re so gw q F v ml n cp t z gs ar lo dO H locs ls hR hP hD hS hl
  · refine lv_tableIn (off := 2025) (tgt := 2069) hx hb dL_law_44 (by decide) (by decide) (by decide +kernel) (by decide) ?_
    exact (st_powerShare C0 hL hi hB4 hrc kk) w g g2 g3 hg nx ct co re so gw q F v ml n cp t z gs ar lo dO H locs ls hR hP hD hS hl
  · refine lv_tableIn (off := 2103) (tgt := 2147) hx hb dL_law_44 (by decide) (by decide) (by decide +kernel) (by decide) ?_
    exact (st_isConsistent C0 hL hi hB4 hrc kk) w g g2 g3 hg nx ct co re so gw q F v ml n cp t z gs ar lo dO H locs ls hR hP hD hS hl
  · refine lv_tableIn (off := 2116) (tgt := 2160) hx hb dL_law_44 (by decide) (by decide) (by decide +kernel) (by decide) ?_
    exact (st_append C0 hL hi hB4 hrc kk) w g g2 g3 hg nx ct co re so gw q F v ml n cp t z gs ar lo dO H locs ls hR hP hD hS hl
  · refine lv_tableIn (off := 2174) (tgt := 2218) hx hb dL_law_44 (by decide) (by decide) (by decide +kernel) (by decide) ?_
    exact (st_run C0 hL hi hB4 hrc kk) w g g2 g3 hg nx ct co re so gw q F v ml n cp t z gs ar lo dO H locs ls hR hP hD hS hl
  · refine lv_tableIn (off := 2218) (tgt := 2262) hx hb dL_law_44 (by decide) (by decide) (by decide +kernel) (by decide) ?_
    exact (st_errorPosition C0 hL hi hB4 hrc kk) w g g2 g3 hg nx ct co re so gw q F v ml n cp t z gs ar lo dO H locs ls hR hP hD hS hl
  · refine lv_tableIn (off := 2262) (tgt := 2306) hx hb dL_law_44 (by decide) (by decide) (by decide +kernel) (by decide) ?_
    exact (st_failedCommand C0 hL hi hB4 hrc kk) w g g2 g3 hg nx ct co re so gw q F v ml n cp t z gs ar lo dO H locs ls hR hP hD hS hl
  · refine lv_tableIn (off := 2306) (tgt := 2350) hx hb dL_law_44 (by decide) (by decide) (by decide +kernel) (by decide) ?_
    exact (st_writeMember C0 hL hi hB4 hrc kk) w g g2 g3 hg nx ct co re so gw q F v ml n cp t z gs ar lo dO H locs ls hR hP hD hS hl
  · refine lv_tableIn (off := 2362) (tgt := 2406) hx hb dL_law_44 (by decide) (by decide) (by decide +kernel) (by decide) ?_
    exact (st_outputAt C0 hL hi hB4 hrc kk) w g g2 g3 hg nx ct co re so gw q F v ml n cp t z gs ar lo dO H locs ls hR hP hD hS hl
  · refine lv_tableIn (off := 2418) (tgt := 2462) hx hb dL_law_44 (by decide) (by decide) (by decide +kernel) (by decide) ?_
    exact (st_undo C0 hL hi hB4 hrc kk) w g g2 g3 hg nx ct co re so gw q F v ml n cp t z gs ar lo dO H locs ls hR hP hD hS hl
  · refine lv_tableIn (off := 2462) (tgt := 2506) hx hb dL_law_44 (by decide) (by decide) (by decide +kernel) (by decide) ?_
    exact (st_save C0 hL hi hB4 hrc kk) w g g2 g3 hg nx ct co re so gw q F v ml n cp t z gs ar lo dO H locs ls hR hP hD hS hl
  · refine lv_tableIn (off := 2473) (tgt := 2517) hx hb dL_law_44 (by decide) (by decide) (by decide +kernel) (by decide) ?_
    exact (st_restore C0 hL hi hB4 hrc kk) w g g2 g3 hg nx ct co re so gw q F v ml n cp t z gs ar lo dO H locs ls hR hP hD hS hl
  · refine lv_tableOut (tgt := 2541) hx hb dL_law_44 (Or.inr (by rw [nI_toInt (by omega)]; omega)) (by decide) ?_
    exact W_widen (by omega) (by omega) (kk w g g2 g3 hg nx ct co re so gw q F v ml n cp t z gs ar lo dO H locs ls (rel_to hR (by omega) hB4 (fun _ _ _ => rfl) rfl (fun _ => rfl)) hP hD hS hl)
set_option maxHeartbeats 4000000 in
set_option maxRecDepth 100000 in
theorem law_loop {p : Program} {l : Launch} {e : Env} {s : State} {m : MethodId} {args : Array Value} {below : List Frame} {meth : Method} {c : Code} {E : EE} {A : Nat → Prop} {Q : State → Prop} {x a a2 a3 b d k pa y : Nat → Nat} {hs : Nat → Nat → Nat} {mb : Nat → Nat} {ol od sb : Nat} {L c0 s0 : Nat} {xs : Nat → Int32} (C : LCx p l s m args c E A sb L xs) (hL : L ≤ 2560) (hc0 : c0 ≤ 500) (hs0 : s0 ≤ 6000) (kend : ∀ (H : Heap) (locs : List Loc) (ls : Array Slot) (cells slots : Nat), cells ≤ 603072 → slots ≤ 7174250 → va_S A s.heap H locs → W p l e room_1 s m args below meth c H locs cells slots Q (F0 m 2547 ls [])) : ∀ (n j : Nat), j + n = 513 → LGo p l e s m args below meth c E A Q x a a2 a3 b d k pa y hs mb ol od sb (5 * j) (420 * j) (c0 + 13 * j) (s0 + 414 * j) 28
  | 0, j, hn => by
    have C0 := C
    obtain ⟨hx, hb, hml, hown, hts, hK, hZ, hDD, hA, hX, hbl, hbA, hst⟩ := C
    intro w g g2 g3 hg nx ct co re so gw q F v ml n cp t z gs ar lo dO H locs ls hR hP hD hS hl
    refine lv_iload hx hb dL_law_28 (lv_at hl 5 rfl) ?_
    refine lv_aload_n hx hb dL_law_30 rfl (lv_at hl 0 rfl) ?_
    refine va_slen hx hb hX hbl hbA hS dL_law_31 ?_
    refine lv_iconst (v := nI 5) hx hb dL_law_32 (by decide) ?_
    refine lv_isub hx hb dL_law_33 ?_
    refine nv_icmp_gt (X := ((5 * j : Nat) : Int)) (Y := ((L : Nat) : Int) - 5) hx hb (nI_toInt (by omega)) (isub_t (nI_toInt (n := L) (by omega)) (by decide) (by omega) (by omega)) (tgt := 2547) dL_law_34 (by decide) (fun hc => ?_) (fun hc => ?_)
    · exact kend _ _ _ _ _ (by omega) (by omega) hS
    · exact absurd hc (by omega)
  | n + 1, j, hn => by
    have ih : LGo p l e s m args below meth c E A Q x a a2 a3 b d k pa y hs mb ol od sb (5 * (j + 1)) (420 * (j + 1)) (c0 + 13 * (j + 1)) (s0 + 414 * (j + 1)) 28 := law_loop C hL hc0 hs0 kend n (j + 1) (by omega)
    have C0 := C
    obtain ⟨hx, hb, hml, hown, hts, hK, hZ, hDD, hA, hX, hbl, hbA, hst⟩ := C
    intro w g g2 g3 hg nx ct co re so gw q F v ml n cp t z gs ar lo dO H locs ls hR hP hD hS hl
    refine lv_iload hx hb dL_law_28 (lv_at hl 5 rfl) ?_
    refine lv_aload_n hx hb dL_law_30 rfl (lv_at hl 0 rfl) ?_
    refine va_slen hx hb hX hbl hbA hS dL_law_31 ?_
    refine lv_iconst (v := nI 5) hx hb dL_law_32 (by decide) ?_
    refine lv_isub hx hb dL_law_33 ?_
    refine nv_icmp_gt (X := ((5 * j : Nat) : Int)) (Y := ((L : Nat) : Int) - 5) hx hb (nI_toInt (by omega)) (isub_t (nI_toInt (n := L) (by omega)) (by decide) (by omega) (by omega)) (tgt := 2547) dL_law_34 (by decide) (fun hc => ?_) (fun hc => ?_)
    · exact kend _ _ _ _ _ (by omega) (by omega) hS
    · have kk : LGo p l e s m args below meth c E A Q x a a2 a3 b d k pa y hs mb ol od sb (5 * j) (420 * j + 420) (c0 + 13 * j + 13) (s0 + 414 * j + 414) 2541 := by
        intro w g g2 g3 hg nx ct co re so gw q F v ml n cp t z gs ar lo dO H locs ls hR hP hD hS hl
        refine lv_iinc (v := nI (5 * j + 5)) (lv' := [(5, .int (nI (5 * j + 5))), (0, .ref sb), (1, .ref (x 0)), (2, .ref (mb 0)), (3, .ref ol), (4, .ref od)]) hx hb dL_law_2541 hl (k := 5) rfl (nI_add (5 * j) 5) (by decide) rfl (fun ls hl => ?_)
        refine lv_goto (tgt := 28) hx hb dL_law_2544 (by decide) ?_
        have h9 := ih
        rw [show 5 * (j + 1) = 5 * j + 5 by omega, show 420 * (j + 1) = 420 * j + 420 by omega, show c0 + 13 * (j + 1) = c0 + 13 * j + 13 by omega, show s0 + 414 * (j + 1) = s0 + 414 * j + 414 by omega] at h9
        exact h9 w g g2 g3 hg nx ct co re so gw q F v ml n cp t z gs ar lo dO H locs ls hR hP hD hS (lv_sub hl [1, 2, 3, 4, 5, 0] rfl)
      exact (law_step C0 hL (by omega) (by omega) (by omega) kk) w g g2 g3 hg nx ct co re so gw q F v ml n cp t z gs ar lo dO H locs ls hR hP hD hS hl
