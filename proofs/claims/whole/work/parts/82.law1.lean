/-! the law: its context, its cases -/
theorem i2c_x (x : Int32) : ∃ n, n < 65536 ∧ (x.toUInt32 % 65536).toInt32 = nI n := ⟨_, Nat.mod_lt _ (by decide), pk_char x⟩
theorem vo_eq {g : GG} {p0 p1 : Int32} (h : fMot p0 p1 = 0) : decide (voR g p0 p1 = 1) = decide (quo g ≤ favN g (tn p0) (tn p1)) := by
  unfold voR aVot
  rw [if_pos h]
  by_cases c : favN g (tn p0) (tn p1) < quo g
  · rw [if_pos c, decide_eq_false (by omega), decide_eq_false (by omega)]
  · rw [if_neg c, decide_eq_true rfl, decide_eq_true (by omega)]
theorem rel_qg {B : Nat} {w : Nat → Nat} {g g2 : GG} {hg : Nat → GG} {nx ct : Nat} {q : Nat → Nat} {F : GG} {n cp : Nat} {t z : Nat → Nat} {gs : Nat → GG} {ar : GG} {c : Nat} {P : Prop} [Decidable P] (h : REL B w g g2 hg nx ct q F n cp t z gs ar) (h3 : B + 420 ≤ 300000) : REL (B + 420) w g g2 hg nx ct q F n cp t (upn z 0 c) (if P then upa gs 2 g else gs) ar :=
  rel_to h (by omega) h3 z_up (by split; exact upa_n (by decide); rfl) (fun i => by split; exact upa_n (by omega); rfl)
theorem rel_run {B : Nat} {w : Nat → Nat} {g g' g2 : GG} {hg : Nat → GG} {nx ct : Nat} {q q' : Nat → Nat} {F F' : GG} {n cp : Nat} {t z z' t9 : Nat → Nat} {gs : Nat → GG} {ar : GG} (h : REL B w g g2 hg nx ct q F n cp t z gs ar) (h3 : B + 420 ≤ 300000) (hI : IB (B + 420) g')
    (e1 : z' 1 = chK (z 1)) (e2 : z' 2 = z 2) (e3 : z' 3 = 0) (e4 : z' 4 = z 4) (e5 : z' 5 = z 5) (e6 : z' 6 = z 6) (hq : q' 0 = 0) (hF : F' 0 = F 0) :
    REL (B + 420) w g' g2 (upa hg nx g) ((nx + 1) % 8) (if 8 < ct + 1 then 8 else ct + 1) q' F' n cp t z' (chS (z 1) (upa gs 0 g)) (upr ar 1 t9) := by
  obtain ⟨h1, h2, h4, h5, h6, h7⟩ := h
  have hg1 : chS (z 1) (upa gs 0 g) 1 = gs 1 := by
    unfold chS
    rw [upa_n (by omega), if_neg (by omega), upa_n (by decide)]
  refine ⟨hI, rs_to h2 (by omega) h3 e2 hg1, rh_m h4 h1 h3 e1, ?_, ⟨hq.trans e3.symm, by omega, ?_, ?_⟩, ?_⟩
  · unfold RW9 at h5 ⊢; rw [e5, e6]; exact h5
  · rw [hF, upr_n (by decide)]; exact h6.2.2.1
  · rw [hF]; exact h6.2.2.2
  · unfold RN9 at h7 ⊢; rw [e4, upr_n (by decide)]; exact h7
theorem rel_runf {B : Nat} {w w' : Nat → Nat} {g g2 : GG} {hg : Nat → GG} {nx ct : Nat} {q q' : Nat → Nat} {F F' : GG} {n cp : Nat} {t z z' t9 : Nat → Nat} {gs : Nat → GG} {ar : GG} (h : REL B w g g2 hg nx ct q F n cp t z gs ar) (h3 : B + 420 ≤ 300000)
    (e1 : z' 1 = z 1) (e2 : z' 2 = z 2) (e3 : z' 3 = 0) (e4 : z' 4 = z 4) (w0 : w' 0 = w 0) (w1 : w' 1 = z' 5) (w2 : w' 2 = z' 6) (b5 : z' 5 ≤ 1000) (b6 : z' 6 ≤ 1000) (hq : q' 0 = 0) (hF : F' 0 = F 0) :
    REL (B + 420) w' g g2 hg nx ct q' F' n cp t z' (upa gs 0 g) (upr ar 1 t9) := by
  obtain ⟨h1, h2, h4, h5, h6, h7⟩ := h
  have h2' := rs_to (z' := z') (gs' := upa gs 0 g) (B' := B + 420) h2 (by omega) h3 e2 (upa_n (by decide))
  refine ⟨h1.le (by omega) h3, ?_, rh_to h4 (by omega) h3 e1 (fun i => upa_n (by omega)), ⟨w1, w2, b5, b6⟩, ⟨hq.trans e3.symm, by omega, ?_, ?_⟩, ?_⟩
  · unfold RS9 at h2' ⊢; rw [w0]; exact h2'
  · rw [hF, upr_n (by decide)]; exact h6.2.2.1
  · rw [hF]; exact h6.2.2.2
  · unfold RN9 at h7 ⊢; rw [e4, upr_n (by decide)]; exact h7
def LCx (p : Program) (l : Launch) (s : State) (m : MethodId) (args : Array Value) (c : Code) (E : EE) (A : Nat → Prop) (sb L : Nat) (xs : Nat → Int32) : Prop :=
  p.tables.exec = Jvm.exec ∧ c.code = cL_law ∧ c.maxLocals = 9 ∧ s.vm.findClass RL = some m.cls ∧ (∀ w ∈ TG, w.before args s = true) ∧ va_K E.1 vwCl (tyl E.2.1) s ∧ ZZ E A s s.heap ∧ DD s ∧ (∀ q, s.heap.size ≤ q → A q) ∧ va_X sb L xs s s.heap ∧ sb < s.heap.size ∧ ¬ A sb ∧ l.stackTraces = false
def LGo (p : Program) (l : Launch) (e : Env) (s : State) (m : MethodId) (args : Array Value) (below : List Frame) (meth : Method) (c : Code) (E : EE) (A : Nat → Prop) (Q : State → Prop) (x a a2 a3 b d k pa y : Nat → Nat) (hs : Nat → Nat → Nat) (mb : Nat → Nat) (ol od sb : Nat) (i B cells slots pc : Nat) : Prop :=
  ∀ (w : Nat → Nat) (g : GG) (g2 : GG) (g3 : GG) (hg : Nat → GG) (nx : Nat) (ct : Nat) (co : Nat → Nat) (re : Nat → Nat) (so : Nat → Nat) (gw : Nat → Nat) (q : Nat → Nat) (F : GG) (v : Nat) (ml : Nat) (n : Nat) (cp : Nat) (t : Nat → Nat) (z : Nat → Nat) (gs : Nat → GG) (ar : GG) (lo : Nat → Int64) (dO : Nat → UInt64) (H : Heap) (locs : List Loc) (ls : Array Slot), REL B w g g2 hg nx ct q F n cp t z gs ar → va_P E.1 vwCl ([loC E ol lo, dbC E od dO, coC E x a a2 a3 b d k pa y w, stC E a g, stC E a2 g2, stC E a3 g3, hhC E b hs hg nx ct, diC E d co re, grC E k so gw, prC E pa q F, sbO E y v ml n, baC E v cp t, moC E mb z g gs ar] : List va_W).flatten H → va_D A ([loC E ol lo, dbC E od dO, coC E x a a2 a3 b d k pa y w, stC E a g, stC E a2 g2, stC E a3 g3, hhC E b hs hg nx ct, diC E d co re, grC E k so gw, prC E pa q F, sbO E y v ml n, baC E v cp t, moC E mb z g gs ar] : List va_W).flatten → va_S A s.heap H locs → lv_has ls 9 [(0, .ref sb), (1, .ref (x 0)), (2, .ref (mb 0)), (3, .ref ol), (4, .ref od), (5, .int (nI i))] → W p l e room_1 s m args below meth c H locs cells slots Q (F0 m pc ls [])
set_option maxHeartbeats 4000000 in
set_option maxRecDepth 100000 in
theorem st_shares {p : Program} {l : Launch} {e : Env} {s : State} {m : MethodId} {args : Array Value} {below : List Frame} {meth : Method} {c : Code} {E : EE} {A : Nat → Prop} {Q : State → Prop} {x a a2 a3 b d k pa y : Nat → Nat} {hs : Nat → Nat → Nat} {mb : Nat → Nat} {ol od sb : Nat} {i B cells slots L : Nat} {xs : Nat → Int32} (C : LCx p l s m args c E A sb L xs) (hL : L ≤ 2560) (hi : i + 5 ≤ L) (hB4 : B + 420 ≤ 300000) (hrc : cells + 13 ≤ 603072 ∧ slots + 414 ≤ 7174250) (kk : LGo p l e s m args below meth c E A Q x a a2 a3 b d k pa y hs mb ol od sb i (B + 420) (cells + 13) (slots + 414) 2541) : LGo p l e s m args below meth c E A Q x a a2 a3 b d k pa y hs mb ol od sb i B cells slots 744 := by
  obtain ⟨hx, hb, hml, hown, hts, hK, hZ, hDD, hA, hX, hbl, hbA, hst⟩ := C
  intro w g g2 g3 hg nx ct co re so gw q F v ml n cp t z gs ar lo dO H locs ls hR hP hD hS hl
  obtain ⟨hI, ⟨hs1, hs2, hs3⟩, ⟨hnx, hct, hz1, hh9⟩, ⟨hw1, hw2, hz5, hz6⟩, ⟨hq1, hq2, hF0, hF9⟩, ⟨hn1, hn2, hcp, ht9, htx, ho2⟩⟩ := id hR
  have hmc := hI.mc
  obtain ⟨p0, hp0⟩ : ∃ y9, y9 = xs (i + 1) := ⟨_, rfl⟩
  refine lv_aload_n hx hb dL_law_744 rfl (lv_at hl 1 rfl) ?_
  refine lv_aload_n hx hb dL_law_745 rfl (lv_at hl 0 rfl) ?_
  refine lv_iload hx hb dL_law_746 (lv_at hl 5 rfl) ?_
  refine lv_iconst (v := nI 1) hx hb dL_law_748 (by decide) ?_
  refine nv_iadd hx hb dL_law_749 ?_
  refine va_sld hx hb hX hbl hbA hS (vp_in_nI (show i + 1 < L by omega) (by omega)) dL_law_750 ?_
  refine tp_i (show xs (nI (i + 1)).toNatClampNeg = p0 from by rw [nI_clamp (by omega), hp0]) ?_
  refine lv_aload_n hx hb dL_law_751 rfl (lv_at hl 3 rfl) ?_
  refine run_i (S := (Unit × Int32 × (Nat → Int64)) ⊕ Unit) (run_SW (As := [.ref (x 0), .int p0, .ref ol]) (rest := []) (bs := [loC E ol lo, dbC E od dO, coC E x a a2 a3 b d k pa y w, stC E a g, stC E a2 g2, stC E a3 g3, hhC E b hs hg nx ct, diC E d co re, grC E k so gw, prC E pa q F, sbO E y v ml n, baC E v cp t, moC E mb z g gs ar]) (cb := [loC E ol lo, coC E x a a2 a3 b d k pa y w, stC E a g]) hx hb hml hown hts hK hZ hDD hA (c_L_shares l hst E _ x a a2 a3 b d k pa y w g B hI p0 ol lo) l_L_180 rfl ⟨⟨rfl, rfl⟩, Nat.le_of_ble_eq_true rfl, Nat.le_of_ble_eq_true rfl⟩ [0, 2, 3] rfl (by decide) hP hD hS hl.1 rfl (Nat.le_of_ble_eq_true rfl) dL_law_752 ⟨by show cells + 1 ≤ 603072; omega, by show slots + 6 ≤ 7174250; omega⟩) hA hP hD hS (isC := [0, 2, 3]) rfl [1, 4, 5, 6, 7, 8, 9, 10, 11, 12] [10, 0, 11, 12, 1, 2, 3, 4, 5, 6, 7, 8, 9] (br := [dbC E od dO, stC E a2 g2, stC E a3 g3, hhC E b hs hg nx ct, diC E d co re, grC E k so gw, prC E pa q F, sbO E y v ml n, baC E v cp t, moC E mb z g gs ar]) (bs2 := fun u => Sum.elim (fun (vq : Unit × Int32 × (Nat → Int64)) => [loC E ol vq.2.2, dbC E od dO, coC E x a a2 a3 b d k pa y w, stC E a g, stC E a2 g2, stC E a3 g3, hhC E b hs hg nx ct, diC E d co re, grC E k so gw, prC E pa q F, sbO E y v ml n, baC E v cp t, moC E mb z g gs ar]) (fun (vq : Unit) => [loC E ol lo, dbC E od dO, coC E x a a2 a3 b d k pa y w, stC E a g, stC E a2 g2, stC E a3 g3, hhC E b hs hg nx ct, diC E d co re, grC E k so gw, prC E pa q F, sbO E y v ml n, baC E v cp t, moC E mb z g gs ar]) u) rfl (by decide) (fun u => by rcases u with u | u <;> rfl) (by decide) (fun r u H locs hw hP hD hS => ?_)
  rcases u with vq | vq
  · skip
    obtain ⟨u9, r9, lo9⟩ := vq
    have hw7 : r = nI 0 ∧ (hasM g p0 = true ∧ r9 = nI (g 0 (tn p0))) ∧ lo9 0 = r9.toInt64 := hw
    clear hw
    obtain ⟨rfl, hw⟩ := hw7
    have hP : va_P E.1 vwCl ([loC E ol lo9, dbC E od dO, coC E x a a2 a3 b d k pa y w, stC E a g, stC E a2 g2, stC E a3 g3, hhC E b hs hg nx ct, diC E d co re, grC E k so gw, prC E pa q F, sbO E y v ml n, baC E v cp t, moC E mb z g gs ar] : List va_W).flatten H := hP
    have hD : va_D A ([loC E ol lo9, dbC E od dO, coC E x a a2 a3 b d k pa y w, stC E a g, stC E a2 g2, stC E a3 g3, hhC E b hs hg nx ct, diC E d co re, grC E k so gw, prC E pa q F, sbO E y v ml n, baC E v cp t, moC E mb z g gs ar] : List va_W).flatten := hD
    obtain ⟨⟨hcnd, hr9⟩, hlo⟩ := hw
    subst hr9
    refine lv_istore (lv' := [(6, .int (nI 0)), (0, .ref sb), (1, .ref (x 0)), (2, .ref (mb 0)), (3, .ref ol), (4, .ref od), (5, .int (nI i))]) hx hb dL_law_755 hl (by decide) rfl (fun ls hl => ?_)
    refine lv_aload_n hx hb dL_law_757 rfl (lv_at hl 3 rfl) ?_
    refine lv_aload_n hx hb dL_law_758 rfl (lv_at hl 1 rfl) ?_
    refine lv_iload hx hb dL_law_759 (lv_at hl 6 rfl) ?_
    refine lv_iconst (v := nI 1) hx hb dL_law_761 (by decide) ?_
    refine nv_iadd hx hb dL_law_762 ?_
    refine va_sld hx hb hX hbl hbA hS (vp_in_nI (show i + 1 < L by omega) (by omega)) dL_law_763 ?_
    refine tp_i (show xs (nI (i + 1)).toNatClampNeg = p0 from by rw [nI_clamp (by omega), hp0]) ?_
    refine run_i (S := Unit) (run_V (As := [.int p0]) (rest := []) (bs := [loC E ol lo9, dbC E od dO, coC E x a a2 a3 b d k pa y w, stC E a g, stC E a2 g2, stC E a3 g3, hhC E b hs hg nx ct, diC E d co re, grC E k so gw, prC E pa q F, sbO E y v ml n, baC E v cp t, moC E mb z g gs ar]) (cb := [moC E mb z g gs ar]) hx hb hml hown hts hK hZ hA (c_X6_shares l E _ mb z g gs ar p0 hmc) l_L_182 rfl ⟨⟨rfl, rfl⟩, Nat.le_of_ble_eq_true rfl, Nat.le_of_ble_eq_true rfl⟩ 10 rfl [12] rfl (by decide) rfl hP hD hS hl.1 rfl (Nat.le_of_ble_eq_true rfl) dL_law_764 ⟨by show (cells + 1) + 0 ≤ 603072; omega, by show (slots + 6) + 0 ≤ 7174250; omega⟩) hA hP hD hS (isC := [12]) rfl [0, 1, 2, 3, 4, 5, 6, 7, 8, 9, 10, 11] [0, 1, 2, 3, 4, 5, 6, 7, 8, 9, 10, 11, 12] (br := [loC E ol lo9, dbC E od dO, coC E x a a2 a3 b d k pa y w, stC E a g, stC E a2 g2, stC E a3 g3, hhC E b hs hg nx ct, diC E d co re, grC E k so gw, prC E pa q F, sbO E y v ml n, baC E v cp t]) (bs2 := fun _ => [loC E ol lo9, dbC E od dO, coC E x a a2 a3 b d k pa y w, stC E a g, stC E a2 g2, stC E a3 g3, hhC E b hs hg nx ct, diC E d co re, grC E k so gw, prC E pa q F, sbO E y v ml n, baC E v cp t, moC E mb (upn z 0 (if hasM g p0 = true then 0 else 1)) g gs ar]) rfl (by decide) (fun _ => rfl) (by decide) (fun r u6 H locs hw6 hP hD hS => ?_)
    have hw6 : r = nI (if hasM g p0 = true then g 0 (tn p0) else 0) := hw6
    subst hw6
    refine tp_i (show nI (if hasM g p0 = true then g 0 (tn p0) else 0) = nI (g 0 (tn p0)) from congrArg nI (if_pos hcnd)) ?_
    refine lv_istore (lv' := [(7, .int (nI (g 0 (tn p0)))), (6, .int (nI 0)), (0, .ref sb), (1, .ref (x 0)), (2, .ref (mb 0)), (3, .ref ol), (4, .ref od), (5, .int (nI i))]) hx hb dL_law_767 hl (by decide) rfl (fun ls hl => ?_)
    refine lv_aload_n hx hb dL_law_769 rfl (lv_at hl 4 rfl) ?_
    refine run_i (S := Unit) (run_V (As := []) (rest := []) (bs := [loC E ol lo9, dbC E od dO, coC E x a a2 a3 b d k pa y w, stC E a g, stC E a2 g2, stC E a3 g3, hhC E b hs hg nx ct, diC E d co re, grC E k so gw, prC E pa q F, sbO E y v ml n, baC E v cp t, moC E mb (upn z 0 (if hasM g p0 = true then 0 else 1)) g gs ar]) (cb := [moC E mb (upn z 0 (if hasM g p0 = true then 0 else 1)) g gs ar]) hx hb hml hown hts hK hZ hA (c_X6_thrown l E _ mb (upn z 0 (if hasM g p0 = true then 0 else 1)) g gs ar) l_L_152 rfl ⟨⟨rfl, rfl⟩, Nat.le_of_ble_eq_true rfl, Nat.le_of_ble_eq_true rfl⟩ 10 rfl [12] rfl (by decide) rfl hP hD hS hl.1 rfl (Nat.le_of_ble_eq_true rfl) dL_law_770 ⟨by show ((cells + 1) + 0) + 0 ≤ 603072; omega, by show ((slots + 6) + 0) + 0 ≤ 7174250; omega⟩) hA hP hD hS (isC := [12]) rfl [0, 1, 2, 3, 4, 5, 6, 7, 8, 9, 10, 11] [0, 1, 2, 3, 4, 5, 6, 7, 8, 9, 10, 11, 12] (br := [loC E ol lo9, dbC E od dO, coC E x a a2 a3 b d k pa y w, stC E a g, stC E a2 g2, stC E a3 g3, hhC E b hs hg nx ct, diC E d co re, grC E k so gw, prC E pa q F, sbO E y v ml n, baC E v cp t]) (bs2 := fun _ => [loC E ol lo9, dbC E od dO, coC E x a a2 a3 b d k pa y w, stC E a g, stC E a2 g2, stC E a3 g3, hhC E b hs hg nx ct, diC E d co re, grC E k so gw, prC E pa q F, sbO E y v ml n, baC E v cp t, moC E mb (upn z 0 (if hasM g p0 = true then 0 else 1)) g gs ar]) rfl (by decide) (fun _ => rfl) (by decide) (fun r u6 H locs hw6 hP hD hS => ?_)
    have hw6 : r = nI ((upn z 0 (if hasM g p0 = true then 0 else 1)) 0) := hw6
    subst hw6
    refine lv_iload hx hb dL_law_773 (lv_at hl 1 rfl) ?_
    refine lv_icmp_eq (tgt := 780) hx hb dL_law_775 (by decide) (fun _ => ?_) (fun hc => absurd (show nI ((upn z 0 (if hasM g p0 = true then 0 else 1)) 0) = nI 0 from congrArg nI (upn_s.trans (if_pos hcnd))) hc)
    refine lv_iload hx hb dL_law_780 (lv_at hl 1 rfl) ?_
    refine nv_if_ne (X := ((0 : Nat) : Int)) hx hb (nI_toInt (by omega)) (tgt := 797) dL_law_782 (by decide) (fun c_1 => ?_) (fun c_1 => ?_)
    · exact absurd c_1 (by omega)
    · skip
      refine lv_aload_n hx hb dL_law_785 rfl (lv_at hl 5 rfl) ?_
      refine lv_iconst (v := nI 0) hx hb dL_law_786 (by decide) ?_
      refine va_lald hx hb hK hP 0 4 rfl rfl (vp_in_nI (show 0 < 1 by decide) (by decide)) dL_law_787 ?_
      rw [show lo9 (nI 0).toNatClampNeg = (nI (g 0 (tn p0))).toInt64 from by rw [nI_clamp (show 0 < 2 ^ 31 by decide)]; exact hlo]
      refine lv_iload hx hb dL_law_788 (lv_at hl 0 rfl) ?_
      refine lv_i2l hx hb dL_law_790 rfl ?_
      refine W.lcmp hx hb dL_law_791 ?_
      refine tp_i (show lg_cmp ((nI (g 0 (tn p0))).toInt64) ((nI (g 0 (tn p0))).toInt64) = nI 0 from lg_eq _) ?_
      refine nv_if_eq (X := ((0 : Nat) : Int)) hx hb (nI_toInt (by omega)) (tgt := 797) dL_law_792 (by decide) (fun c_2 => ?_) (fun c_2 => ?_)
      · skip
        refine lv_goto (tgt := 2541) hx hb dL_law_797 (by decide) ?_
        exact W_widen (by omega) (by omega) (kk w g g2 g3 hg nx ct co re so gw q F v ml n cp t (upn z 0 (if hasM g p0 = true then 0 else 1)) gs ar lo9 dO _ _ _ (rel_q hR hB4) hP hD hS (lv_sub hl [2, 3, 4, 5, 6, 7] rfl))
      · exact absurd c_2 (by omega)
  · skip
    have hw : r = nI 1 ∧ hasM g p0 = false := hw
    have hP : va_P E.1 vwCl ([loC E ol lo, dbC E od dO, coC E x a a2 a3 b d k pa y w, stC E a g, stC E a2 g2, stC E a3 g3, hhC E b hs hg nx ct, diC E d co re, grC E k so gw, prC E pa q F, sbO E y v ml n, baC E v cp t, moC E mb z g gs ar] : List va_W).flatten H := hP
    have hD : va_D A ([loC E ol lo, dbC E od dO, coC E x a a2 a3 b d k pa y w, stC E a g, stC E a2 g2, stC E a3 g3, hhC E b hs hg nx ct, diC E d co re, grC E k so gw, prC E pa q F, sbO E y v ml n, baC E v cp t, moC E mb z g gs ar] : List va_W).flatten := hD
    obtain ⟨rfl, hq⟩ := hw
    refine lv_istore (lv' := [(6, .int (nI 1)), (0, .ref sb), (1, .ref (x 0)), (2, .ref (mb 0)), (3, .ref ol), (4, .ref od), (5, .int (nI i))]) hx hb dL_law_755 hl (by decide) rfl (fun ls hl => ?_)
    refine lv_aload_n hx hb dL_law_757 rfl (lv_at hl 3 rfl) ?_
    refine lv_aload_n hx hb dL_law_758 rfl (lv_at hl 1 rfl) ?_
    refine lv_iload hx hb dL_law_759 (lv_at hl 6 rfl) ?_
    refine lv_iconst (v := nI 1) hx hb dL_law_761 (by decide) ?_
    refine nv_iadd hx hb dL_law_762 ?_
    refine va_sld hx hb hX hbl hbA hS (vp_in_nI (show i + 1 < L by omega) (by omega)) dL_law_763 ?_
    refine tp_i (show xs (nI (i + 1)).toNatClampNeg = p0 from by rw [nI_clamp (by omega), hp0]) ?_
    refine run_i (S := Unit) (run_V (As := [.int p0]) (rest := []) (bs := [loC E ol lo, dbC E od dO, coC E x a a2 a3 b d k pa y w, stC E a g, stC E a2 g2, stC E a3 g3, hhC E b hs hg nx ct, diC E d co re, grC E k so gw, prC E pa q F, sbO E y v ml n, baC E v cp t, moC E mb z g gs ar]) (cb := [moC E mb z g gs ar]) hx hb hml hown hts hK hZ hA (c_X6_shares l E _ mb z g gs ar p0 hmc) l_L_182 rfl ⟨⟨rfl, rfl⟩, Nat.le_of_ble_eq_true rfl, Nat.le_of_ble_eq_true rfl⟩ 10 rfl [12] rfl (by decide) rfl hP hD hS hl.1 rfl (Nat.le_of_ble_eq_true rfl) dL_law_764 ⟨by show (cells + 1) + 0 ≤ 603072; omega, by show (slots + 6) + 0 ≤ 7174250; omega⟩) hA hP hD hS (isC := [12]) rfl [0, 1, 2, 3, 4, 5, 6, 7, 8, 9, 10, 11] [0, 1, 2, 3, 4, 5, 6, 7, 8, 9, 10, 11, 12] (br := [loC E ol lo, dbC E od dO, coC E x a a2 a3 b d k pa y w, stC E a g, stC E a2 g2, stC E a3 g3, hhC E b hs hg nx ct, diC E d co re, grC E k so gw, prC E pa q F, sbO E y v ml n, baC E v cp t]) (bs2 := fun _ => [loC E ol lo, dbC E od dO, coC E x a a2 a3 b d k pa y w, stC E a g, stC E a2 g2, stC E a3 g3, hhC E b hs hg nx ct, diC E d co re, grC E k so gw, prC E pa q F, sbO E y v ml n, baC E v cp t, moC E mb (upn z 0 (if hasM g p0 = true then 0 else 1)) g gs ar]) rfl (by decide) (fun _ => rfl) (by decide) (fun r u6 H locs hw6 hP hD hS => ?_)
    have hw6 : r = nI (if hasM g p0 = true then g 0 (tn p0) else 0) := hw6
    subst hw6
    refine lv_istore (lv' := [(7, .int (nI (if hasM g p0 = true then g 0 (tn p0) else 0))), (6, .int (nI 1)), (0, .ref sb), (1, .ref (x 0)), (2, .ref (mb 0)), (3, .ref ol), (4, .ref od), (5, .int (nI i))]) hx hb dL_law_767 hl (by decide) rfl (fun ls hl => ?_)
    refine lv_aload_n hx hb dL_law_769 rfl (lv_at hl 4 rfl) ?_
    refine run_i (S := Unit) (run_V (As := []) (rest := []) (bs := [loC E ol lo, dbC E od dO, coC E x a a2 a3 b d k pa y w, stC E a g, stC E a2 g2, stC E a3 g3, hhC E b hs hg nx ct, diC E d co re, grC E k so gw, prC E pa q F, sbO E y v ml n, baC E v cp t, moC E mb (upn z 0 (if hasM g p0 = true then 0 else 1)) g gs ar]) (cb := [moC E mb (upn z 0 (if hasM g p0 = true then 0 else 1)) g gs ar]) hx hb hml hown hts hK hZ hA (c_X6_thrown l E _ mb (upn z 0 (if hasM g p0 = true then 0 else 1)) g gs ar) l_L_152 rfl ⟨⟨rfl, rfl⟩, Nat.le_of_ble_eq_true rfl, Nat.le_of_ble_eq_true rfl⟩ 10 rfl [12] rfl (by decide) rfl hP hD hS hl.1 rfl (Nat.le_of_ble_eq_true rfl) dL_law_770 ⟨by show ((cells + 1) + 0) + 0 ≤ 603072; omega, by show ((slots + 6) + 0) + 0 ≤ 7174250; omega⟩) hA hP hD hS (isC := [12]) rfl [0, 1, 2, 3, 4, 5, 6, 7, 8, 9, 10, 11] [0, 1, 2, 3, 4, 5, 6, 7, 8, 9, 10, 11, 12] (br := [loC E ol lo, dbC E od dO, coC E x a a2 a3 b d k pa y w, stC E a g, stC E a2 g2, stC E a3 g3, hhC E b hs hg nx ct, diC E d co re, grC E k so gw, prC E pa q F, sbO E y v ml n, baC E v cp t]) (bs2 := fun _ => [loC E ol lo, dbC E od dO, coC E x a a2 a3 b d k pa y w, stC E a g, stC E a2 g2, stC E a3 g3, hhC E b hs hg nx ct, diC E d co re, grC E k so gw, prC E pa q F, sbO E y v ml n, baC E v cp t, moC E mb (upn z 0 (if hasM g p0 = true then 0 else 1)) g gs ar]) rfl (by decide) (fun _ => rfl) (by decide) (fun r u6 H locs hw6 hP hD hS => ?_)
    have hw6 : r = nI ((upn z 0 (if hasM g p0 = true then 0 else 1)) 0) := hw6
    subst hw6
    refine lv_iload hx hb dL_law_773 (lv_at hl 1 rfl) ?_
    refine lv_icmp_eq (tgt := 780) hx hb dL_law_775 (by decide) (fun _ => ?_) (fun hc => absurd (show nI ((upn z 0 (if hasM g p0 = true then 0 else 1)) 0) = nI 1 from congrArg nI (upn_s.trans (if_neg (fun h9 => by rw [hq] at h9; cases h9)))) hc)
    refine lv_iload hx hb dL_law_780 (lv_at hl 1 rfl) ?_
    refine nv_if_ne (X := ((1 : Nat) : Int)) hx hb (nI_toInt (by omega)) (tgt := 797) dL_law_782 (by decide) (fun c_3 => ?_) (fun c_3 => ?_)
    · skip
      refine lv_goto (tgt := 2541) hx hb dL_law_797 (by decide) ?_
      exact W_widen (by omega) (by omega) (kk w g g2 g3 hg nx ct co re so gw q F v ml n cp t (upn z 0 (if hasM g p0 = true then 0 else 1)) gs ar lo dO _ _ _ (rel_q hR hB4) hP hD hS (lv_sub hl [2, 3, 4, 5, 6, 7] rfl))
    · exact absurd c_3 (by omega)
set_option maxHeartbeats 4000000 in
set_option maxRecDepth 100000 in
theorem st_memberCount {p : Program} {l : Launch} {e : Env} {s : State} {m : MethodId} {args : Array Value} {below : List Frame} {meth : Method} {c : Code} {E : EE} {A : Nat → Prop} {Q : State → Prop} {x a a2 a3 b d k pa y : Nat → Nat} {hs : Nat → Nat → Nat} {mb : Nat → Nat} {ol od sb : Nat} {i B cells slots L : Nat} {xs : Nat → Int32} (C : LCx p l s m args c E A sb L xs) (hL : L ≤ 2560) (hi : i + 5 ≤ L) (hB4 : B + 420 ≤ 300000) (hrc : cells + 13 ≤ 603072 ∧ slots + 414 ≤ 7174250) (kk : LGo p l e s m args below meth c E A Q x a a2 a3 b d k pa y hs mb ol od sb i (B + 420) (cells + 13) (slots + 414) 2541) : LGo p l e s m args below meth c E A Q x a a2 a3 b d k pa y hs mb ol od sb i B cells slots 731 := by
  obtain ⟨hx, hb, hml, hown, hts, hK, hZ, hDD, hA, hX, hbl, hbA, hst⟩ := C
  intro w g g2 g3 hg nx ct co re so gw q F v ml n cp t z gs ar lo dO H locs ls hR hP hD hS hl
  obtain ⟨hI, ⟨hs1, hs2, hs3⟩, ⟨hnx, hct, hz1, hh9⟩, ⟨hw1, hw2, hz5, hz6⟩, ⟨hq1, hq2, hF0, hF9⟩, ⟨hn1, hn2, hcp, ht9, htx, ho2⟩⟩ := id hR
  have hmc := hI.mc
  refine lv_aload_n hx hb dL_law_731 rfl (lv_at hl 1 rfl) ?_
  refine run_i (S := Unit) (run_V (As := []) (rest := []) (bs := [loC E ol lo, dbC E od dO, coC E x a a2 a3 b d k pa y w, stC E a g, stC E a2 g2, stC E a3 g3, hhC E b hs hg nx ct, diC E d co re, grC E k so gw, prC E pa q F, sbO E y v ml n, baC E v cp t, moC E mb z g gs ar]) (cb := [coC E x a a2 a3 b d k pa y w, stC E a g]) hx hb hml hown hts hK hZ hA (c_X5_memberCount l E _ x a a2 a3 b d k pa y w g B hI) l_L_176 rfl ⟨⟨rfl, rfl⟩, Nat.le_of_ble_eq_true rfl, Nat.le_of_ble_eq_true rfl⟩ 9 rfl [2, 3] rfl (by decide) rfl hP hD hS hl.1 rfl (Nat.le_of_ble_eq_true rfl) dL_law_732 ⟨by show cells + 0 ≤ 603072; omega, by show slots + 0 ≤ 7174250; omega⟩) hA hP hD hS (isC := [2, 3]) rfl [0, 1, 4, 5, 6, 7, 8, 9, 10, 11, 12] [0, 1, 11, 12, 2, 3, 4, 5, 6, 7, 8, 9, 10] (br := [loC E ol lo, dbC E od dO, stC E a2 g2, stC E a3 g3, hhC E b hs hg nx ct, diC E d co re, grC E k so gw, prC E pa q F, sbO E y v ml n, baC E v cp t, moC E mb z g gs ar]) (bs2 := fun _ => [loC E ol lo, dbC E od dO, coC E x a a2 a3 b d k pa y w, stC E a g, stC E a2 g2, stC E a3 g3, hhC E b hs hg nx ct, diC E d co re, grC E k so gw, prC E pa q F, sbO E y v ml n, baC E v cp t, moC E mb z g gs ar]) rfl (by decide) (fun _ => rfl) (by decide) (fun r u5 H locs hw6 hP hD hS => ?_)
  have hw6 : r = nI (g 8 0) := hw6
  subst hw6
  refine lv_aload_n hx hb dL_law_735 rfl (lv_at hl 2 rfl) ?_
  refine run_i (S := Unit) (run_V (As := []) (rest := [.int (nI (g 8 0))]) (bs := [loC E ol lo, dbC E od dO, coC E x a a2 a3 b d k pa y w, stC E a g, stC E a2 g2, stC E a3 g3, hhC E b hs hg nx ct, diC E d co re, grC E k so gw, prC E pa q F, sbO E y v ml n, baC E v cp t, moC E mb z g gs ar]) (cb := [moC E mb z g gs ar]) hx hb hml hown hts hK hZ hA (c_X6_memberCount l E _ mb z g gs ar) l_L_179 rfl ⟨⟨rfl, rfl⟩, Nat.le_of_ble_eq_true rfl, Nat.le_of_ble_eq_true rfl⟩ 10 rfl [12] rfl (by decide) rfl hP hD hS hl.1 rfl (Nat.le_of_ble_eq_true rfl) dL_law_736 ⟨by show (cells + 0) + 0 ≤ 603072; omega, by show (slots + 0) + 0 ≤ 7174250; omega⟩) hA hP hD hS (isC := [12]) rfl [0, 1, 2, 3, 4, 5, 6, 7, 8, 9, 10, 11] [0, 1, 2, 3, 4, 5, 6, 7, 8, 9, 10, 11, 12] (br := [loC E ol lo, dbC E od dO, coC E x a a2 a3 b d k pa y w, stC E a g, stC E a2 g2, stC E a3 g3, hhC E b hs hg nx ct, diC E d co re, grC E k so gw, prC E pa q F, sbO E y v ml n, baC E v cp t]) (bs2 := fun _ => [loC E ol lo, dbC E od dO, coC E x a a2 a3 b d k pa y w, stC E a g, stC E a2 g2, stC E a3 g3, hhC E b hs hg nx ct, diC E d co re, grC E k so gw, prC E pa q F, sbO E y v ml n, baC E v cp t, moC E mb (upn z 0 0) g gs ar]) rfl (by decide) (fun _ => rfl) (by decide) (fun r u6 H locs hw6 hP hD hS => ?_)
  have hw6 : r = nI (g 8 0) := hw6
  subst hw6
  refine lv_icmp_eq (tgt := 2541) hx hb dL_law_739 (by decide) (fun _ => ?_) (fun hc => absurd (show nI (g 8 0) = nI (g 8 0) from rfl) hc)
  exact W_widen (by omega) (by omega) (kk w g g2 g3 hg nx ct co re so gw q F v ml n cp t (upn z 0 0) gs ar lo dO _ _ _ (rel_q hR hB4) hP hD hS (lv_sub hl [0, 1, 2, 3, 4, 5] rfl))
set_option maxHeartbeats 4000000 in
set_option maxRecDepth 100000 in
theorem st_addMember {p : Program} {l : Launch} {e : Env} {s : State} {m : MethodId} {args : Array Value} {below : List Frame} {meth : Method} {c : Code} {E : EE} {A : Nat → Prop} {Q : State → Prop} {x a a2 a3 b d k pa y : Nat → Nat} {hs : Nat → Nat → Nat} {mb : Nat → Nat} {ol od sb : Nat} {i B cells slots L : Nat} {xs : Nat → Int32} (C : LCx p l s m args c E A sb L xs) (hL : L ≤ 2560) (hi : i + 5 ≤ L) (hB4 : B + 420 ≤ 300000) (hrc : cells + 13 ≤ 603072 ∧ slots + 414 ≤ 7174250) (kk : LGo p l e s m args below meth c E A Q x a a2 a3 b d k pa y hs mb ol od sb i (B + 420) (cells + 13) (slots + 414) 2541) : LGo p l e s m args below meth c E A Q x a a2 a3 b d k pa y hs mb ol od sb i B cells slots 260 := by
  obtain ⟨hx, hb, hml, hown, hts, hK, hZ, hDD, hA, hX, hbl, hbA, hst⟩ := C
  intro w g g2 g3 hg nx ct co re so gw q F v ml n cp t z gs ar lo dO H locs ls hR hP hD hS hl
  obtain ⟨hI, ⟨hs1, hs2, hs3⟩, ⟨hnx, hct, hz1, hh9⟩, ⟨hw1, hw2, hz5, hz6⟩, ⟨hq1, hq2, hF0, hF9⟩, ⟨hn1, hn2, hcp, ht9, htx, ho2⟩⟩ := id hR
  have hmc := hI.mc
  obtain ⟨p0, hp0⟩ : ∃ y9, y9 = xs (i + 1) := ⟨_, rfl⟩
  obtain ⟨p1, hp1⟩ : ∃ y9, y9 = xs (i + 2) := ⟨_, rfl⟩
  obtain ⟨p2, hp2⟩ : ∃ y9, y9 = xs (i + 3) := ⟨_, rfl⟩
  obtain ⟨p3, hp3⟩ : ∃ y9, y9 = xs (i + 4) := ⟨_, rfl⟩
  refine lv_aload_n hx hb dL_law_260 rfl (lv_at hl 1 rfl) ?_
  refine lv_aload_n hx hb dL_law_261 rfl (lv_at hl 0 rfl) ?_
  refine lv_iload hx hb dL_law_262 (lv_at hl 5 rfl) ?_
  refine lv_iconst (v := nI 1) hx hb dL_law_264 (by decide) ?_
  refine nv_iadd hx hb dL_law_265 ?_
  refine va_sld hx hb hX hbl hbA hS (vp_in_nI (show i + 1 < L by omega) (by omega)) dL_law_266 ?_
  refine tp_i (show xs (nI (i + 1)).toNatClampNeg = p0 from by rw [nI_clamp (by omega), hp0]) ?_
  refine lv_aload_n hx hb dL_law_267 rfl (lv_at hl 0 rfl) ?_
  refine lv_iload hx hb dL_law_268 (lv_at hl 5 rfl) ?_
  refine lv_iconst (v := nI 2) hx hb dL_law_270 (by decide) ?_
  refine nv_iadd hx hb dL_law_271 ?_
  refine va_sld hx hb hX hbl hbA hS (vp_in_nI (show i + 2 < L by omega) (by omega)) dL_law_272 ?_
  refine tp_i (show xs (nI (i + 2)).toNatClampNeg = p1 from by rw [nI_clamp (by omega), hp1]) ?_
  refine lv_aload_n hx hb dL_law_273 rfl (lv_at hl 0 rfl) ?_
  refine lv_iload hx hb dL_law_274 (lv_at hl 5 rfl) ?_
  refine lv_iconst (v := nI 3) hx hb dL_law_276 (by decide) ?_
  refine nv_iadd hx hb dL_law_277 ?_
  refine va_sld hx hb hX hbl hbA hS (vp_in_nI (show i + 3 < L by omega) (by omega)) dL_law_278 ?_
  refine tp_i (show xs (nI (i + 3)).toNatClampNeg = p2 from by rw [nI_clamp (by omega), hp2]) ?_
  refine lv_aload_n hx hb dL_law_279 rfl (lv_at hl 0 rfl) ?_
  refine lv_iload hx hb dL_law_280 (lv_at hl 5 rfl) ?_
  refine lv_iconst (v := nI 4) hx hb dL_law_282 (by decide) ?_
  refine nv_iadd hx hb dL_law_283 ?_
  refine va_sld hx hb hX hbl hbA hS (vp_in_nI (show i + 4 < L by omega) (by omega)) dL_law_284 ?_
  refine tp_i (show xs (nI (i + 4)).toNatClampNeg = p3 from by rw [nI_clamp (by omega), hp3]) ?_
  refine lv_aload_n hx hb dL_law_285 rfl (lv_at hl 3 rfl) ?_
  refine run_i (S := (Unit × Int32 × (Nat → Int64)) ⊕ Unit) (run_SW (As := [.ref (x 0), .int p0, .int p1, .int p2, .int p3, .ref ol]) (rest := []) (bs := [loC E ol lo, dbC E od dO, coC E x a a2 a3 b d k pa y w, stC E a g, stC E a2 g2, stC E a3 g3, hhC E b hs hg nx ct, diC E d co re, grC E k so gw, prC E pa q F, sbO E y v ml n, baC E v cp t, moC E mb z g gs ar]) (cb := [loC E ol lo, coC E x a a2 a3 b d k pa y w, hhC E b hs hg nx ct, stC E a g]) hx hb hml hown hts hK hZ hDD hA (c_L_addMember l hst E _ x a a2 a3 b d k pa y w g B hI hs hg nx ct hnx hct p0 p1 p2 p3 ol lo) l_L_146 rfl ⟨⟨rfl, rfl⟩, Nat.le_of_ble_eq_true rfl, Nat.le_of_ble_eq_true rfl⟩ [0, 2, 6, 3] rfl (by decide) hP hD hS hl.1 rfl (Nat.le_of_ble_eq_true rfl) dL_law_286 ⟨by show cells + 1 ≤ 603072; omega, by show slots + 6 ≤ 7174250; omega⟩) hA hP hD hS (isC := [0, 2, 6, 3]) rfl [1, 4, 5, 7, 8, 9, 10, 11, 12] [9, 0, 10, 12, 1, 2, 11, 3, 4, 5, 6, 7, 8] (br := [dbC E od dO, stC E a2 g2, stC E a3 g3, diC E d co re, grC E k so gw, prC E pa q F, sbO E y v ml n, baC E v cp t, moC E mb z g gs ar]) (bs2 := fun u => Sum.elim (fun (vq : Unit × Int32 × (Nat → Int64)) => [loC E ol vq.2.2, dbC E od dO, coC E x a a2 a3 b d k pa y w, stC E a (joinG g (tn p0) (tn p1) (tn p2) (tn p3)), stC E a2 g2, stC E a3 g3, hhC E b hs (upa hg nx g) ((nx + 1) % 8) (if 8 < ct + 1 then 8 else ct + 1), diC E d co re, grC E k so gw, prC E pa q F, sbO E y v ml n, baC E v cp t, moC E mb z g gs ar]) (fun (vq : Unit) => [loC E ol lo, dbC E od dO, coC E x a a2 a3 b d k pa y w, stC E a g, stC E a2 g2, stC E a3 g3, hhC E b hs hg nx ct, diC E d co re, grC E k so gw, prC E pa q F, sbO E y v ml n, baC E v cp t, moC E mb z g gs ar]) u) rfl (by decide) (fun u => by rcases u with u | u <;> rfl) (by decide) (fun r u H locs hw hP hD hS => ?_)
  rcases u with vq | vq
  · skip
    obtain ⟨u9, r9, lo9⟩ := vq
    have hw7 : r = nI 0 ∧ (fJoin g p0 p1 p2 p3 = 0 ∧ r9 = nI (g 8 0)) ∧ lo9 0 = r9.toInt64 := hw
    clear hw
    obtain ⟨rfl, hw⟩ := hw7
    have hP : va_P E.1 vwCl ([loC E ol lo9, dbC E od dO, coC E x a a2 a3 b d k pa y w, stC E a (joinG g (tn p0) (tn p1) (tn p2) (tn p3)), stC E a2 g2, stC E a3 g3, hhC E b hs (upa hg nx g) ((nx + 1) % 8) (if 8 < ct + 1 then 8 else ct + 1), diC E d co re, grC E k so gw, prC E pa q F, sbO E y v ml n, baC E v cp t, moC E mb z g gs ar] : List va_W).flatten H := hP
    have hD : va_D A ([loC E ol lo9, dbC E od dO, coC E x a a2 a3 b d k pa y w, stC E a (joinG g (tn p0) (tn p1) (tn p2) (tn p3)), stC E a2 g2, stC E a3 g3, hhC E b hs (upa hg nx g) ((nx + 1) % 8) (if 8 < ct + 1 then 8 else ct + 1), diC E d co re, grC E k so gw, prC E pa q F, sbO E y v ml n, baC E v cp t, moC E mb z g gs ar] : List va_W).flatten := hD
    obtain ⟨⟨hcnd, hr9⟩, hlo⟩ := hw
    subst hr9
    refine lv_istore (lv' := [(6, .int (nI 0)), (0, .ref sb), (1, .ref (x 0)), (2, .ref (mb 0)), (3, .ref ol), (4, .ref od), (5, .int (nI i))]) hx hb dL_law_289 hl (by decide) rfl (fun ls hl => ?_)
    refine lv_aload_n hx hb dL_law_291 rfl (lv_at hl 3 rfl) ?_
    refine lv_aload_n hx hb dL_law_292 rfl (lv_at hl 1 rfl) ?_
    refine lv_iload hx hb dL_law_293 (lv_at hl 6 rfl) ?_
    refine lv_iconst (v := nI 1) hx hb dL_law_295 (by decide) ?_
    refine nv_iadd hx hb dL_law_296 ?_
    refine va_sld hx hb hX hbl hbA hS (vp_in_nI (show i + 1 < L by omega) (by omega)) dL_law_297 ?_
    refine tp_i (show xs (nI (i + 1)).toNatClampNeg = p0 from by rw [nI_clamp (by omega), hp0]) ?_
    refine lv_aload_n hx hb dL_law_298 rfl (lv_at hl 1 rfl) ?_
    refine lv_iload hx hb dL_law_299 (lv_at hl 6 rfl) ?_
    refine lv_iconst (v := nI 2) hx hb dL_law_301 (by decide) ?_
    refine nv_iadd hx hb dL_law_302 ?_
    refine va_sld hx hb hX hbl hbA hS (vp_in_nI (show i + 2 < L by omega) (by omega)) dL_law_303 ?_
    refine tp_i (show xs (nI (i + 2)).toNatClampNeg = p1 from by rw [nI_clamp (by omega), hp1]) ?_
    refine lv_aload_n hx hb dL_law_304 rfl (lv_at hl 1 rfl) ?_
    refine lv_iload hx hb dL_law_305 (lv_at hl 6 rfl) ?_
    refine lv_iconst (v := nI 3) hx hb dL_law_307 (by decide) ?_
    refine nv_iadd hx hb dL_law_308 ?_
    refine va_sld hx hb hX hbl hbA hS (vp_in_nI (show i + 3 < L by omega) (by omega)) dL_law_309 ?_
    refine tp_i (show xs (nI (i + 3)).toNatClampNeg = p2 from by rw [nI_clamp (by omega), hp2]) ?_
    refine lv_aload_n hx hb dL_law_310 rfl (lv_at hl 1 rfl) ?_
    refine lv_iload hx hb dL_law_311 (lv_at hl 6 rfl) ?_
    refine lv_iconst (v := nI 4) hx hb dL_law_313 (by decide) ?_
    refine nv_iadd hx hb dL_law_314 ?_
    refine va_sld hx hb hX hbl hbA hS (vp_in_nI (show i + 4 < L by omega) (by omega)) dL_law_315 ?_
    refine tp_i (show xs (nI (i + 4)).toNatClampNeg = p3 from by rw [nI_clamp (by omega), hp3]) ?_
    refine run_i (S := Unit) (run_V (As := [.int p0, .int p1, .int p2, .int p3]) (rest := []) (bs := [loC E ol lo9, dbC E od dO, coC E x a a2 a3 b d k pa y w, stC E a (joinG g (tn p0) (tn p1) (tn p2) (tn p3)), stC E a2 g2, stC E a3 g3, hhC E b hs (upa hg nx g) ((nx + 1) % 8) (if 8 < ct + 1 then 8 else ct + 1), diC E d co re, grC E k so gw, prC E pa q F, sbO E y v ml n, baC E v cp t, moC E mb z g gs ar]) (cb := [moC E mb z g gs ar]) hx hb hml hown hts hK hZ hA (c_X6_addMember l E _ mb z g gs ar (by omega) B hI p0 p1 p2 p3) l_L_151 rfl ⟨⟨rfl, rfl⟩, Nat.le_of_ble_eq_true rfl, Nat.le_of_ble_eq_true rfl⟩ 10 rfl [12] rfl (by decide) rfl hP hD hS hl.1 rfl (Nat.le_of_ble_eq_true rfl) dL_law_316 ⟨by show (cells + 1) + 0 ≤ 603072; omega, by show (slots + 6) + 0 ≤ 7174250; omega⟩) hA hP hD hS (isC := [12]) rfl [0, 1, 2, 3, 4, 5, 6, 7, 8, 9, 10, 11] [0, 1, 2, 3, 4, 5, 6, 7, 8, 9, 10, 11, 12] (br := [loC E ol lo9, dbC E od dO, coC E x a a2 a3 b d k pa y w, stC E a (joinG g (tn p0) (tn p1) (tn p2) (tn p3)), stC E a2 g2, stC E a3 g3, hhC E b hs (upa hg nx g) ((nx + 1) % 8) (if 8 < ct + 1 then 8 else ct + 1), diC E d co re, grC E k so gw, prC E pa q F, sbO E y v ml n, baC E v cp t]) (bs2 := fun _ => [loC E ol lo9, dbC E od dO, coC E x a a2 a3 b d k pa y w, stC E a (joinG g (tn p0) (tn p1) (tn p2) (tn p3)), stC E a2 g2, stC E a3 g3, hhC E b hs (upa hg nx g) ((nx + 1) % 8) (if 8 < ct + 1 then 8 else ct + 1), diC E d co re, grC E k so gw, prC E pa q F, sbO E y v ml n, baC E v cp t, moC E mb (mchZ (fJoin g p0 p1 p2 p3) 1 (g 8 0) z) (if fJoin g p0 p1 p2 p3 = 0 then joinG g (tn p0) (tn p1) (tn p2) (tn p3) else g) (mchS (fJoin g p0 p1 p2 p3) (z 1) g gs) ar]) rfl (by decide) (fun _ => rfl) (by decide) (fun r u6 H locs hw6 hP hD hS => ?_)
    have hw6 : r = nI (if fJoin g p0 p1 p2 p3 = 0 then g 8 0 else 0) := hw6
    subst hw6
    rw [if_pos hcnd] at hP hD
    have hP : va_P E.1 vwCl ([loC E ol lo9, dbC E od dO, coC E x a a2 a3 b d k pa y w, stC E a (joinG g (tn p0) (tn p1) (tn p2) (tn p3)), stC E a2 g2, stC E a3 g3, hhC E b hs (upa hg nx g) ((nx + 1) % 8) (if 8 < ct + 1 then 8 else ct + 1), diC E d co re, grC E k so gw, prC E pa q F, sbO E y v ml n, baC E v cp t, moC E mb (mchZ (fJoin g p0 p1 p2 p3) 1 (g 8 0) z) (joinG g (tn p0) (tn p1) (tn p2) (tn p3)) (mchS (fJoin g p0 p1 p2 p3) (z 1) g gs) ar] : List va_W).flatten H := hP
    have hD : va_D A ([loC E ol lo9, dbC E od dO, coC E x a a2 a3 b d k pa y w, stC E a (joinG g (tn p0) (tn p1) (tn p2) (tn p3)), stC E a2 g2, stC E a3 g3, hhC E b hs (upa hg nx g) ((nx + 1) % 8) (if 8 < ct + 1 then 8 else ct + 1), diC E d co re, grC E k so gw, prC E pa q F, sbO E y v ml n, baC E v cp t, moC E mb (mchZ (fJoin g p0 p1 p2 p3) 1 (g 8 0) z) (joinG g (tn p0) (tn p1) (tn p2) (tn p3)) (mchS (fJoin g p0 p1 p2 p3) (z 1) g gs) ar] : List va_W).flatten := hD
    refine tp_i (show nI (if fJoin g p0 p1 p2 p3 = 0 then g 8 0 else 0) = nI (g 8 0) from congrArg nI (if_pos hcnd)) ?_
    refine lv_istore (lv' := [(7, .int (nI (g 8 0))), (6, .int (nI 0)), (0, .ref sb), (1, .ref (x 0)), (2, .ref (mb 0)), (3, .ref ol), (4, .ref od), (5, .int (nI i))]) hx hb dL_law_319 hl (by decide) rfl (fun ls hl => ?_)
    refine lv_aload_n hx hb dL_law_321 rfl (lv_at hl 4 rfl) ?_
    refine run_i (S := Unit) (run_V (As := []) (rest := []) (bs := [loC E ol lo9, dbC E od dO, coC E x a a2 a3 b d k pa y w, stC E a (joinG g (tn p0) (tn p1) (tn p2) (tn p3)), stC E a2 g2, stC E a3 g3, hhC E b hs (upa hg nx g) ((nx + 1) % 8) (if 8 < ct + 1 then 8 else ct + 1), diC E d co re, grC E k so gw, prC E pa q F, sbO E y v ml n, baC E v cp t, moC E mb (mchZ (fJoin g p0 p1 p2 p3) 1 (g 8 0) z) (joinG g (tn p0) (tn p1) (tn p2) (tn p3)) (mchS (fJoin g p0 p1 p2 p3) (z 1) g gs) ar]) (cb := [moC E mb (mchZ (fJoin g p0 p1 p2 p3) 1 (g 8 0) z) (joinG g (tn p0) (tn p1) (tn p2) (tn p3)) (mchS (fJoin g p0 p1 p2 p3) (z 1) g gs) ar]) hx hb hml hown hts hK hZ hA (c_X6_thrown l E _ mb (mchZ (fJoin g p0 p1 p2 p3) 1 (g 8 0) z) (joinG g (tn p0) (tn p1) (tn p2) (tn p3)) (mchS (fJoin g p0 p1 p2 p3) (z 1) g gs) ar) l_L_152 rfl ⟨⟨rfl, rfl⟩, Nat.le_of_ble_eq_true rfl, Nat.le_of_ble_eq_true rfl⟩ 10 rfl [12] rfl (by decide) rfl hP hD hS hl.1 rfl (Nat.le_of_ble_eq_true rfl) dL_law_322 ⟨by show ((cells + 1) + 0) + 0 ≤ 603072; omega, by show ((slots + 6) + 0) + 0 ≤ 7174250; omega⟩) hA hP hD hS (isC := [12]) rfl [0, 1, 2, 3, 4, 5, 6, 7, 8, 9, 10, 11] [0, 1, 2, 3, 4, 5, 6, 7, 8, 9, 10, 11, 12] (br := [loC E ol lo9, dbC E od dO, coC E x a a2 a3 b d k pa y w, stC E a (joinG g (tn p0) (tn p1) (tn p2) (tn p3)), stC E a2 g2, stC E a3 g3, hhC E b hs (upa hg nx g) ((nx + 1) % 8) (if 8 < ct + 1 then 8 else ct + 1), diC E d co re, grC E k so gw, prC E pa q F, sbO E y v ml n, baC E v cp t]) (bs2 := fun _ => [loC E ol lo9, dbC E od dO, coC E x a a2 a3 b d k pa y w, stC E a (joinG g (tn p0) (tn p1) (tn p2) (tn p3)), stC E a2 g2, stC E a3 g3, hhC E b hs (upa hg nx g) ((nx + 1) % 8) (if 8 < ct + 1 then 8 else ct + 1), diC E d co re, grC E k so gw, prC E pa q F, sbO E y v ml n, baC E v cp t, moC E mb (mchZ (fJoin g p0 p1 p2 p3) 1 (g 8 0) z) (joinG g (tn p0) (tn p1) (tn p2) (tn p3)) (mchS (fJoin g p0 p1 p2 p3) (z 1) g gs) ar]) rfl (by decide) (fun _ => rfl) (by decide) (fun r u6 H locs hw6 hP hD hS => ?_)
    have hw6 : r = nI ((mchZ (fJoin g p0 p1 p2 p3) 1 (g 8 0) z) 0) := hw6
    subst hw6
    refine lv_iload hx hb dL_law_325 (lv_at hl 1 rfl) ?_
    refine lv_icmp_eq (tgt := 332) hx hb dL_law_327 (by decide) (fun _ => ?_) (fun hc => absurd (show nI ((mchZ (fJoin g p0 p1 p2 p3) 1 (g 8 0) z) 0) = nI 0 from congrArg nI (mchZ_0 hcnd)) hc)
    refine lv_iload hx hb dL_law_332 (lv_at hl 1 rfl) ?_
    refine nv_if_ne (X := ((0 : Nat) : Int)) hx hb (nI_toInt (by omega)) (tgt := 349) dL_law_334 (by decide) (fun c_1 => ?_) (fun c_1 => ?_)
    · exact absurd c_1 (by omega)
    · skip
      refine lv_aload_n hx hb dL_law_337 rfl (lv_at hl 5 rfl) ?_
      refine lv_iconst (v := nI 0) hx hb dL_law_338 (by decide) ?_
      refine va_lald hx hb hK hP 0 4 rfl rfl (vp_in_nI (show 0 < 1 by decide) (by decide)) dL_law_339 ?_
      rw [show lo9 (nI 0).toNatClampNeg = (nI (g 8 0)).toInt64 from by rw [nI_clamp (show 0 < 2 ^ 31 by decide)]; exact hlo]
      refine lv_iload hx hb dL_law_340 (lv_at hl 0 rfl) ?_
      refine lv_i2l hx hb dL_law_342 rfl ?_
      refine W.lcmp hx hb dL_law_343 ?_
      refine tp_i (show lg_cmp ((nI (g 8 0)).toInt64) ((nI (g 8 0)).toInt64) = nI 0 from lg_eq _) ?_
      refine nv_if_eq (X := ((0 : Nat) : Int)) hx hb (nI_toInt (by omega)) (tgt := 349) dL_law_344 (by decide) (fun c_2 => ?_) (fun c_2 => ?_)
      · skip
        refine lv_goto (tgt := 2541) hx hb dL_law_349 (by decide) ?_
        exact W_widen (by omega) (by omega) (kk w (joinG g (tn p0) (tn p1) (tn p2) (tn p3)) g2 g3 (upa hg nx g) ((nx + 1) % 8) (if 8 < ct + 1 then 8 else ct + 1) co re so gw q F v ml n cp t (mchZ (fJoin g p0 p1 p2 p3) 1 (g 8 0) z) (mchS (fJoin g p0 p1 p2 p3) (z 1) g gs) ar lo9 dO _ _ _ (rel_m hR hB4 hcnd (by have h9 := fJoin_0 hcnd; have e0 := tn_t (x := p0) (by omega); have e1 := tn_t (x := p1) (by omega); have e2 := tn_t (x := p2) (by omega); have e3 := tn_t (x := p3) (by omega); exact (IB_join hI (by omega) (by omega) (by omega) (by omega) (by omega)).le (by omega) hB4)) hP hD hS (lv_sub hl [2, 3, 4, 5, 6, 7] rfl))
      · exact absurd c_2 (by omega)
  · skip
    have hw : fJoin g p0 p1 p2 p3 ≠ 0 ∧ r = nI (fJoin g p0 p1 p2 p3 - 1) := hw
    have hP : va_P E.1 vwCl ([loC E ol lo, dbC E od dO, coC E x a a2 a3 b d k pa y w, stC E a g, stC E a2 g2, stC E a3 g3, hhC E b hs hg nx ct, diC E d co re, grC E k so gw, prC E pa q F, sbO E y v ml n, baC E v cp t, moC E mb z g gs ar] : List va_W).flatten H := hP
    have hD : va_D A ([loC E ol lo, dbC E od dO, coC E x a a2 a3 b d k pa y w, stC E a g, stC E a2 g2, stC E a3 g3, hhC E b hs hg nx ct, diC E d co re, grC E k so gw, prC E pa q F, sbO E y v ml n, baC E v cp t, moC E mb z g gs ar] : List va_W).flatten := hD
    obtain ⟨hf, rfl⟩ := hw
    have hf4 : fJoin g p0 p1 p2 p3 ≤ 4 ∧ fJoin g p0 p1 p2 p3 - 1 ≠ 0 := by rcases (fJ_v : fJoin g p0 p1 p2 p3 = 0 ∨ fJoin g p0 p1 p2 p3 = 2 ∨ fJoin g p0 p1 p2 p3 = 3) with h | h | h <;> omega
    refine lv_istore (lv' := [(6, .int (nI (fJoin g p0 p1 p2 p3 - 1))), (0, .ref sb), (1, .ref (x 0)), (2, .ref (mb 0)), (3, .ref ol), (4, .ref od), (5, .int (nI i))]) hx hb dL_law_289 hl (by decide) rfl (fun ls hl => ?_)
    refine lv_aload_n hx hb dL_law_291 rfl (lv_at hl 3 rfl) ?_
    refine lv_aload_n hx hb dL_law_292 rfl (lv_at hl 1 rfl) ?_
    refine lv_iload hx hb dL_law_293 (lv_at hl 6 rfl) ?_
    refine lv_iconst (v := nI 1) hx hb dL_law_295 (by decide) ?_
    refine nv_iadd hx hb dL_law_296 ?_
    refine va_sld hx hb hX hbl hbA hS (vp_in_nI (show i + 1 < L by omega) (by omega)) dL_law_297 ?_
    refine tp_i (show xs (nI (i + 1)).toNatClampNeg = p0 from by rw [nI_clamp (by omega), hp0]) ?_
    refine lv_aload_n hx hb dL_law_298 rfl (lv_at hl 1 rfl) ?_
    refine lv_iload hx hb dL_law_299 (lv_at hl 6 rfl) ?_
    refine lv_iconst (v := nI 2) hx hb dL_law_301 (by decide) ?_
    refine nv_iadd hx hb dL_law_302 ?_
    refine va_sld hx hb hX hbl hbA hS (vp_in_nI (show i + 2 < L by omega) (by omega)) dL_law_303 ?_
    refine tp_i (show xs (nI (i + 2)).toNatClampNeg = p1 from by rw [nI_clamp (by omega), hp1]) ?_
    refine lv_aload_n hx hb dL_law_304 rfl (lv_at hl 1 rfl) ?_
    refine lv_iload hx hb dL_law_305 (lv_at hl 6 rfl) ?_
    refine lv_iconst (v := nI 3) hx hb dL_law_307 (by decide) ?_
    refine nv_iadd hx hb dL_law_308 ?_
    refine va_sld hx hb hX hbl hbA hS (vp_in_nI (show i + 3 < L by omega) (by omega)) dL_law_309 ?_
    refine tp_i (show xs (nI (i + 3)).toNatClampNeg = p2 from by rw [nI_clamp (by omega), hp2]) ?_
    refine lv_aload_n hx hb dL_law_310 rfl (lv_at hl 1 rfl) ?_
    refine lv_iload hx hb dL_law_311 (lv_at hl 6 rfl) ?_
    refine lv_iconst (v := nI 4) hx hb dL_law_313 (by decide) ?_
    refine nv_iadd hx hb dL_law_314 ?_
    refine va_sld hx hb hX hbl hbA hS (vp_in_nI (show i + 4 < L by omega) (by omega)) dL_law_315 ?_
    refine tp_i (show xs (nI (i + 4)).toNatClampNeg = p3 from by rw [nI_clamp (by omega), hp3]) ?_
    refine run_i (S := Unit) (run_V (As := [.int p0, .int p1, .int p2, .int p3]) (rest := []) (bs := [loC E ol lo, dbC E od dO, coC E x a a2 a3 b d k pa y w, stC E a g, stC E a2 g2, stC E a3 g3, hhC E b hs hg nx ct, diC E d co re, grC E k so gw, prC E pa q F, sbO E y v ml n, baC E v cp t, moC E mb z g gs ar]) (cb := [moC E mb z g gs ar]) hx hb hml hown hts hK hZ hA (c_X6_addMember l E _ mb z g gs ar (by omega) B hI p0 p1 p2 p3) l_L_151 rfl ⟨⟨rfl, rfl⟩, Nat.le_of_ble_eq_true rfl, Nat.le_of_ble_eq_true rfl⟩ 10 rfl [12] rfl (by decide) rfl hP hD hS hl.1 rfl (Nat.le_of_ble_eq_true rfl) dL_law_316 ⟨by show (cells + 1) + 0 ≤ 603072; omega, by show (slots + 6) + 0 ≤ 7174250; omega⟩) hA hP hD hS (isC := [12]) rfl [0, 1, 2, 3, 4, 5, 6, 7, 8, 9, 10, 11] [0, 1, 2, 3, 4, 5, 6, 7, 8, 9, 10, 11, 12] (br := [loC E ol lo, dbC E od dO, coC E x a a2 a3 b d k pa y w, stC E a g, stC E a2 g2, stC E a3 g3, hhC E b hs hg nx ct, diC E d co re, grC E k so gw, prC E pa q F, sbO E y v ml n, baC E v cp t]) (bs2 := fun _ => [loC E ol lo, dbC E od dO, coC E x a a2 a3 b d k pa y w, stC E a g, stC E a2 g2, stC E a3 g3, hhC E b hs hg nx ct, diC E d co re, grC E k so gw, prC E pa q F, sbO E y v ml n, baC E v cp t, moC E mb (mchZ (fJoin g p0 p1 p2 p3) 1 (g 8 0) z) (if fJoin g p0 p1 p2 p3 = 0 then joinG g (tn p0) (tn p1) (tn p2) (tn p3) else g) (mchS (fJoin g p0 p1 p2 p3) (z 1) g gs) ar]) rfl (by decide) (fun _ => rfl) (by decide) (fun r u6 H locs hw6 hP hD hS => ?_)
    have hw6 : r = nI (if fJoin g p0 p1 p2 p3 = 0 then g 8 0 else 0) := hw6
    subst hw6
    rw [if_neg hf] at hP hD
    have hP : va_P E.1 vwCl ([loC E ol lo, dbC E od dO, coC E x a a2 a3 b d k pa y w, stC E a g, stC E a2 g2, stC E a3 g3, hhC E b hs hg nx ct, diC E d co re, grC E k so gw, prC E pa q F, sbO E y v ml n, baC E v cp t, moC E mb (mchZ (fJoin g p0 p1 p2 p3) 1 (g 8 0) z) g (mchS (fJoin g p0 p1 p2 p3) (z 1) g gs) ar] : List va_W).flatten H := hP
    have hD : va_D A ([loC E ol lo, dbC E od dO, coC E x a a2 a3 b d k pa y w, stC E a g, stC E a2 g2, stC E a3 g3, hhC E b hs hg nx ct, diC E d co re, grC E k so gw, prC E pa q F, sbO E y v ml n, baC E v cp t, moC E mb (mchZ (fJoin g p0 p1 p2 p3) 1 (g 8 0) z) g (mchS (fJoin g p0 p1 p2 p3) (z 1) g gs) ar] : List va_W).flatten := hD
    refine lv_istore (lv' := [(7, .int (nI (if fJoin g p0 p1 p2 p3 = 0 then g 8 0 else 0))), (6, .int (nI (fJoin g p0 p1 p2 p3 - 1))), (0, .ref sb), (1, .ref (x 0)), (2, .ref (mb 0)), (3, .ref ol), (4, .ref od), (5, .int (nI i))]) hx hb dL_law_319 hl (by decide) rfl (fun ls hl => ?_)
    refine lv_aload_n hx hb dL_law_321 rfl (lv_at hl 4 rfl) ?_
    refine run_i (S := Unit) (run_V (As := []) (rest := []) (bs := [loC E ol lo, dbC E od dO, coC E x a a2 a3 b d k pa y w, stC E a g, stC E a2 g2, stC E a3 g3, hhC E b hs hg nx ct, diC E d co re, grC E k so gw, prC E pa q F, sbO E y v ml n, baC E v cp t, moC E mb (mchZ (fJoin g p0 p1 p2 p3) 1 (g 8 0) z) g (mchS (fJoin g p0 p1 p2 p3) (z 1) g gs) ar]) (cb := [moC E mb (mchZ (fJoin g p0 p1 p2 p3) 1 (g 8 0) z) g (mchS (fJoin g p0 p1 p2 p3) (z 1) g gs) ar]) hx hb hml hown hts hK hZ hA (c_X6_thrown l E _ mb (mchZ (fJoin g p0 p1 p2 p3) 1 (g 8 0) z) g (mchS (fJoin g p0 p1 p2 p3) (z 1) g gs) ar) l_L_152 rfl ⟨⟨rfl, rfl⟩, Nat.le_of_ble_eq_true rfl, Nat.le_of_ble_eq_true rfl⟩ 10 rfl [12] rfl (by decide) rfl hP hD hS hl.1 rfl (Nat.le_of_ble_eq_true rfl) dL_law_322 ⟨by show ((cells + 1) + 0) + 0 ≤ 603072; omega, by show ((slots + 6) + 0) + 0 ≤ 7174250; omega⟩) hA hP hD hS (isC := [12]) rfl [0, 1, 2, 3, 4, 5, 6, 7, 8, 9, 10, 11] [0, 1, 2, 3, 4, 5, 6, 7, 8, 9, 10, 11, 12] (br := [loC E ol lo, dbC E od dO, coC E x a a2 a3 b d k pa y w, stC E a g, stC E a2 g2, stC E a3 g3, hhC E b hs hg nx ct, diC E d co re, grC E k so gw, prC E pa q F, sbO E y v ml n, baC E v cp t]) (bs2 := fun _ => [loC E ol lo, dbC E od dO, coC E x a a2 a3 b d k pa y w, stC E a g, stC E a2 g2, stC E a3 g3, hhC E b hs hg nx ct, diC E d co re, grC E k so gw, prC E pa q F, sbO E y v ml n, baC E v cp t, moC E mb (mchZ (fJoin g p0 p1 p2 p3) 1 (g 8 0) z) g (mchS (fJoin g p0 p1 p2 p3) (z 1) g gs) ar]) rfl (by decide) (fun _ => rfl) (by decide) (fun r u6 H locs hw6 hP hD hS => ?_)
    have hw6 : r = nI ((mchZ (fJoin g p0 p1 p2 p3) 1 (g 8 0) z) 0) := hw6
    subst hw6
    refine lv_iload hx hb dL_law_325 (lv_at hl 1 rfl) ?_
    refine lv_icmp_eq (tgt := 332) hx hb dL_law_327 (by decide) (fun _ => ?_) (fun hc => absurd (show nI ((mchZ (fJoin g p0 p1 p2 p3) 1 (g 8 0) z) 0) = nI (fJoin g p0 p1 p2 p3 - 1) from congrArg nI (mchZ_1 hf)) hc)
    refine lv_iload hx hb dL_law_332 (lv_at hl 1 rfl) ?_
    refine nv_if_ne (X := ((fJoin g p0 p1 p2 p3 - 1 : Nat) : Int)) hx hb (nI_toInt (by omega)) (tgt := 349) dL_law_334 (by decide) (fun c_3 => ?_) (fun c_3 => ?_)
    · skip
      refine lv_goto (tgt := 2541) hx hb dL_law_349 (by decide) ?_
      exact W_widen (by omega) (by omega) (kk w g g2 g3 hg nx ct co re so gw q F v ml n cp t (mchZ (fJoin g p0 p1 p2 p3) 1 (g 8 0) z) (mchS (fJoin g p0 p1 p2 p3) (z 1) g gs) ar lo dO _ _ _ (rel_f hR hB4 hf) hP hD hS (lv_sub hl [2, 3, 4, 5, 6, 7] rfl))
    · exact absurd c_3 (by omega)
