/-! the law: its context, its cases -/
theorem i2c_x (x : Int32) : ∃ n, n < 65536 ∧ (x.toUInt32 % 65536).toInt32 = nI n := ⟨_, Nat.mod_lt _ (by decide), pk_char x⟩
theorem vo_eq {g : GG} {p0 p1 : Int32} (h : fMot p0 p1 = 0) : decide (voR g p0 p1 = 1) = decide (quo g ≤ favN g (tn p0) (tn p1)) := by
  unfold voR aVot
  rw [if_pos h]
  by_cases c : favN g (tn p0) (tn p1) < quo g
  · rw [if_pos c, decide_eq_false (by omega), decide_eq_false (by omega)]
  · rw [if_neg c, decide_eq_true rfl, decide_eq_true (by omega)]
theorem rel_qg {B : Nat} {w : Nat → Nat} {g g2 : GG} {hg : Nat → GG} {nx ct : Nat} {q : Nat → Nat} {F : GG} {n cp : Nat} {t z : Nat → Nat} {gs : Nat → GG} {ar : GG} {c : Nat} {P : Prop} [Decidable P] (h : REL B w g g2 hg nx ct q F n cp t z gs ar) (h3 : B + 420 ≤ 300000) : REL (B + 420) w g g2 hg nx ct q F n cp t (upn z 0 c) (if P then upa gs 2 g else gs) ar :=
  rel_to h (by omega) h3 z_up (by split; exact upa_n (by decide); rfl) (fun i => by split; exact upa_n (by omega); rfl)
theorem rel_run {B : Nat} {w : Nat → Nat} {g g' g2 : GG} {hg : Nat → GG} {nx ct : Nat} {q q' : Nat → Nat} {F F' : GG} {n cp : Nat} {t z z' t9 : Nat → Nat} {gs : Nat → GG} {ar : GG} (h : REL B w g g2 hg nx ct q F n cp t z gs ar) (h3 : B + 420 ≤ 300000) (hI : IB (B + 420) g')
    (e1 : z' 1 = chK (z 1)) (e2 : z' 2 = z 2) (e3 : z' 3 = 0) (e4 : z' 4 = z 4) (e5 : z' 5 = z 5) (e6 : z' 6 = z 6) (hq : q' 0 = 0) (hF : F' 0 = F 0) :
    REL (B + 420) w g' g2 (upa hg nx g) ((nx + 1) % 8) (if 8 < ct + 1 then 8 else ct + 1) q' F' n cp t z' (chS (z 1) (upa gs 0 g)) (upr ar 1 t9) := by
  obtain ⟨h1, h2, h4, h5, h6, h7⟩ := h
  have hg1 : chS (z 1) (upa gs 0 g) 1 = gs 1 := by
    unfold chS
    rw [upa_n (by omega), if_neg (by omega), upa_n (by decide)]
  refine ⟨hI, rs_to h2 (by omega) h3 e2 hg1, rh_m h4 h1 h3 e1, ?_, ⟨hq.trans e3.symm, by omega, ?_, ?_⟩, ?_⟩
  · unfold RW9 at h5 ⊢; rw [e5, e6]; exact h5
  · rw [hF, upr_n (by decide)]; exact h6.2.2.1
  · rw [hF]; exact h6.2.2.2
  · unfold RN9 at h7 ⊢; rw [e4, upr_n (by decide)]; exact h7
theorem rel_runf {B : Nat} {w w' : Nat → Nat} {g g2 : GG} {hg : Nat → GG} {nx ct : Nat} {q q' : Nat → Nat} {F F' : GG} {n cp : Nat} {t z z' t9 : Nat → Nat} {gs : Nat → GG} {ar : GG} (h : REL B w g g2 hg nx ct q F n cp t z gs ar) (h3 : B + 420 ≤ 300000)
    (e1 : z' 1 = z 1) (e2 : z' 2 = z 2) (e3 : z' 3 = 0) (e4 : z' 4 = z 4) (w0 : w' 0 = w 0) (w1 : w' 1 = z' 5) (w2 : w' 2 = z' 6) (b5 : z' 5 ≤ 1000) (b6 : z' 6 ≤ 1000) (hq : q' 0 = 0) (hF : F' 0 = F 0) :
    REL (B + 420) w' g g2 hg nx ct q' F' n cp t z' (upa gs 0 g) (upr ar 1 t9) := by
  obtain ⟨h1, h2, h4, h5, h6, h7⟩ := h
  have h2' := rs_to (z' := z') (gs' := upa gs 0 g) (B' := B + 420) h2 (by omega) h3 e2 (upa_n (by decide))
  refine ⟨h1.le (by omega) h3, ?_, rh_to h4 (by omega) h3 e1 (fun i => upa_n (by omega)), ⟨w1, w2, b5, b6⟩, ⟨hq.trans e3.symm, by omega, ?_, ?_⟩, ?_⟩
  · unfold RS9 at h2' ⊢; rw [w0]; exact h2'
  · rw [hF, upr_n (by decide)]; exact h6.2.2.1
  · rw [hF]; exact h6.2.2.2
  · unfold RN9 at h7 ⊢; rw [e4, upr_n (by decide)]; exact h7
theorem run_IB {B e : Nat} {g : GG} {tx t : Nat → Nat} (he : e ≤ 60) (h : IB B g) (hB : B + 420 ≤ 300000) (hv : (prgR tx e 20 0 0 t).2.2.1 = 0) (hN : exN g (prgR tx e 20 0 0 t).2.2.2 (prgR tx e 20 0 0 t).1 = (prgR tx e 20 0 0 t).1) : IB (B + 420) (exG g (prgR tx e 20 0 0 t).2.2.2 (prgR tx e 20 0 0 t).1) := by
  obtain ⟨-, r2, r3⟩ := frm_whole (tx := tx) (e := e) he (A := fun _ => 0) (K := fun _ => 0) (t := t)
  have h7 := r3 (r2.mpr hv)
  have h8 : (prgR tx e 20 0 0 t).1 ≤ 7 := by rw [← h7.1]; exact h7.2.1
  exact (exG_IB h _ (exN_all hN) (by omega)).le (by omega) hB
def LCx (p : Program) (l : Launch) (s : State) (m : MethodId) (args : Array Value) (c : Code) (E : EE) (A : Nat → Prop) (sb L : Nat) (xs : Nat → Int32) : Prop :=
  p.tables.exec = Jvm.exec ∧ c.code = cL_law ∧ c.maxLocals = 9 ∧ s.vm.findClass RL = some m.cls ∧ (∀ w ∈ TG, w.before args s = true) ∧ va_K E.1 vwCl (tyl E.2.1) s ∧ ZZ E A s s.heap ∧ DD s ∧ (∀ q, s.heap.size ≤ q → A q) ∧ va_X sb L xs s s.heap ∧ sb < s.heap.size ∧ ¬ A sb ∧ l.stackTraces = false
def LGo (p : Program) (l : Launch) (e : Env) (s : State) (m : MethodId) (args : Array Value) (below : List Frame) (meth : Method) (c : Code) (E : EE) (A : Nat → Prop) (Q : State → Prop) (x a a2 a3 b d k pa y : Nat → Nat) (hs : Nat → Nat → Nat) (mb : Nat → Nat) (ol od sb : Nat) (i B cells slots pc : Nat) : Prop :=
  ∀ (w : Nat → Nat) (g : GG) (g2 : GG) (g3 : GG) (hg : Nat → GG) (nx : Nat) (ct : Nat) (co : Nat → Nat) (re : Nat → Nat) (so : Nat → Nat) (gw : Nat → Nat) (q : Nat → Nat) (F : GG) (v : Nat) (ml : Nat) (n : Nat) (cp : Nat) (t : Nat → Nat) (z : Nat → Nat) (gs : Nat → GG) (ar : GG) (lo : Nat → Int64) (dO : Nat → UInt64) (H : Heap) (locs : List Loc) (ls : Array Slot), REL B w g g2 hg nx ct q F n cp t z gs ar → va_P E.1 vwCl ([loC E ol lo, dbC E od dO, coC E x a a2 a3 b d k pa y w, stC E a g, stC E a2 g2, stC E a3 g3, hhC E b hs hg nx ct, diC E d co re, grC E k so gw, prC E pa q F, sbO E y v ml n, baC E v cp t, moC E mb z g gs ar] : List va_W).flatten H → va_D A ([loC E ol lo, dbC E od dO, coC E x a a2 a3 b d k pa y w, stC E a g, stC E a2 g2, stC E a3 g3, hhC E b hs hg nx ct, diC E d co re, grC E k so gw, prC E pa q F, sbO E y v ml n, baC E v cp t, moC E mb z g gs ar] : List va_W).flatten → va_S A s.heap H locs → lv_has ls 9 [(0, .ref sb), (1, .ref (x 0)), (2, .ref (mb 0)), (3, .ref ol), (4, .ref od), (5, .int (nI i))] → W p l e room_1 s m args below meth c H locs cells slots Q (F0 m pc ls [])
set_option maxHeartbeats 4000000 in
set_option maxRecDepth 100000 in
theorem st_addMember {p : Program} {l : Launch} {e : Env} {s : State} {m : MethodId} {args : Array Value} {below : List Frame} {meth : Method} {c : Code} {E : EE} {A : Nat → Prop} {Q : State → Prop} {x a a2 a3 b d k pa y : Nat → Nat} {hs : Nat → Nat → Nat} {mb : Nat → Nat} {ol od sb : Nat} {i B cells slots L : Nat} {xs : Nat → Int32} (C : LCx p l s m args c E A sb L xs) (hL : L ≤ 2560) (hi : i + 5 ≤ L) (hB4 : B + 420 ≤ 300000) (hrc : cells + 13 ≤ 603072 ∧ slots + 414 ≤ 7174250) (kk : LGo p l e s m args below meth c E A Q x a a2 a3 b d k pa y hs mb ol od sb i (B + 420) (cells + 13) (slots + 414) 2541) : LGo p l e s m args below meth c E A Q x a a2 a3 b d k pa y hs mb ol od sb i B cells slots 260 := by
  obtain ⟨hx, hb, hml, hown, hts, hK, hZ, hDD, hA, hX, hbl, hbA, hst⟩ := C
  intro w g g2 g3 hg nx ct co re so gw q F v ml n cp t z gs ar lo dO H locs ls hR hP hD hS hl
  obtain ⟨hI, ⟨hs1, hs2, hs3⟩, ⟨hnx, hct, hz1, hh9⟩, ⟨hw1, hw2, hz5, hz6⟩, ⟨hq1, hq2, hF0, hF9⟩, ⟨hn1, hn2, hcp, ht9, htx, ho2⟩⟩ := id hR
  have hmc := hI.mc
  obtain ⟨p0, hp0⟩ : ∃ y9, y9 = xs (i + 1) := ⟨_, rfl⟩
  obtain ⟨p1, hp1⟩ : ∃ y9, y9 = xs (i + 2) := ⟨_, rfl⟩
  obtain ⟨p2, hp2⟩ : ∃ y9, y9 = xs (i + 3) := ⟨_, rfl⟩
  obtain ⟨p3, hp3⟩ : ∃ y9, y9 = xs (i + 4) := ⟨_, rfl⟩
  refine lv_aload_n hx hb dL_law_260 rfl (lv_at hl 1 rfl) ?_
  refine lv_aload_n hx hb dL_law_261 rfl (lv_at hl 0 rfl) ?_
  refine lv_iload hx hb dL_law_262 (lv_at hl 5 rfl) ?_
  refine lv_iconst (v := nI 1) hx hb dL_law_264 (by decide) ?_
  refine nv_iadd hx hb dL_law_265 ?_
  refine va_sld hx hb hX hbl hbA hS (vp_in_nI (show i + 1 < L by omega) (by omega)) dL_law_266 ?_
  refine tp_i (show xs (nI (i + 1)).toNatClampNeg = p0 from by rw [nI_clamp (by omega), hp0]) ?_
  refine lv_aload_n hx hb dL_law_267 rfl (lv_at hl 0 rfl) ?_
  refine lv_iload hx hb dL_law_268 (lv_at hl 5 rfl) ?_
  refine lv_iconst (v := nI 2) hx hb dL_law_270 (by decide) ?_
  refine nv_iadd hx hb dL_law_271 ?_
  refine va_sld hx hb hX hbl hbA hS (vp_in_nI (show i + 2 < L by omega) (by omega)) dL_law_272 ?_
  refine tp_i (show xs (nI (i + 2)).toNatClampNeg = p1 from by rw [nI_clamp (by omega), hp1]) ?_
  refine lv_aload_n hx hb dL_law_273 rfl (lv_at hl 0 rfl) ?_
  refine lv_iload hx hb dL_law_274 (lv_at hl 5 rfl) ?_
  refine lv_iconst (v := nI 3) hx hb dL_law_276 (by decide) ?_
  refine nv_iadd hx hb dL_law_277 ?_
  refine va_sld hx hb hX hbl hbA hS (vp_in_nI (show i + 3 < L by omega) (by omega)) dL_law_278 ?_
  refine tp_i (show xs (nI (i + 3)).toNatClampNeg = p2 from by rw [nI_clamp (by omega), hp2]) ?_
  refine lv_aload_n hx hb dL_law_279 rfl (lv_at hl 0 rfl) ?_
  refine lv_iload hx hb dL_law_280 (lv_at hl 5 rfl) ?_
  refine lv_iconst (v := nI 4) hx hb dL_law_282 (by decide) ?_
  refine nv_iadd hx hb dL_law_283 ?_
  refine va_sld hx hb hX hbl hbA hS (vp_in_nI (show i + 4 < L by omega) (by omega)) dL_law_284 ?_
  refine tp_i (show xs (nI (i + 4)).toNatClampNeg = p3 from by rw [nI_clamp (by omega), hp3]) ?_
  refine lv_aload_n hx hb dL_law_285 rfl (lv_at hl 3 rfl) ?_
  refine run_i (S := (Unit × Int32 × (Nat → Int64)) ⊕ Unit) (run_SW (As := [.ref (x 0), .int p0, .int p1, .int p2, .int p3, .ref ol]) (rest := []) (bs := [loC E ol lo, dbC E od dO, coC E x a a2 a3 b d k pa y w, stC E a g, stC E a2 g2, stC E a3 g3, hhC E b hs hg nx ct, diC E d co re, grC E k so gw, prC E pa q F, sbO E y v ml n, baC E v cp t, moC E mb z g gs ar]) (cb := [loC E ol lo, coC E x a a2 a3 b d k pa y w, hhC E b hs hg nx ct, stC E a g]) hx hb hml hown hts hK hZ hDD hA (c_L_addMember l hst E _ x a a2 a3 b d k pa y w g B hI hs hg nx ct hnx hct p0 p1 p2 p3 ol lo) l_L_146 rfl ⟨⟨rfl, rfl⟩, Nat.le_of_ble_eq_true rfl, Nat.le_of_ble_eq_true rfl⟩ [0, 2, 6, 3] rfl (by decide) hP hD hS hl.1 rfl (Nat.le_of_ble_eq_true rfl) dL_law_286 ⟨by show cells + 1 ≤ 603072; omega, by show slots + 6 ≤ 7174250; omega⟩) hA hP hD hS (isC := [0, 2, 6, 3]) rfl [1, 4, 5, 7, 8, 9, 10, 11, 12] [9, 0, 10, 12, 1, 2, 11, 3, 4, 5, 6, 7, 8] (br := [dbC E od dO, stC E a2 g2, stC E a3 g3, diC E d co re, grC E k so gw, prC E pa q F, sbO E y v ml n, baC E v cp t, moC E mb z g gs ar]) (bs2 := fun u => Sum.elim (fun (vq : Unit × Int32 × (Nat → Int64)) => [loC E ol vq.2.2, dbC E od dO, coC E x a a2 a3 b d k pa y w, stC E a (joinG g (tn p0) (tn p1) (tn p2) (tn p3)), stC E a2 g2, stC E a3 g3, hhC E b hs (upa hg nx g) ((nx + 1) % 8) (if 8 < ct + 1 then 8 else ct + 1), diC E d co re, grC E k so gw, prC E pa q F, sbO E y v ml n, baC E v cp t, moC E mb z g gs ar]) (fun (vq : Unit) => [loC E ol lo, dbC E od dO, coC E x a a2 a3 b d k pa y w, stC E a g, stC E a2 g2, stC E a3 g3, hhC E b hs hg nx ct, diC E d co re, grC E k so gw, prC E pa q F, sbO E y v ml n, baC E v cp t, moC E mb z g gs ar]) u) rfl (by decide) (fun u => by rcases u with u | u <;> rfl) (by decide) (fun r u H locs hw hP hD hS => ?_)
  rcases u with vq | vq
  · skip
    obtain ⟨u9, r9, lo9⟩ := vq
    have hw7 : r = nI 0 ∧ (fJoin g p0 p1 p2 p3 = 0 ∧ r9 = nI (g 8 0)) ∧ lo9 0 = r9.toInt64 := hw
    clear hw
    obtain ⟨rfl, hw⟩ := hw7
    have hP : va_P E.1 vwCl ([loC E ol lo9, dbC E od dO, coC E x a a2 a3 b d k pa y w, stC E a (joinG g (tn p0) (tn p1) (tn p2) (tn p3)), stC E a2 g2, stC E a3 g3, hhC E b hs (upa hg nx g) ((nx + 1) % 8) (if 8 < ct + 1 then 8 else ct + 1), diC E d co re, grC E k so gw, prC E pa q F, sbO E y v ml n, baC E v cp t, moC E mb z g gs ar] : List va_W).flatten H := hP
    have hD : va_D A ([loC E ol lo9, dbC E od dO, coC E x a a2 a3 b d k pa y w, stC E a (joinG g (tn p0) (tn p1) (tn p2) (tn p3)), stC E a2 g2, stC E a3 g3, hhC E b hs (upa hg nx g) ((nx + 1) % 8) (if 8 < ct + 1 then 8 else ct + 1), diC E d co re, grC E k so gw, prC E pa q F, sbO E y v ml n, baC E v cp t, moC E mb z g gs ar] : List va_W).flatten := hD
    obtain ⟨⟨hcnd, hr9⟩, hlo⟩ := hw
    subst hr9
    refine lv_istore (lv' := [(6, .int (nI 0)), (0, .ref sb), (1, .ref (x 0)), (2, .ref (mb 0)), (3, .ref ol), (4, .ref od), (5, .int (nI i))]) hx hb dL_law_289 hl (by decide) rfl (fun ls hl => ?_)
    refine lv_aload_n hx hb dL_law_291 rfl (lv_at hl 3 rfl) ?_
    refine lv_aload_n hx hb dL_law_292 rfl (lv_at hl 1 rfl) ?_
    refine lv_iload hx hb dL_law_293 (lv_at hl 6 rfl) ?_
    refine lv_iconst (v := nI 1) hx hb dL_law_295 (by decide) ?_
    refine nv_iadd hx hb dL_law_296 ?_
    refine va_sld hx hb hX hbl hbA hS (vp_in_nI (show i + 1 < L by omega) (by omega)) dL_law_297 ?_
    refine tp_i (show xs (nI (i + 1)).toNatClampNeg = p0 from by rw [nI_clamp (by omega), hp0]) ?_
    refine lv_aload_n hx hb dL_law_298 rfl (lv_at hl 1 rfl) ?_
    refine lv_iload hx hb dL_law_299 (lv_at hl 6 rfl) ?_
    refine lv_iconst (v := nI 2) hx hb dL_law_301 (by decide) ?_
    refine nv_iadd hx hb dL_law_302 ?_
    refine va_sld hx hb hX hbl hbA hS (vp_in_nI (show i + 2 < L by omega) (by omega)) dL_law_303 ?_
    refine tp_i (show xs (nI (i + 2)).toNatClampNeg = p1 from by rw [nI_clamp (by omega), hp1]) ?_
    refine lv_aload_n hx hb dL_law_304 rfl (lv_at hl 1 rfl) ?_
    refine lv_iload hx hb dL_law_305 (lv_at hl 6 rfl) ?_
    refine lv_iconst (v := nI 3) hx hb dL_law_307 (by decide) ?_
    refine nv_iadd hx hb dL_law_308 ?_
    refine va_sld hx hb hX hbl hbA hS (vp_in_nI (show i + 3 < L by omega) (by omega)) dL_law_309 ?_
    refine tp_i (show xs (nI (i + 3)).toNatClampNeg = p2 from by rw [nI_clamp (by omega), hp2]) ?_
    refine lv_aload_n hx hb dL_law_310 rfl (lv_at hl 1 rfl) ?_
    refine lv_iload hx hb dL_law_311 (lv_at hl 6 rfl) ?_
    refine lv_iconst (v := nI 4) hx hb dL_law_313 (by decide) ?_
    refine nv_iadd hx hb dL_law_314 ?_
    refine va_sld hx hb hX hbl hbA hS (vp_in_nI (show i + 4 < L by omega) (by omega)) dL_law_315 ?_
    refine tp_i (show xs (nI (i + 4)).toNatClampNeg = p3 from by rw [nI_clamp (by omega), hp3]) ?_
    refine run_i (S := Unit) (run_V (As := [.int p0, .int p1, .int p2, .int p3]) (rest := []) (bs := [loC E ol lo9, dbC E od dO, coC E x a a2 a3 b d k pa y w, stC E a (joinG g (tn p0) (tn p1) (tn p2) (tn p3)), stC E a2 g2, stC E a3 g3, hhC E b hs (upa hg nx g) ((nx + 1) % 8) (if 8 < ct + 1 then 8 else ct + 1), diC E d co re, grC E k so gw, prC E pa q F, sbO E y v ml n, baC E v cp t, moC E mb z g gs ar]) (cb := [moC E mb z g gs ar]) hx hb hml hown hts hK hZ hA (c_X6_addMember l E _ mb z g gs ar (by omega) B hI p0 p1 p2 p3) l_L_151 rfl ⟨⟨rfl, rfl⟩, Nat.le_of_ble_eq_true rfl, Nat.le_of_ble_eq_true rfl⟩ 10 rfl [12] rfl (by decide) rfl hP hD hS hl.1 rfl (Nat.le_of_ble_eq_true rfl) dL_law_316 ⟨by show (cells + 1) + 0 ≤ 603072; omega, by show (slots + 6) + 0 ≤ 7174250; omega⟩) hA hP hD hS (isC := [12]) rfl [0, 1, 2, 3, 4, 5, 6, 7, 8, 9, 10, 11] [0, 1, 2, 3, 4, 5, 6, 7, 8, 9, 10, 11, 12] (br := [loC E ol lo9, dbC E od dO, coC E x a a2 a3 b d k pa y w, stC E a (joinG g (tn p0) (tn p1) (tn p2) (tn p3)), stC E a2 g2, stC E a3 g3, hhC E b hs (upa hg nx g) ((nx + 1) % 8) (if 8 < ct + 1 then 8 else ct + 1), diC E d co re, grC E k so gw, prC E pa q F, sbO E y v ml n, baC E v cp t]) (bs2 := fun _ => [loC E ol lo9, dbC E od dO, coC E x a a2 a3 b d k pa y w, stC E a (joinG g (tn p0) (tn p1) (tn p2) (tn p3)), stC E a2 g2, stC E a3 g3, hhC E b hs (upa hg nx g) ((nx + 1) % 8) (if 8 < ct + 1 then 8 else ct + 1), diC E d co re, grC E k so gw, prC E pa q F, sbO E y v ml n, baC E v cp t, moC E mb (mchZ (fJoin g p0 p1 p2 p3) 1 (g 8 0) z) (if fJoin g p0 p1 p2 p3 = 0 then joinG g (tn p0) (tn p1) (tn p2) (tn p3) else g) (mchS (fJoin g p0 p1 p2 p3) (z 1) g gs) ar]) rfl (by decide) (fun _ => rfl) (by decide) (fun r u6 H locs hw6 hP hD hS => ?_)
    have hw6 : r = nI (if fJoin g p0 p1 p2 p3 = 0 then g 8 0 else 0) := hw6
    subst hw6
    rw [if_pos hcnd] at hP hD
    have hP : va_P E.1 vwCl ([loC E ol lo9, dbC E od dO, coC E x a a2 a3 b d k pa y w, stC E a (joinG g (tn p0) (tn p1) (tn p2) (tn p3)), stC E a2 g2, stC E a3 g3, hhC E b hs (upa hg nx g) ((nx + 1) % 8) (if 8 < ct + 1 then 8 else ct + 1), diC E d co re, grC E k so gw, prC E pa q F, sbO E y v ml n, baC E v cp t, moC E mb (mchZ (fJoin g p0 p1 p2 p3) 1 (g 8 0) z) (joinG g (tn p0) (tn p1) (tn p2) (tn p3)) (mchS (fJoin g p0 p1 p2 p3) (z 1) g gs) ar] : List va_W).flatten H := hP
    have hD : va_D A ([loC E ol lo9, dbC E od dO, coC E x a a2 a3 b d k pa y w, stC E a (joinG g (tn p0) (tn p1) (tn p2) (tn p3)), stC E a2 g2, stC E a3 g3, hhC E b hs (upa hg nx g) ((nx + 1) % 8) (if 8 < ct + 1 then 8 else ct + 1), diC E d co re, grC E k so gw, prC E pa q F, sbO E y v ml n, baC E v cp t, moC E mb (mchZ (fJoin g p0 p1 p2 p3) 1 (g 8 0) z) (joinG g (tn p0) (tn p1) (tn p2) (tn p3)) (mchS (fJoin g p0 p1 p2 p3) (z 1) g gs) ar] : List va_W).flatten := hD
    refine tp_i (show nI (if fJoin g p0 p1 p2 p3 = 0 then g 8 0 else 0) = nI (g 8 0) from congrArg nI (if_pos hcnd)) ?_
    refine lv_istore (lv' := [(7, .int (nI (g 8 0))), (6, .int (nI 0)), (0, .ref sb), (1, .ref (x 0)), (2, .ref (mb 0)), (3, .ref ol), (4, .ref od), (5, .int (nI i))]) hx hb dL_law_319 hl (by decide) rfl (fun ls hl => ?_)
    refine lv_aload_n hx hb dL_law_321 rfl (lv_at hl 4 rfl) ?_
    refine run_i (S := Unit) (run_V (As := []) (rest := []) (bs := [loC E ol lo9, dbC E od dO, coC E x a a2 a3 b d k pa y w, stC E a (joinG g (tn p0) (tn p1) (tn p2) (tn p3)), stC E a2 g2, stC E a3 g3, hhC E b hs (upa hg nx g) ((nx + 1) % 8) (if 8 < ct + 1 then 8 else ct + 1), diC E d co re, grC E k so gw, prC E pa q F, sbO E y v ml n, baC E v cp t, moC E mb (mchZ (fJoin g p0 p1 p2 p3) 1 (g 8 0) z) (joinG g (tn p0) (tn p1) (tn p2) (tn p3)) (mchS (fJoin g p0 p1 p2 p3) (z 1) g gs) ar]) (cb := [moC E mb (mchZ (fJoin g p0 p1 p2 p3) 1 (g 8 0) z) (joinG g (tn p0) (tn p1) (tn p2) (tn p3)) (mchS (fJoin g p0 p1 p2 p3) (z 1) g gs) ar]) hx hb hml hown hts hK hZ hA (c_X6_thrown l E _ mb (mchZ (fJoin g p0 p1 p2 p3) 1 (g 8 0) z) (joinG g (tn p0) (tn p1) (tn p2) (tn p3)) (mchS (fJoin g p0 p1 p2 p3) (z 1) g gs) ar) l_L_152 rfl ⟨⟨rfl, rfl⟩, Nat.le_of_ble_eq_true rfl, Nat.le_of_ble_eq_true rfl⟩ 10 rfl [12] rfl (by decide) rfl hP hD hS hl.1 rfl (Nat.le_of_ble_eq_true rfl) dL_law_322 ⟨by show ((cells + 1) + 0) + 0 ≤ 603072; omega, by show ((slots + 6) + 0) + 0 ≤ 7174250; omega⟩) hA hP hD hS (isC := [12]) rfl [0, 1, 2, 3, 4, 5, 6, 7, 8, 9, 10, 11] [0, 1, 2, 3, 4, 5, 6, 7, 8, 9, 10, 11, 12] (br := [loC E ol lo9, dbC E od dO, coC E x a a2 a3 b d k pa y w, stC E a (joinG g (tn p0) (tn p1) (tn p2) (tn p3)), stC E a2 g2, stC E a3 g3, hhC E b hs (upa hg nx g) ((nx + 1) % 8) (if 8 < ct + 1 then 8 else ct + 1), diC E d co re, grC E k so gw, prC E pa q F, sbO E y v ml n, baC E v cp t]) (bs2 := fun _ => [loC E ol lo9, dbC E od dO, coC E x a a2 a3 b d k pa y w, stC E a (joinG g (tn p0) (tn p1) (tn p2) (tn p3)), stC E a2 g2, stC E a3 g3, hhC E b hs (upa hg nx g) ((nx + 1) % 8) (if 8 < ct + 1 then 8 else ct + 1), diC E d co re, grC E k so gw, prC E pa q F, sbO E y v ml n, baC E v cp t, moC E mb (mchZ (fJoin g p0 p1 p2 p3) 1 (g 8 0) z) (joinG g (tn p0) (tn p1) (tn p2) (tn p3)) (mchS (fJoin g p0 p1 p2 p3) (z 1) g gs) ar]) rfl (by decide) (fun _ => rfl) (by decide) (fun r u6 H locs hw6 hP hD hS => ?_)
    have hw6 : r = nI ((mchZ (fJoin g p0 p1 p2 p3) 1 (g 8 0) z) 0) := hw6
    subst hw6
    refine lv_iload hx hb dL_law_325 (lv_at hl 1 rfl) ?_
    refine lv_icmp_eq (tgt := 332) hx hb dL_law_327 (by decide) (fun _ => ?_) (fun hc => absurd (show nI ((mchZ (fJoin g p0 p1 p2 p3) 1 (g 8 0) z) 0) = nI 0 from congrArg nI (mchZ_0 hcnd)) hc)
    refine lv_iload hx hb dL_law_332 (lv_at hl 1 rfl) ?_
    refine nv_if_ne (X := ((0 : Nat) : Int)) hx hb (nI_toInt (by omega)) (tgt := 349) dL_law_334 (by decide) (fun c_1 => ?_) (fun c_1 => ?_)
    · exact absurd c_1 (by omega)
    · skip
      refine lv_aload_n hx hb dL_law_337 rfl (lv_at hl 5 rfl) ?_
      refine lv_iconst (v := nI 0) hx hb dL_law_338 (by decide) ?_
      refine va_lald hx hb hK hP 0 4 rfl rfl (vp_in_nI (show 0 < 1 by decide) (by decide)) dL_law_339 ?_
      rw [show lo9 (nI 0).toNatClampNeg = (nI (g 8 0)).toInt64 from by rw [nI_clamp (show 0 < 2 ^ 31 by decide)]; exact hlo]
      refine lv_iload hx hb dL_law_340 (lv_at hl 0 rfl) ?_
      refine lv_i2l hx hb dL_law_342 rfl ?_
      refine W.lcmp hx hb dL_law_343 ?_
      refine tp_i (show lg_cmp ((nI (g 8 0)).toInt64) ((nI (g 8 0)).toInt64) = nI 0 from lg_eq _) ?_
      refine nv_if_eq (X := ((0 : Nat) : Int)) hx hb (nI_toInt (by omega)) (tgt := 349) dL_law_344 (by decide) (fun c_2 => ?_) (fun c_2 => ?_)
      · skip
        refine lv_goto (tgt := 2541) hx hb dL_law_349 (by decide) ?_
        exact W_widen (by omega) (by omega) (kk w (joinG g (tn p0) (tn p1) (tn p2) (tn p3)) g2 g3 (upa hg nx g) ((nx + 1) % 8) (if 8 < ct + 1 then 8 else ct + 1) co re so gw q F v ml n cp t (mchZ (fJoin g p0 p1 p2 p3) 1 (g 8 0) z) (mchS (fJoin g p0 p1 p2 p3) (z 1) g gs) ar lo9 dO _ _ _ (rel_m hR hB4 hcnd (by have h9 := fJoin_0 hcnd; have e0 := tn_t (x := p0) (by omega); have e1 := tn_t (x := p1) (by omega); have e2 := tn_t (x := p2) (by omega); have e3 := tn_t (x := p3) (by omega); exact (IB_join hI (by omega) (by omega) (by omega) (by omega) (by omega)).le (by omega) hB4)) hP hD hS (lv_sub hl [2, 3, 4, 5, 6, 7] rfl))
      · exact absurd c_2 (by omega)
  · skip
    have hw : fJoin g p0 p1 p2 p3 ≠ 0 ∧ r = nI (fJoin g p0 p1 p2 p3 - 1) := hw
    have hP : va_P E.1 vwCl ([loC E ol lo, dbC E od dO, coC E x a a2 a3 b d k pa y w, stC E a g, stC E a2 g2, stC E a3 g3, hhC E b hs hg nx ct, diC E d co re, grC E k so gw, prC E pa q F, sbO E y v ml n, baC E v cp t, moC E mb z g gs ar] : List va_W).flatten H := hP
    have hD : va_D A ([loC E ol lo, dbC E od dO, coC E x a a2 a3 b d k pa y w, stC E a g, stC E a2 g2, stC E a3 g3, hhC E b hs hg nx ct, diC E d co re, grC E k so gw, prC E pa q F, sbO E y v ml n, baC E v cp t, moC E mb z g gs ar] : List va_W).flatten := hD
    obtain ⟨hf, rfl⟩ := hw
    have hf4 : fJoin g p0 p1 p2 p3 ≤ 4 ∧ fJoin g p0 p1 p2 p3 - 1 ≠ 0 := by rcases (fJ_v : fJoin g p0 p1 p2 p3 = 0 ∨ fJoin g p0 p1 p2 p3 = 2 ∨ fJoin g p0 p1 p2 p3 = 3) with h | h | h <;> omega
    refine lv_istore (lv' := [(6, .int (nI (fJoin g p0 p1 p2 p3 - 1))), (0, .ref sb), (1, .ref (x 0)), (2, .ref (mb 0)), (3, .ref ol), (4, .ref od), (5, .int (nI i))]) hx hb dL_law_289 hl (by decide) rfl (fun ls hl => ?_)
    refine lv_aload_n hx hb dL_law_291 rfl (lv_at hl 3 rfl) ?_
    refine lv_aload_n hx hb dL_law_292 rfl (lv_at hl 1 rfl) ?_
    refine lv_iload hx hb dL_law_293 (lv_at hl 6 rfl) ?_
    refine lv_iconst (v := nI 1) hx hb dL_law_295 (by decide) ?_
    refine nv_iadd hx hb dL_law_296 ?_
    refine va_sld hx hb hX hbl hbA hS (vp_in_nI (show i + 1 < L by omega) (by omega)) dL_law_297 ?_
    refine tp_i (show xs (nI (i + 1)).toNatClampNeg = p0 from by rw [nI_clamp (by omega), hp0]) ?_
    refine lv_aload_n hx hb dL_law_298 rfl (lv_at hl 1 rfl) ?_
    refine lv_iload hx hb dL_law_299 (lv_at hl 6 rfl) ?_
    refine lv_iconst (v := nI 2) hx hb dL_law_301 (by decide) ?_
    refine nv_iadd hx hb dL_law_302 ?_
    refine va_sld hx hb hX hbl hbA hS (vp_in_nI (show i + 2 < L by omega) (by omega)) dL_law_303 ?_
    refine tp_i (show xs (nI (i + 2)).toNatClampNeg = p1 from by rw [nI_clamp (by omega), hp1]) ?_
    refine lv_aload_n hx hb dL_law_304 rfl (lv_at hl 1 rfl) ?_
    refine lv_iload hx hb dL_law_305 (lv_at hl 6 rfl) ?_
    refine lv_iconst (v := nI 3) hx hb dL_law_307 (by decide) ?_
    refine nv_iadd hx hb dL_law_308 ?_
    refine va_sld hx hb hX hbl hbA hS (vp_in_nI (show i + 3 < L by omega) (by omega)) dL_law_309 ?_
    refine tp_i (show xs (nI (i + 3)).toNatClampNeg = p2 from by rw [nI_clamp (by omega), hp2]) ?_
    refine lv_aload_n hx hb dL_law_310 rfl (lv_at hl 1 rfl) ?_
    refine lv_iload hx hb dL_law_311 (lv_at hl 6 rfl) ?_
    refine lv_iconst (v := nI 4) hx hb dL_law_313 (by decide) ?_
    refine nv_iadd hx hb dL_law_314 ?_
    refine va_sld hx hb hX hbl hbA hS (vp_in_nI (show i + 4 < L by omega) (by omega)) dL_law_315 ?_
    refine tp_i (show xs (nI (i + 4)).toNatClampNeg = p3 from by rw [nI_clamp (by omega), hp3]) ?_
    refine run_i (S := Unit) (run_V (As := [.int p0, .int p1, .int p2, .int p3]) (rest := []) (bs := [loC E ol lo, dbC E od dO, coC E x a a2 a3 b d k pa y w, stC E a g, stC E a2 g2, stC E a3 g3, hhC E b hs hg nx ct, diC E d co re, grC E k so gw, prC E pa q F, sbO E y v ml n, baC E v cp t, moC E mb z g gs ar]) (cb := [moC E mb z g gs ar]) hx hb hml hown hts hK hZ hA (c_X6_addMember l E _ mb z g gs ar (by omega) B hI p0 p1 p2 p3) l_L_151 rfl ⟨⟨rfl, rfl⟩, Nat.le_of_ble_eq_true rfl, Nat.le_of_ble_eq_true rfl⟩ 10 rfl [12] rfl (by decide) rfl hP hD hS hl.1 rfl (Nat.le_of_ble_eq_true rfl) dL_law_316 ⟨by show (cells + 1) + 0 ≤ 603072; omega, by show (slots + 6) + 0 ≤ 7174250; omega⟩) hA hP hD hS (isC := [12]) rfl [0, 1, 2, 3, 4, 5, 6, 7, 8, 9, 10, 11] [0, 1, 2, 3, 4, 5, 6, 7, 8, 9, 10, 11, 12] (br := [loC E ol lo, dbC E od dO, coC E x a a2 a3 b d k pa y w, stC E a g, stC E a2 g2, stC E a3 g3, hhC E b hs hg nx ct, diC E d co re, grC E k so gw, prC E pa q F, sbO E y v ml n, baC E v cp t]) (bs2 := fun _ => [loC E ol lo, dbC E od dO, coC E x a a2 a3 b d k pa y w, stC E a g, stC E a2 g2, stC E a3 g3, hhC E b hs hg nx ct, diC E d co re, grC E k so gw, prC E pa q F, sbO E y v ml n, baC E v cp t, moC E mb (mchZ (fJoin g p0 p1 p2 p3) 1 (g 8 0) z) (if fJoin g p0 p1 p2 p3 = 0 then joinG g (tn p0) (tn p1) (tn p2) (tn p3) else g) (mchS (fJoin g p0 p1 p2 p3) (z 1) g gs) ar]) rfl (by decide) (fun _ => rfl) (by decide) (fun r u6 H locs hw6 hP hD hS => ?_)
    have hw6 : r = nI (if fJoin g p0 p1 p2 p3 = 0 then g 8 0 else 0) := hw6
    subst hw6
    rw [if_neg hf] at hP hD
    have hP : va_P E.1 vwCl ([loC E ol lo, dbC E od dO, coC E x a a2 a3 b d k pa y w, stC E a g, stC E a2 g2, stC E a3 g3, hhC E b hs hg nx ct, diC E d co re, grC E k so gw, prC E pa q F, sbO E y v ml n, baC E v cp t, moC E mb (mchZ (fJoin g p0 p1 p2 p3) 1 (g 8 0) z) g (mchS (fJoin g p0 p1 p2 p3) (z 1) g gs) ar] : List va_W).flatten H := hP
    have hD : va_D A ([loC E ol lo, dbC E od dO, coC E x a a2 a3 b d k pa y w, stC E a g, stC E a2 g2, stC E a3 g3, hhC E b hs hg nx ct, diC E d co re, grC E k so gw, prC E pa q F, sbO E y v ml n, baC E v cp t, moC E mb (mchZ (fJoin g p0 p1 p2 p3) 1 (g 8 0) z) g (mchS (fJoin g p0 p1 p2 p3) (z 1) g gs) ar] : List va_W).flatten := hD
    refine lv_istore (lv' := [(7, .int (nI (if fJoin g p0 p1 p2 p3 = 0 then g 8 0 else 0))), (6, .int (nI (fJoin g p0 p1 p2 p3 - 1))), (0, .ref sb), (1, .ref (x 0)), (2, .ref (mb 0)), (3, .ref ol), (4, .ref od), (5, .int (nI i))]) hx hb dL_law_319 hl (by decide) rfl (fun ls hl => ?_)
    refine lv_aload_n hx hb dL_law_321 rfl (lv_at hl 4 rfl) ?_
    refine run_i (S := Unit) (run_V (As := []) (rest := []) (bs := [loC E ol lo, dbC E od dO, coC E x a a2 a3 b d k pa y w, stC E a g, stC E a2 g2, stC E a3 g3, hhC E b hs hg nx ct, diC E d co re, grC E k so gw, prC E pa q F, sbO E y v ml n, baC E v cp t, moC E mb (mchZ (fJoin g p0 p1 p2 p3) 1 (g 8 0) z) g (mchS (fJoin g p0 p1 p2 p3) (z 1) g gs) ar]) (cb := [moC E mb (mchZ (fJoin g p0 p1 p2 p3) 1 (g 8 0) z) g (mchS (fJoin g p0 p1 p2 p3) (z 1) g gs) ar]) hx hb hml hown hts hK hZ hA (c_X6_thrown l E _ mb (mchZ (fJoin g p0 p1 p2 p3) 1 (g 8 0) z) g (mchS (fJoin g p0 p1 p2 p3) (z 1) g gs) ar) l_L_152 rfl ⟨⟨rfl, rfl⟩, Nat.le_of_ble_eq_true rfl, Nat.le_of_ble_eq_true rfl⟩ 10 rfl [12] rfl (by decide) rfl hP hD hS hl.1 rfl (Nat.le_of_ble_eq_true rfl) dL_law_322 ⟨by show ((cells + 1) + 0) + 0 ≤ 603072; omega, by show ((slots + 6) + 0) + 0 ≤ 7174250; omega⟩) hA hP hD hS (isC := [12]) rfl [0, 1, 2, 3, 4, 5, 6, 7, 8, 9, 10, 11] [0, 1, 2, 3, 4, 5, 6, 7, 8, 9, 10, 11, 12] (br := [loC E ol lo, dbC E od dO, coC E x a a2 a3 b d k pa y w, stC E a g, stC E a2 g2, stC E a3 g3, hhC E b hs hg nx ct, diC E d co re, grC E k so gw, prC E pa q F, sbO E y v ml n, baC E v cp t]) (bs2 := fun _ => [loC E ol lo, dbC E od dO, coC E x a a2 a3 b d k pa y w, stC E a g, stC E a2 g2, stC E a3 g3, hhC E b hs hg nx ct, diC E d co re, grC E k so gw, prC E pa q F, sbO E y v ml n, baC E v cp t, moC E mb (mchZ (fJoin g p0 p1 p2 p3) 1 (g 8 0) z) g (mchS (fJoin g p0 p1 p2 p3) (z 1) g gs) ar]) rfl (by decide) (fun _ => rfl) (by decide) (fun r u6 H locs hw6 hP hD hS => ?_)
    have hw6 : r = nI ((mchZ (fJoin g p0 p1 p2 p3) 1 (g 8 0) z) 0) := hw6
    subst hw6
    refine lv_iload hx hb dL_law_325 (lv_at hl 1 rfl) ?_
    refine lv_icmp_eq (tgt := 332) hx hb dL_law_327 (by decide) (fun _ => ?_) (fun hc => absurd (show nI ((mchZ (fJoin g p0 p1 p2 p3) 1 (g 8 0) z) 0) = nI (fJoin g p0 p1 p2 p3 - 1) from congrArg nI (mchZ_1 hf)) hc)
    refine lv_iload hx hb dL_law_332 (lv_at hl 1 rfl) ?_
    refine nv_if_ne (X := ((fJoin g p0 p1 p2 p3 - 1 : Nat) : Int)) hx hb (nI_toInt (by omega)) (tgt := 349) dL_law_334 (by decide) (fun c_3 => ?_) (fun c_3 => ?_)
    · skip
      refine lv_goto (tgt := 2541) hx hb dL_law_349 (by decide) ?_
      exact W_widen (by omega) (by omega) (kk w g g2 g3 hg nx ct co re so gw q F v ml n cp t (mchZ (fJoin g p0 p1 p2 p3) 1 (g 8 0) z) (mchS (fJoin g p0 p1 p2 p3) (z 1) g gs) ar lo dO _ _ _ (rel_f hR hB4 hf) hP hD hS (lv_sub hl [2, 3, 4, 5, 6, 7] rfl))
    · exact absurd c_3 (by omega)
set_option maxHeartbeats 4000000 in
set_option maxRecDepth 100000 in
theorem st_wind {p : Program} {l : Launch} {e : Env} {s : State} {m : MethodId} {args : Array Value} {below : List Frame} {meth : Method} {c : Code} {E : EE} {A : Nat → Prop} {Q : State → Prop} {x a a2 a3 b d k pa y : Nat → Nat} {hs : Nat → Nat → Nat} {mb : Nat → Nat} {ol od sb : Nat} {i B cells slots L : Nat} {xs : Nat → Int32} (C : LCx p l s m args c E A sb L xs) (hL : L ≤ 2560) (hi : i + 5 ≤ L) (hB4 : B + 420 ≤ 300000) (hrc : cells + 13 ≤ 603072 ∧ slots + 414 ≤ 7174250) (kk : LGo p l e s m args below meth c E A Q x a a2 a3 b d k pa y hs mb ol od sb i (B + 420) (cells + 13) (slots + 414) 2541) : LGo p l e s m args below meth c E A Q x a a2 a3 b d k pa y hs mb ol od sb i B cells slots 352 := by
  obtain ⟨hx, hb, hml, hown, hts, hK, hZ, hDD, hA, hX, hbl, hbA, hst⟩ := C
  intro w g g2 g3 hg nx ct co re so gw q F v ml n cp t z gs ar lo dO H locs ls hR hP hD hS hl
  obtain ⟨hI, ⟨hs1, hs2, hs3⟩, ⟨hnx, hct, hz1, hh9⟩, ⟨hw1, hw2, hz5, hz6⟩, ⟨hq1, hq2, hF0, hF9⟩, ⟨hn1, hn2, hcp, ht9, htx, ho2⟩⟩ := id hR
  have hmc := hI.mc
  obtain ⟨p0, hp0⟩ : ∃ y9, y9 = xs (i + 1) := ⟨_, rfl⟩
  obtain ⟨p1, hp1⟩ : ∃ y9, y9 = xs (i + 2) := ⟨_, rfl⟩
  refine lv_aload_n hx hb dL_law_352 rfl (lv_at hl 1 rfl) ?_
  refine lv_aload_n hx hb dL_law_353 rfl (lv_at hl 0 rfl) ?_
  refine lv_iload hx hb dL_law_354 (lv_at hl 5 rfl) ?_
  refine lv_iconst (v := nI 1) hx hb dL_law_356 (by decide) ?_
  refine nv_iadd hx hb dL_law_357 ?_
  refine va_sld hx hb hX hbl hbA hS (vp_in_nI (show i + 1 < L by omega) (by omega)) dL_law_358 ?_
  refine tp_i (show xs (nI (i + 1)).toNatClampNeg = p0 from by rw [nI_clamp (by omega), hp0]) ?_
  refine lv_aload_n hx hb dL_law_359 rfl (lv_at hl 0 rfl) ?_
  refine lv_iload hx hb dL_law_360 (lv_at hl 5 rfl) ?_
  refine lv_iconst (v := nI 2) hx hb dL_law_362 (by decide) ?_
  refine nv_iadd hx hb dL_law_363 ?_
  refine va_sld hx hb hX hbl hbA hS (vp_in_nI (show i + 2 < L by omega) (by omega)) dL_law_364 ?_
  refine tp_i (show xs (nI (i + 2)).toNatClampNeg = p1 from by rw [nI_clamp (by omega), hp1]) ?_
  refine lv_aload_n hx hb dL_law_365 rfl (lv_at hl 3 rfl) ?_
  refine run_i (S := (Unit × Int32 × (Nat → Int64)) ⊕ Unit) (run_SW (As := [.ref (x 0), .int p0, .int p1, .ref ol]) (rest := []) (bs := [loC E ol lo, dbC E od dO, coC E x a a2 a3 b d k pa y w, stC E a g, stC E a2 g2, stC E a3 g3, hhC E b hs hg nx ct, diC E d co re, grC E k so gw, prC E pa q F, sbO E y v ml n, baC E v cp t, moC E mb z g gs ar]) (cb := [loC E ol lo, coC E x a a2 a3 b d k pa y w, hhC E b hs hg nx ct, stC E a g]) hx hb hml hown hts hK hZ hDD hA (c_L_wind l hst E _ x a a2 a3 b d k pa y w g B hI hs hg nx ct hnx hct p0 p1 ol lo) l_L_155 rfl ⟨⟨rfl, rfl⟩, Nat.le_of_ble_eq_true rfl, Nat.le_of_ble_eq_true rfl⟩ [0, 2, 6, 3] rfl (by decide) hP hD hS hl.1 rfl (Nat.le_of_ble_eq_true rfl) dL_law_366 ⟨by show cells + 1 ≤ 603072; omega, by show slots + 6 ≤ 7174250; omega⟩) hA hP hD hS (isC := [0, 2, 6, 3]) rfl [1, 4, 5, 7, 8, 9, 10, 11, 12] [9, 0, 10, 12, 1, 2, 11, 3, 4, 5, 6, 7, 8] (br := [dbC E od dO, stC E a2 g2, stC E a3 g3, diC E d co re, grC E k so gw, prC E pa q F, sbO E y v ml n, baC E v cp t, moC E mb z g gs ar]) (bs2 := fun u => Sum.elim (fun (vq : Unit × Int32 × (Nat → Int64)) => [loC E ol vq.2.2, dbC E od dO, coC E x a a2 a3 b d k pa y w, stC E a (windG g (tn p0) (tn p1)), stC E a2 g2, stC E a3 g3, hhC E b hs (upa hg nx g) ((nx + 1) % 8) (if 8 < ct + 1 then 8 else ct + 1), diC E d co re, grC E k so gw, prC E pa q F, sbO E y v ml n, baC E v cp t, moC E mb z g gs ar]) (fun (vq : Unit) => [loC E ol lo, dbC E od dO, coC E x a a2 a3 b d k pa y w, stC E a g, stC E a2 g2, stC E a3 g3, hhC E b hs hg nx ct, diC E d co re, grC E k so gw, prC E pa q F, sbO E y v ml n, baC E v cp t, moC E mb z g gs ar]) u) rfl (by decide) (fun u => by rcases u with u | u <;> rfl) (by decide) (fun r u H locs hw hP hD hS => ?_)
  rcases u with vq | vq
  · skip
    obtain ⟨u9, r9, lo9⟩ := vq
    have hw7 : r = nI 0 ∧ (fWind g p0 p1 = 0 ∧ r9 = nI (g 4 (tn p0) + tn p1)) ∧ lo9 0 = r9.toInt64 := hw
    clear hw
    obtain ⟨rfl, hw⟩ := hw7
    have hP : va_P E.1 vwCl ([loC E ol lo9, dbC E od dO, coC E x a a2 a3 b d k pa y w, stC E a (windG g (tn p0) (tn p1)), stC E a2 g2, stC E a3 g3, hhC E b hs (upa hg nx g) ((nx + 1) % 8) (if 8 < ct + 1 then 8 else ct + 1), diC E d co re, grC E k so gw, prC E pa q F, sbO E y v ml n, baC E v cp t, moC E mb z g gs ar] : List va_W).flatten H := hP
    have hD : va_D A ([loC E ol lo9, dbC E od dO, coC E x a a2 a3 b d k pa y w, stC E a (windG g (tn p0) (tn p1)), stC E a2 g2, stC E a3 g3, hhC E b hs (upa hg nx g) ((nx + 1) % 8) (if 8 < ct + 1 then 8 else ct + 1), diC E d co re, grC E k so gw, prC E pa q F, sbO E y v ml n, baC E v cp t, moC E mb z g gs ar] : List va_W).flatten := hD
    obtain ⟨⟨hcnd, hr9⟩, hlo⟩ := hw
    subst hr9
    refine lv_istore (lv' := [(6, .int (nI 0)), (0, .ref sb), (1, .ref (x 0)), (2, .ref (mb 0)), (3, .ref ol), (4, .ref od), (5, .int (nI i))]) hx hb dL_law_369 hl (by decide) rfl (fun ls hl => ?_)
    refine lv_aload_n hx hb dL_law_371 rfl (lv_at hl 3 rfl) ?_
    refine lv_aload_n hx hb dL_law_372 rfl (lv_at hl 1 rfl) ?_
    refine lv_iload hx hb dL_law_373 (lv_at hl 6 rfl) ?_
    refine lv_iconst (v := nI 1) hx hb dL_law_375 (by decide) ?_
    refine nv_iadd hx hb dL_law_376 ?_
    refine va_sld hx hb hX hbl hbA hS (vp_in_nI (show i + 1 < L by omega) (by omega)) dL_law_377 ?_
    refine tp_i (show xs (nI (i + 1)).toNatClampNeg = p0 from by rw [nI_clamp (by omega), hp0]) ?_
    refine lv_aload_n hx hb dL_law_378 rfl (lv_at hl 1 rfl) ?_
    refine lv_iload hx hb dL_law_379 (lv_at hl 6 rfl) ?_
    refine lv_iconst (v := nI 2) hx hb dL_law_381 (by decide) ?_
    refine nv_iadd hx hb dL_law_382 ?_
    refine va_sld hx hb hX hbl hbA hS (vp_in_nI (show i + 2 < L by omega) (by omega)) dL_law_383 ?_
    refine tp_i (show xs (nI (i + 2)).toNatClampNeg = p1 from by rw [nI_clamp (by omega), hp1]) ?_
    refine run_i (S := Unit) (run_V (As := [.int p0, .int p1]) (rest := []) (bs := [loC E ol lo9, dbC E od dO, coC E x a a2 a3 b d k pa y w, stC E a (windG g (tn p0) (tn p1)), stC E a2 g2, stC E a3 g3, hhC E b hs (upa hg nx g) ((nx + 1) % 8) (if 8 < ct + 1 then 8 else ct + 1), diC E d co re, grC E k so gw, prC E pa q F, sbO E y v ml n, baC E v cp t, moC E mb z g gs ar]) (cb := [moC E mb z g gs ar]) hx hb hml hown hts hK hZ hA (c_X6_wind l E _ mb z g gs ar (by omega) B hI p0 p1) l_L_158 rfl ⟨⟨rfl, rfl⟩, Nat.le_of_ble_eq_true rfl, Nat.le_of_ble_eq_true rfl⟩ 10 rfl [12] rfl (by decide) rfl hP hD hS hl.1 rfl (Nat.le_of_ble_eq_true rfl) dL_law_384 ⟨by show (cells + 1) + 0 ≤ 603072; omega, by show (slots + 6) + 0 ≤ 7174250; omega⟩) hA hP hD hS (isC := [12]) rfl [0, 1, 2, 3, 4, 5, 6, 7, 8, 9, 10, 11] [0, 1, 2, 3, 4, 5, 6, 7, 8, 9, 10, 11, 12] (br := [loC E ol lo9, dbC E od dO, coC E x a a2 a3 b d k pa y w, stC E a (windG g (tn p0) (tn p1)), stC E a2 g2, stC E a3 g3, hhC E b hs (upa hg nx g) ((nx + 1) % 8) (if 8 < ct + 1 then 8 else ct + 1), diC E d co re, grC E k so gw, prC E pa q F, sbO E y v ml n, baC E v cp t]) (bs2 := fun _ => [loC E ol lo9, dbC E od dO, coC E x a a2 a3 b d k pa y w, stC E a (windG g (tn p0) (tn p1)), stC E a2 g2, stC E a3 g3, hhC E b hs (upa hg nx g) ((nx + 1) % 8) (if 8 < ct + 1 then 8 else ct + 1), diC E d co re, grC E k so gw, prC E pa q F, sbO E y v ml n, baC E v cp t, moC E mb (mchZ (fWind g p0 p1) 0 (g 4 (tn p0) + tn p1) z) (if fWind g p0 p1 = 0 then windG g (tn p0) (tn p1) else g) (mchS (fWind g p0 p1) (z 1) g gs) ar]) rfl (by decide) (fun _ => rfl) (by decide) (fun r u6 H locs hw6 hP hD hS => ?_)
    have hw6 : r = nI (if fWind g p0 p1 = 0 then g 4 (tn p0) + tn p1 else 0) := hw6
    subst hw6
    rw [if_pos hcnd] at hP hD
    have hP : va_P E.1 vwCl ([loC E ol lo9, dbC E od dO, coC E x a a2 a3 b d k pa y w, stC E a (windG g (tn p0) (tn p1)), stC E a2 g2, stC E a3 g3, hhC E b hs (upa hg nx g) ((nx + 1) % 8) (if 8 < ct + 1 then 8 else ct + 1), diC E d co re, grC E k so gw, prC E pa q F, sbO E y v ml n, baC E v cp t, moC E mb (mchZ (fWind g p0 p1) 0 (g 4 (tn p0) + tn p1) z) (windG g (tn p0) (tn p1)) (mchS (fWind g p0 p1) (z 1) g gs) ar] : List va_W).flatten H := hP
    have hD : va_D A ([loC E ol lo9, dbC E od dO, coC E x a a2 a3 b d k pa y w, stC E a (windG g (tn p0) (tn p1)), stC E a2 g2, stC E a3 g3, hhC E b hs (upa hg nx g) ((nx + 1) % 8) (if 8 < ct + 1 then 8 else ct + 1), diC E d co re, grC E k so gw, prC E pa q F, sbO E y v ml n, baC E v cp t, moC E mb (mchZ (fWind g p0 p1) 0 (g 4 (tn p0) + tn p1) z) (windG g (tn p0) (tn p1)) (mchS (fWind g p0 p1) (z 1) g gs) ar] : List va_W).flatten := hD
    refine tp_i (show nI (if fWind g p0 p1 = 0 then g 4 (tn p0) + tn p1 else 0) = nI (g 4 (tn p0) + tn p1) from congrArg nI (if_pos hcnd)) ?_
    refine lv_istore (lv' := [(7, .int (nI (g 4 (tn p0) + tn p1))), (6, .int (nI 0)), (0, .ref sb), (1, .ref (x 0)), (2, .ref (mb 0)), (3, .ref ol), (4, .ref od), (5, .int (nI i))]) hx hb dL_law_387 hl (by decide) rfl (fun ls hl => ?_)
    refine lv_aload_n hx hb dL_law_389 rfl (lv_at hl 4 rfl) ?_
    refine run_i (S := Unit) (run_V (As := []) (rest := []) (bs := [loC E ol lo9, dbC E od dO, coC E x a a2 a3 b d k pa y w, stC E a (windG g (tn p0) (tn p1)), stC E a2 g2, stC E a3 g3, hhC E b hs (upa hg nx g) ((nx + 1) % 8) (if 8 < ct + 1 then 8 else ct + 1), diC E d co re, grC E k so gw, prC E pa q F, sbO E y v ml n, baC E v cp t, moC E mb (mchZ (fWind g p0 p1) 0 (g 4 (tn p0) + tn p1) z) (windG g (tn p0) (tn p1)) (mchS (fWind g p0 p1) (z 1) g gs) ar]) (cb := [moC E mb (mchZ (fWind g p0 p1) 0 (g 4 (tn p0) + tn p1) z) (windG g (tn p0) (tn p1)) (mchS (fWind g p0 p1) (z 1) g gs) ar]) hx hb hml hown hts hK hZ hA (c_X6_thrown l E _ mb (mchZ (fWind g p0 p1) 0 (g 4 (tn p0) + tn p1) z) (windG g (tn p0) (tn p1)) (mchS (fWind g p0 p1) (z 1) g gs) ar) l_L_152 rfl ⟨⟨rfl, rfl⟩, Nat.le_of_ble_eq_true rfl, Nat.le_of_ble_eq_true rfl⟩ 10 rfl [12] rfl (by decide) rfl hP hD hS hl.1 rfl (Nat.le_of_ble_eq_true rfl) dL_law_390 ⟨by show ((cells + 1) + 0) + 0 ≤ 603072; omega, by show ((slots + 6) + 0) + 0 ≤ 7174250; omega⟩) hA hP hD hS (isC := [12]) rfl [0, 1, 2, 3, 4, 5, 6, 7, 8, 9, 10, 11] [0, 1, 2, 3, 4, 5, 6, 7, 8, 9, 10, 11, 12] (br := [loC E ol lo9, dbC E od dO, coC E x a a2 a3 b d k pa y w, stC E a (windG g (tn p0) (tn p1)), stC E a2 g2, stC E a3 g3, hhC E b hs (upa hg nx g) ((nx + 1) % 8) (if 8 < ct + 1 then 8 else ct + 1), diC E d co re, grC E k so gw, prC E pa q F, sbO E y v ml n, baC E v cp t]) (bs2 := fun _ => [loC E ol lo9, dbC E od dO, coC E x a a2 a3 b d k pa y w, stC E a (windG g (tn p0) (tn p1)), stC E a2 g2, stC E a3 g3, hhC E b hs (upa hg nx g) ((nx + 1) % 8) (if 8 < ct + 1 then 8 else ct + 1), diC E d co re, grC E k so gw, prC E pa q F, sbO E y v ml n, baC E v cp t, moC E mb (mchZ (fWind g p0 p1) 0 (g 4 (tn p0) + tn p1) z) (windG g (tn p0) (tn p1)) (mchS (fWind g p0 p1) (z 1) g gs) ar]) rfl (by decide) (fun _ => rfl) (by decide) (fun r u6 H locs hw6 hP hD hS => ?_)
    have hw6 : r = nI ((mchZ (fWind g p0 p1) 0 (g 4 (tn p0) + tn p1) z) 0) := hw6
    subst hw6
    refine lv_iload hx hb dL_law_393 (lv_at hl 1 rfl) ?_
    refine lv_icmp_eq (tgt := 400) hx hb dL_law_395 (by decide) (fun _ => ?_) (fun hc => absurd (show nI ((mchZ (fWind g p0 p1) 0 (g 4 (tn p0) + tn p1) z) 0) = nI 0 from congrArg nI (mchZ_0 hcnd)) hc)
    refine lv_iload hx hb dL_law_400 (lv_at hl 1 rfl) ?_
    refine nv_if_ne (X := ((0 : Nat) : Int)) hx hb (nI_toInt (by omega)) (tgt := 417) dL_law_402 (by decide) (fun c_1 => ?_) (fun c_1 => ?_)
    · exact absurd c_1 (by omega)
    · skip
      refine lv_aload_n hx hb dL_law_405 rfl (lv_at hl 5 rfl) ?_
      refine lv_iconst (v := nI 0) hx hb dL_law_406 (by decide) ?_
      refine va_lald hx hb hK hP 0 4 rfl rfl (vp_in_nI (show 0 < 1 by decide) (by decide)) dL_law_407 ?_
      rw [show lo9 (nI 0).toNatClampNeg = (nI (g 4 (tn p0) + tn p1)).toInt64 from by rw [nI_clamp (show 0 < 2 ^ 31 by decide)]; exact hlo]
      refine lv_iload hx hb dL_law_408 (lv_at hl 0 rfl) ?_
      refine lv_i2l hx hb dL_law_410 rfl ?_
      refine W.lcmp hx hb dL_law_411 ?_
      refine tp_i (show lg_cmp ((nI (g 4 (tn p0) + tn p1)).toInt64) ((nI (g 4 (tn p0) + tn p1)).toInt64) = nI 0 from lg_eq _) ?_
      refine nv_if_eq (X := ((0 : Nat) : Int)) hx hb (nI_toInt (by omega)) (tgt := 417) dL_law_412 (by decide) (fun c_2 => ?_) (fun c_2 => ?_)
      · skip
        refine lv_goto (tgt := 2541) hx hb dL_law_417 (by decide) ?_
        exact W_widen (by omega) (by omega) (kk w (windG g (tn p0) (tn p1)) g2 g3 (upa hg nx g) ((nx + 1) % 8) (if 8 < ct + 1 then 8 else ct + 1) co re so gw q F v ml n cp t (mchZ (fWind g p0 p1) 0 (g 4 (tn p0) + tn p1) z) (mchS (fWind g p0 p1) (z 1) g gs) ar lo9 dO _ _ _ (rel_m hR hB4 hcnd (by have h9 := fWind_0 hcnd; have e0 := tn_t (x := p0) (by omega); have e1 := tn_t (x := p1) (by omega); exact (IB_wind hI (m := tn p0) (t := tn p1) (by omega) (by omega) (by omega)).le (by omega) hB4)) hP hD hS (lv_sub hl [2, 3, 4, 5, 6, 7] rfl))
      · exact absurd c_2 (by omega)
  · skip
    have hw : fWind g p0 p1 ≠ 0 ∧ r = nI (fWind g p0 p1 - 0) := hw
    have hP : va_P E.1 vwCl ([loC E ol lo, dbC E od dO, coC E x a a2 a3 b d k pa y w, stC E a g, stC E a2 g2, stC E a3 g3, hhC E b hs hg nx ct, diC E d co re, grC E k so gw, prC E pa q F, sbO E y v ml n, baC E v cp t, moC E mb z g gs ar] : List va_W).flatten H := hP
    have hD : va_D A ([loC E ol lo, dbC E od dO, coC E x a a2 a3 b d k pa y w, stC E a g, stC E a2 g2, stC E a3 g3, hhC E b hs hg nx ct, diC E d co re, grC E k so gw, prC E pa q F, sbO E y v ml n, baC E v cp t, moC E mb z g gs ar] : List va_W).flatten := hD
    obtain ⟨hf, rfl⟩ := hw
    have hf4 : fWind g p0 p1 ≤ 4 ∧ fWind g p0 p1 - 0 ≠ 0 := by rcases (fW_v : fWind g p0 p1 = 0 ∨ fWind g p0 p1 = 1 ∨ fWind g p0 p1 = 2 ∨ fWind g p0 p1 = 3) with h | h | h | h <;> omega
    refine lv_istore (lv' := [(6, .int (nI (fWind g p0 p1 - 0))), (0, .ref sb), (1, .ref (x 0)), (2, .ref (mb 0)), (3, .ref ol), (4, .ref od), (5, .int (nI i))]) hx hb dL_law_369 hl (by decide) rfl (fun ls hl => ?_)
    refine lv_aload_n hx hb dL_law_371 rfl (lv_at hl 3 rfl) ?_
    refine lv_aload_n hx hb dL_law_372 rfl (lv_at hl 1 rfl) ?_
    refine lv_iload hx hb dL_law_373 (lv_at hl 6 rfl) ?_
    refine lv_iconst (v := nI 1) hx hb dL_law_375 (by decide) ?_
    refine nv_iadd hx hb dL_law_376 ?_
    refine va_sld hx hb hX hbl hbA hS (vp_in_nI (show i + 1 < L by omega) (by omega)) dL_law_377 ?_
    refine tp_i (show xs (nI (i + 1)).toNatClampNeg = p0 from by rw [nI_clamp (by omega), hp0]) ?_
    refine lv_aload_n hx hb dL_law_378 rfl (lv_at hl 1 rfl) ?_
    refine lv_iload hx hb dL_law_379 (lv_at hl 6 rfl) ?_
    refine lv_iconst (v := nI 2) hx hb dL_law_381 (by decide) ?_
    refine nv_iadd hx hb dL_law_382 ?_
    refine va_sld hx hb hX hbl hbA hS (vp_in_nI (show i + 2 < L by omega) (by omega)) dL_law_383 ?_
    refine tp_i (show xs (nI (i + 2)).toNatClampNeg = p1 from by rw [nI_clamp (by omega), hp1]) ?_
    refine run_i (S := Unit) (run_V (As := [.int p0, .int p1]) (rest := []) (bs := [loC E ol lo, dbC E od dO, coC E x a a2 a3 b d k pa y w, stC E a g, stC E a2 g2, stC E a3 g3, hhC E b hs hg nx ct, diC E d co re, grC E k so gw, prC E pa q F, sbO E y v ml n, baC E v cp t, moC E mb z g gs ar]) (cb := [moC E mb z g gs ar]) hx hb hml hown hts hK hZ hA (c_X6_wind l E _ mb z g gs ar (by omega) B hI p0 p1) l_L_158 rfl ⟨⟨rfl, rfl⟩, Nat.le_of_ble_eq_true rfl, Nat.le_of_ble_eq_true rfl⟩ 10 rfl [12] rfl (by decide) rfl hP hD hS hl.1 rfl (Nat.le_of_ble_eq_true rfl) dL_law_384 ⟨by show (cells + 1) + 0 ≤ 603072; omega, by show (slots + 6) + 0 ≤ 7174250; omega⟩) hA hP hD hS (isC := [12]) rfl [0, 1, 2, 3, 4, 5, 6, 7, 8, 9, 10, 11] [0, 1, 2, 3, 4, 5, 6, 7, 8, 9, 10, 11, 12] (br := [loC E ol lo, dbC E od dO, coC E x a a2 a3 b d k pa y w, stC E a g, stC E a2 g2, stC E a3 g3, hhC E b hs hg nx ct, diC E d co re, grC E k so gw, prC E pa q F, sbO E y v ml n, baC E v cp t]) (bs2 := fun _ => [loC E ol lo, dbC E od dO, coC E x a a2 a3 b d k pa y w, stC E a g, stC E a2 g2, stC E a3 g3, hhC E b hs hg nx ct, diC E d co re, grC E k so gw, prC E pa q F, sbO E y v ml n, baC E v cp t, moC E mb (mchZ (fWind g p0 p1) 0 (g 4 (tn p0) + tn p1) z) (if fWind g p0 p1 = 0 then windG g (tn p0) (tn p1) else g) (mchS (fWind g p0 p1) (z 1) g gs) ar]) rfl (by decide) (fun _ => rfl) (by decide) (fun r u6 H locs hw6 hP hD hS => ?_)
    have hw6 : r = nI (if fWind g p0 p1 = 0 then g 4 (tn p0) + tn p1 else 0) := hw6
    subst hw6
    rw [if_neg hf] at hP hD
    have hP : va_P E.1 vwCl ([loC E ol lo, dbC E od dO, coC E x a a2 a3 b d k pa y w, stC E a g, stC E a2 g2, stC E a3 g3, hhC E b hs hg nx ct, diC E d co re, grC E k so gw, prC E pa q F, sbO E y v ml n, baC E v cp t, moC E mb (mchZ (fWind g p0 p1) 0 (g 4 (tn p0) + tn p1) z) g (mchS (fWind g p0 p1) (z 1) g gs) ar] : List va_W).flatten H := hP
    have hD : va_D A ([loC E ol lo, dbC E od dO, coC E x a a2 a3 b d k pa y w, stC E a g, stC E a2 g2, stC E a3 g3, hhC E b hs hg nx ct, diC E d co re, grC E k so gw, prC E pa q F, sbO E y v ml n, baC E v cp t, moC E mb (mchZ (fWind g p0 p1) 0 (g 4 (tn p0) + tn p1) z) g (mchS (fWind g p0 p1) (z 1) g gs) ar] : List va_W).flatten := hD
    refine lv_istore (lv' := [(7, .int (nI (if fWind g p0 p1 = 0 then g 4 (tn p0) + tn p1 else 0))), (6, .int (nI (fWind g p0 p1 - 0))), (0, .ref sb), (1, .ref (x 0)), (2, .ref (mb 0)), (3, .ref ol), (4, .ref od), (5, .int (nI i))]) hx hb dL_law_387 hl (by decide) rfl (fun ls hl => ?_)
    refine lv_aload_n hx hb dL_law_389 rfl (lv_at hl 4 rfl) ?_
    refine run_i (S := Unit) (run_V (As := []) (rest := []) (bs := [loC E ol lo, dbC E od dO, coC E x a a2 a3 b d k pa y w, stC E a g, stC E a2 g2, stC E a3 g3, hhC E b hs hg nx ct, diC E d co re, grC E k so gw, prC E pa q F, sbO E y v ml n, baC E v cp t, moC E mb (mchZ (fWind g p0 p1) 0 (g 4 (tn p0) + tn p1) z) g (mchS (fWind g p0 p1) (z 1) g gs) ar]) (cb := [moC E mb (mchZ (fWind g p0 p1) 0 (g 4 (tn p0) + tn p1) z) g (mchS (fWind g p0 p1) (z 1) g gs) ar]) hx hb hml hown hts hK hZ hA (c_X6_thrown l E _ mb (mchZ (fWind g p0 p1) 0 (g 4 (tn p0) + tn p1) z) g (mchS (fWind g p0 p1) (z 1) g gs) ar) l_L_152 rfl ⟨⟨rfl, rfl⟩, Nat.le_of_ble_eq_true rfl, Nat.le_of_ble_eq_true rfl⟩ 10 rfl [12] rfl (by decide) rfl hP hD hS hl.1 rfl (Nat.le_of_ble_eq_true rfl) dL_law_390 ⟨by show ((cells + 1) + 0) + 0 ≤ 603072; omega, by show ((slots + 6) + 0) + 0 ≤ 7174250; omega⟩) hA hP hD hS (isC := [12]) rfl [0, 1, 2, 3, 4, 5, 6, 7, 8, 9, 10, 11] [0, 1, 2, 3, 4, 5, 6, 7, 8, 9, 10, 11, 12] (br := [loC E ol lo, dbC E od dO, coC E x a a2 a3 b d k pa y w, stC E a g, stC E a2 g2, stC E a3 g3, hhC E b hs hg nx ct, diC E d co re, grC E k so gw, prC E pa q F, sbO E y v ml n, baC E v cp t]) (bs2 := fun _ => [loC E ol lo, dbC E od dO, coC E x a a2 a3 b d k pa y w, stC E a g, stC E a2 g2, stC E a3 g3, hhC E b hs hg nx ct, diC E d co re, grC E k so gw, prC E pa q F, sbO E y v ml n, baC E v cp t, moC E mb (mchZ (fWind g p0 p1) 0 (g 4 (tn p0) + tn p1) z) g (mchS (fWind g p0 p1) (z 1) g gs) ar]) rfl (by decide) (fun _ => rfl) (by decide) (fun r u6 H locs hw6 hP hD hS => ?_)
    have hw6 : r = nI ((mchZ (fWind g p0 p1) 0 (g 4 (tn p0) + tn p1) z) 0) := hw6
    subst hw6
    refine lv_iload hx hb dL_law_393 (lv_at hl 1 rfl) ?_
    refine lv_icmp_eq (tgt := 400) hx hb dL_law_395 (by decide) (fun _ => ?_) (fun hc => absurd (show nI ((mchZ (fWind g p0 p1) 0 (g 4 (tn p0) + tn p1) z) 0) = nI (fWind g p0 p1 - 0) from congrArg nI (mchZ_1 hf)) hc)
    refine lv_iload hx hb dL_law_400 (lv_at hl 1 rfl) ?_
    refine nv_if_ne (X := ((fWind g p0 p1 - 0 : Nat) : Int)) hx hb (nI_toInt (by omega)) (tgt := 417) dL_law_402 (by decide) (fun c_3 => ?_) (fun c_3 => ?_)
    · skip
      refine lv_goto (tgt := 2541) hx hb dL_law_417 (by decide) ?_
      exact W_widen (by omega) (by omega) (kk w g g2 g3 hg nx ct co re so gw q F v ml n cp t (mchZ (fWind g p0 p1) 0 (g 4 (tn p0) + tn p1) z) (mchS (fWind g p0 p1) (z 1) g gs) ar lo dO _ _ _ (rel_f hR hB4 hf) hP hD hS (lv_sub hl [2, 3, 4, 5, 6, 7] rfl))
    · exact absurd c_3 (by omega)
set_option maxHeartbeats 4000000 in
set_option maxRecDepth 100000 in
theorem st_tune {p : Program} {l : Launch} {e : Env} {s : State} {m : MethodId} {args : Array Value} {below : List Frame} {meth : Method} {c : Code} {E : EE} {A : Nat → Prop} {Q : State → Prop} {x a a2 a3 b d k pa y : Nat → Nat} {hs : Nat → Nat → Nat} {mb : Nat → Nat} {ol od sb : Nat} {i B cells slots L : Nat} {xs : Nat → Int32} (C : LCx p l s m args c E A sb L xs) (hL : L ≤ 2560) (hi : i + 5 ≤ L) (hB4 : B + 420 ≤ 300000) (hrc : cells + 13 ≤ 603072 ∧ slots + 414 ≤ 7174250) (kk : LGo p l e s m args below meth c E A Q x a a2 a3 b d k pa y hs mb ol od sb i (B + 420) (cells + 13) (slots + 414) 2541) : LGo p l e s m args below meth c E A Q x a a2 a3 b d k pa y hs mb ol od sb i B cells slots 420 := by
  obtain ⟨hx, hb, hml, hown, hts, hK, hZ, hDD, hA, hX, hbl, hbA, hst⟩ := C
  intro w g g2 g3 hg nx ct co re so gw q F v ml n cp t z gs ar lo dO H locs ls hR hP hD hS hl
  obtain ⟨hI, ⟨hs1, hs2, hs3⟩, ⟨hnx, hct, hz1, hh9⟩, ⟨hw1, hw2, hz5, hz6⟩, ⟨hq1, hq2, hF0, hF9⟩, ⟨hn1, hn2, hcp, ht9, htx, ho2⟩⟩ := id hR
  have hmc := hI.mc
  obtain ⟨p0, hp0⟩ : ∃ y9, y9 = xs (i + 1) := ⟨_, rfl⟩
  obtain ⟨p1, hp1⟩ : ∃ y9, y9 = xs (i + 2) := ⟨_, rfl⟩
  refine lv_aload_n hx hb dL_law_420 rfl (lv_at hl 1 rfl) ?_
  refine lv_aload_n hx hb dL_law_421 rfl (lv_at hl 0 rfl) ?_
  refine lv_iload hx hb dL_law_422 (lv_at hl 5 rfl) ?_
  refine lv_iconst (v := nI 1) hx hb dL_law_424 (by decide) ?_
  refine nv_iadd hx hb dL_law_425 ?_
  refine va_sld hx hb hX hbl hbA hS (vp_in_nI (show i + 1 < L by omega) (by omega)) dL_law_426 ?_
  refine tp_i (show xs (nI (i + 1)).toNatClampNeg = p0 from by rw [nI_clamp (by omega), hp0]) ?_
  refine lv_aload_n hx hb dL_law_427 rfl (lv_at hl 0 rfl) ?_
  refine lv_iload hx hb dL_law_428 (lv_at hl 5 rfl) ?_
  refine lv_iconst (v := nI 2) hx hb dL_law_430 (by decide) ?_
  refine nv_iadd hx hb dL_law_431 ?_
  refine va_sld hx hb hX hbl hbA hS (vp_in_nI (show i + 2 < L by omega) (by omega)) dL_law_432 ?_
  refine tp_i (show xs (nI (i + 2)).toNatClampNeg = p1 from by rw [nI_clamp (by omega), hp1]) ?_
  refine lv_aload_n hx hb dL_law_433 rfl (lv_at hl 3 rfl) ?_
  refine run_i (S := (Unit × Int32 × (Nat → Int64)) ⊕ Unit) (run_SW (As := [.ref (x 0), .int p0, .int p1, .ref ol]) (rest := []) (bs := [loC E ol lo, dbC E od dO, coC E x a a2 a3 b d k pa y w, stC E a g, stC E a2 g2, stC E a3 g3, hhC E b hs hg nx ct, diC E d co re, grC E k so gw, prC E pa q F, sbO E y v ml n, baC E v cp t, moC E mb z g gs ar]) (cb := [loC E ol lo, coC E x a a2 a3 b d k pa y w, hhC E b hs hg nx ct, stC E a g]) hx hb hml hown hts hK hZ hDD hA (c_L_tune l hst E _ x a a2 a3 b d k pa y w g B hI hs hg nx ct hnx hct p0 p1 ol lo) l_L_159 rfl ⟨⟨rfl, rfl⟩, Nat.le_of_ble_eq_true rfl, Nat.le_of_ble_eq_true rfl⟩ [0, 2, 6, 3] rfl (by decide) hP hD hS hl.1 rfl (Nat.le_of_ble_eq_true rfl) dL_law_434 ⟨by show cells + 1 ≤ 603072; omega, by show slots + 6 ≤ 7174250; omega⟩) hA hP hD hS (isC := [0, 2, 6, 3]) rfl [1, 4, 5, 7, 8, 9, 10, 11, 12] [9, 0, 10, 12, 1, 2, 11, 3, 4, 5, 6, 7, 8] (br := [dbC E od dO, stC E a2 g2, stC E a3 g3, diC E d co re, grC E k so gw, prC E pa q F, sbO E y v ml n, baC E v cp t, moC E mb z g gs ar]) (bs2 := fun u => Sum.elim (fun (vq : Unit × Int32 × (Nat → Int64)) => [loC E ol vq.2.2, dbC E od dO, coC E x a a2 a3 b d k pa y w, stC E a (up2 g 3 (tn p0) (tn p1)), stC E a2 g2, stC E a3 g3, hhC E b hs (upa hg nx g) ((nx + 1) % 8) (if 8 < ct + 1 then 8 else ct + 1), diC E d co re, grC E k so gw, prC E pa q F, sbO E y v ml n, baC E v cp t, moC E mb z g gs ar]) (fun (vq : Unit) => [loC E ol lo, dbC E od dO, coC E x a a2 a3 b d k pa y w, stC E a g, stC E a2 g2, stC E a3 g3, hhC E b hs hg nx ct, diC E d co re, grC E k so gw, prC E pa q F, sbO E y v ml n, baC E v cp t, moC E mb z g gs ar]) u) rfl (by decide) (fun u => by rcases u with u | u <;> rfl) (by decide) (fun r u H locs hw hP hD hS => ?_)
  rcases u with vq | vq
  · skip
    obtain ⟨u9, r9, lo9⟩ := vq
    have hw7 : r = nI 0 ∧ (fTune g p0 p1 = 0 ∧ r9 = nI (g 3 (tn p0))) ∧ lo9 0 = r9.toInt64 := hw
    clear hw
    obtain ⟨rfl, hw⟩ := hw7
    have hP : va_P E.1 vwCl ([loC E ol lo9, dbC E od dO, coC E x a a2 a3 b d k pa y w, stC E a (up2 g 3 (tn p0) (tn p1)), stC E a2 g2, stC E a3 g3, hhC E b hs (upa hg nx g) ((nx + 1) % 8) (if 8 < ct + 1 then 8 else ct + 1), diC E d co re, grC E k so gw, prC E pa q F, sbO E y v ml n, baC E v cp t, moC E mb z g gs ar] : List va_W).flatten H := hP
    have hD : va_D A ([loC E ol lo9, dbC E od dO, coC E x a a2 a3 b d k pa y w, stC E a (up2 g 3 (tn p0) (tn p1)), stC E a2 g2, stC E a3 g3, hhC E b hs (upa hg nx g) ((nx + 1) % 8) (if 8 < ct + 1 then 8 else ct + 1), diC E d co re, grC E k so gw, prC E pa q F, sbO E y v ml n, baC E v cp t, moC E mb z g gs ar] : List va_W).flatten := hD
    obtain ⟨⟨hcnd, hr9⟩, hlo⟩ := hw
    subst hr9
    refine lv_istore (lv' := [(6, .int (nI 0)), (0, .ref sb), (1, .ref (x 0)), (2, .ref (mb 0)), (3, .ref ol), (4, .ref od), (5, .int (nI i))]) hx hb dL_law_437 hl (by decide) rfl (fun ls hl => ?_)
    refine lv_aload_n hx hb dL_law_439 rfl (lv_at hl 3 rfl) ?_
    refine lv_aload_n hx hb dL_law_440 rfl (lv_at hl 1 rfl) ?_
    refine lv_iload hx hb dL_law_441 (lv_at hl 6 rfl) ?_
    refine lv_iconst (v := nI 1) hx hb dL_law_443 (by decide) ?_
    refine nv_iadd hx hb dL_law_444 ?_
    refine va_sld hx hb hX hbl hbA hS (vp_in_nI (show i + 1 < L by omega) (by omega)) dL_law_445 ?_
    refine tp_i (show xs (nI (i + 1)).toNatClampNeg = p0 from by rw [nI_clamp (by omega), hp0]) ?_
    refine lv_aload_n hx hb dL_law_446 rfl (lv_at hl 1 rfl) ?_
    refine lv_iload hx hb dL_law_447 (lv_at hl 6 rfl) ?_
    refine lv_iconst (v := nI 2) hx hb dL_law_449 (by decide) ?_
    refine nv_iadd hx hb dL_law_450 ?_
    refine va_sld hx hb hX hbl hbA hS (vp_in_nI (show i + 2 < L by omega) (by omega)) dL_law_451 ?_
    refine tp_i (show xs (nI (i + 2)).toNatClampNeg = p1 from by rw [nI_clamp (by omega), hp1]) ?_
    refine run_i (S := Unit) (run_V (As := [.int p0, .int p1]) (rest := []) (bs := [loC E ol lo9, dbC E od dO, coC E x a a2 a3 b d k pa y w, stC E a (up2 g 3 (tn p0) (tn p1)), stC E a2 g2, stC E a3 g3, hhC E b hs (upa hg nx g) ((nx + 1) % 8) (if 8 < ct + 1 then 8 else ct + 1), diC E d co re, grC E k so gw, prC E pa q F, sbO E y v ml n, baC E v cp t, moC E mb z g gs ar]) (cb := [moC E mb z g gs ar]) hx hb hml hown hts hK hZ hA (c_X6_tune l E _ mb z g gs ar (by omega) B hI p0 p1) l_L_161 rfl ⟨⟨rfl, rfl⟩, Nat.le_of_ble_eq_true rfl, Nat.le_of_ble_eq_true rfl⟩ 10 rfl [12] rfl (by decide) rfl hP hD hS hl.1 rfl (Nat.le_of_ble_eq_true rfl) dL_law_452 ⟨by show (cells + 1) + 0 ≤ 603072; omega, by show (slots + 6) + 0 ≤ 7174250; omega⟩) hA hP hD hS (isC := [12]) rfl [0, 1, 2, 3, 4, 5, 6, 7, 8, 9, 10, 11] [0, 1, 2, 3, 4, 5, 6, 7, 8, 9, 10, 11, 12] (br := [loC E ol lo9, dbC E od dO, coC E x a a2 a3 b d k pa y w, stC E a (up2 g 3 (tn p0) (tn p1)), stC E a2 g2, stC E a3 g3, hhC E b hs (upa hg nx g) ((nx + 1) % 8) (if 8 < ct + 1 then 8 else ct + 1), diC E d co re, grC E k so gw, prC E pa q F, sbO E y v ml n, baC E v cp t]) (bs2 := fun _ => [loC E ol lo9, dbC E od dO, coC E x a a2 a3 b d k pa y w, stC E a (up2 g 3 (tn p0) (tn p1)), stC E a2 g2, stC E a3 g3, hhC E b hs (upa hg nx g) ((nx + 1) % 8) (if 8 < ct + 1 then 8 else ct + 1), diC E d co re, grC E k so gw, prC E pa q F, sbO E y v ml n, baC E v cp t, moC E mb (mchZ (fTune g p0 p1) 0 (g 3 (tn p0)) z) (if fTune g p0 p1 = 0 then up2 g 3 (tn p0) (tn p1) else g) (mchS (fTune g p0 p1) (z 1) g gs) ar]) rfl (by decide) (fun _ => rfl) (by decide) (fun r u6 H locs hw6 hP hD hS => ?_)
    have hw6 : r = nI (if fTune g p0 p1 = 0 then g 3 (tn p0) else 0) := hw6
    subst hw6
    rw [if_pos hcnd] at hP hD
    have hP : va_P E.1 vwCl ([loC E ol lo9, dbC E od dO, coC E x a a2 a3 b d k pa y w, stC E a (up2 g 3 (tn p0) (tn p1)), stC E a2 g2, stC E a3 g3, hhC E b hs (upa hg nx g) ((nx + 1) % 8) (if 8 < ct + 1 then 8 else ct + 1), diC E d co re, grC E k so gw, prC E pa q F, sbO E y v ml n, baC E v cp t, moC E mb (mchZ (fTune g p0 p1) 0 (g 3 (tn p0)) z) (up2 g 3 (tn p0) (tn p1)) (mchS (fTune g p0 p1) (z 1) g gs) ar] : List va_W).flatten H := hP
    have hD : va_D A ([loC E ol lo9, dbC E od dO, coC E x a a2 a3 b d k pa y w, stC E a (up2 g 3 (tn p0) (tn p1)), stC E a2 g2, stC E a3 g3, hhC E b hs (upa hg nx g) ((nx + 1) % 8) (if 8 < ct + 1 then 8 else ct + 1), diC E d co re, grC E k so gw, prC E pa q F, sbO E y v ml n, baC E v cp t, moC E mb (mchZ (fTune g p0 p1) 0 (g 3 (tn p0)) z) (up2 g 3 (tn p0) (tn p1)) (mchS (fTune g p0 p1) (z 1) g gs) ar] : List va_W).flatten := hD
    refine tp_i (show nI (if fTune g p0 p1 = 0 then g 3 (tn p0) else 0) = nI (g 3 (tn p0)) from congrArg nI (if_pos hcnd)) ?_
    refine lv_istore (lv' := [(7, .int (nI (g 3 (tn p0)))), (6, .int (nI 0)), (0, .ref sb), (1, .ref (x 0)), (2, .ref (mb 0)), (3, .ref ol), (4, .ref od), (5, .int (nI i))]) hx hb dL_law_455 hl (by decide) rfl (fun ls hl => ?_)
    refine lv_aload_n hx hb dL_law_457 rfl (lv_at hl 4 rfl) ?_
    refine run_i (S := Unit) (run_V (As := []) (rest := []) (bs := [loC E ol lo9, dbC E od dO, coC E x a a2 a3 b d k pa y w, stC E a (up2 g 3 (tn p0) (tn p1)), stC E a2 g2, stC E a3 g3, hhC E b hs (upa hg nx g) ((nx + 1) % 8) (if 8 < ct + 1 then 8 else ct + 1), diC E d co re, grC E k so gw, prC E pa q F, sbO E y v ml n, baC E v cp t, moC E mb (mchZ (fTune g p0 p1) 0 (g 3 (tn p0)) z) (up2 g 3 (tn p0) (tn p1)) (mchS (fTune g p0 p1) (z 1) g gs) ar]) (cb := [moC E mb (mchZ (fTune g p0 p1) 0 (g 3 (tn p0)) z) (up2 g 3 (tn p0) (tn p1)) (mchS (fTune g p0 p1) (z 1) g gs) ar]) hx hb hml hown hts hK hZ hA (c_X6_thrown l E _ mb (mchZ (fTune g p0 p1) 0 (g 3 (tn p0)) z) (up2 g 3 (tn p0) (tn p1)) (mchS (fTune g p0 p1) (z 1) g gs) ar) l_L_152 rfl ⟨⟨rfl, rfl⟩, Nat.le_of_ble_eq_true rfl, Nat.le_of_ble_eq_true rfl⟩ 10 rfl [12] rfl (by decide) rfl hP hD hS hl.1 rfl (Nat.le_of_ble_eq_true rfl) dL_law_458 ⟨by show ((cells + 1) + 0) + 0 ≤ 603072; omega, by show ((slots + 6) + 0) + 0 ≤ 7174250; omega⟩) hA hP hD hS (isC := [12]) rfl [0, 1, 2, 3, 4, 5, 6, 7, 8, 9, 10, 11] [0, 1, 2, 3, 4, 5, 6, 7, 8, 9, 10, 11, 12] (br := [loC E ol lo9, dbC E od dO, coC E x a a2 a3 b d k pa y w, stC E a (up2 g 3 (tn p0) (tn p1)), stC E a2 g2, stC E a3 g3, hhC E b hs (upa hg nx g) ((nx + 1) % 8) (if 8 < ct + 1 then 8 else ct + 1), diC E d co re, grC E k so gw, prC E pa q F, sbO E y v ml n, baC E v cp t]) (bs2 := fun _ => [loC E ol lo9, dbC E od dO, coC E x a a2 a3 b d k pa y w, stC E a (up2 g 3 (tn p0) (tn p1)), stC E a2 g2, stC E a3 g3, hhC E b hs (upa hg nx g) ((nx + 1) % 8) (if 8 < ct + 1 then 8 else ct + 1), diC E d co re, grC E k so gw, prC E pa q F, sbO E y v ml n, baC E v cp t, moC E mb (mchZ (fTune g p0 p1) 0 (g 3 (tn p0)) z) (up2 g 3 (tn p0) (tn p1)) (mchS (fTune g p0 p1) (z 1) g gs) ar]) rfl (by decide) (fun _ => rfl) (by decide) (fun r u6 H locs hw6 hP hD hS => ?_)
    have hw6 : r = nI ((mchZ (fTune g p0 p1) 0 (g 3 (tn p0)) z) 0) := hw6
    subst hw6
    refine lv_iload hx hb dL_law_461 (lv_at hl 1 rfl) ?_
    refine lv_icmp_eq (tgt := 468) hx hb dL_law_463 (by decide) (fun _ => ?_) (fun hc => absurd (show nI ((mchZ (fTune g p0 p1) 0 (g 3 (tn p0)) z) 0) = nI 0 from congrArg nI (mchZ_0 hcnd)) hc)
    refine lv_iload hx hb dL_law_468 (lv_at hl 1 rfl) ?_
    refine nv_if_ne (X := ((0 : Nat) : Int)) hx hb (nI_toInt (by omega)) (tgt := 485) dL_law_470 (by decide) (fun c_1 => ?_) (fun c_1 => ?_)
    · exact absurd c_1 (by omega)
    · skip
      refine lv_aload_n hx hb dL_law_473 rfl (lv_at hl 5 rfl) ?_
      refine lv_iconst (v := nI 0) hx hb dL_law_474 (by decide) ?_
      refine va_lald hx hb hK hP 0 4 rfl rfl (vp_in_nI (show 0 < 1 by decide) (by decide)) dL_law_475 ?_
      rw [show lo9 (nI 0).toNatClampNeg = (nI (g 3 (tn p0))).toInt64 from by rw [nI_clamp (show 0 < 2 ^ 31 by decide)]; exact hlo]
      refine lv_iload hx hb dL_law_476 (lv_at hl 0 rfl) ?_
      refine lv_i2l hx hb dL_law_478 rfl ?_
      refine W.lcmp hx hb dL_law_479 ?_
      refine tp_i (show lg_cmp ((nI (g 3 (tn p0))).toInt64) ((nI (g 3 (tn p0))).toInt64) = nI 0 from lg_eq _) ?_
      refine nv_if_eq (X := ((0 : Nat) : Int)) hx hb (nI_toInt (by omega)) (tgt := 485) dL_law_480 (by decide) (fun c_2 => ?_) (fun c_2 => ?_)
      · skip
        refine lv_goto (tgt := 2541) hx hb dL_law_485 (by decide) ?_
        exact W_widen (by omega) (by omega) (kk w (up2 g 3 (tn p0) (tn p1)) g2 g3 (upa hg nx g) ((nx + 1) % 8) (if 8 < ct + 1 then 8 else ct + 1) co re so gw q F v ml n cp t (mchZ (fTune g p0 p1) 0 (g 3 (tn p0)) z) (mchS (fTune g p0 p1) (z 1) g gs) ar lo9 dO _ _ _ (rel_m hR hB4 hcnd (by have h9 := fTune_0 hcnd; have e0 := tn_t (x := p0) (by omega); have e1 := tn_t (x := p1) (by omega); exact (IB_tune hI (by omega)).le (by omega) hB4)) hP hD hS (lv_sub hl [2, 3, 4, 5, 6, 7] rfl))
      · exact absurd c_2 (by omega)
  · skip
    have hw : fTune g p0 p1 ≠ 0 ∧ r = nI (fTune g p0 p1 - 0) := hw
    have hP : va_P E.1 vwCl ([loC E ol lo, dbC E od dO, coC E x a a2 a3 b d k pa y w, stC E a g, stC E a2 g2, stC E a3 g3, hhC E b hs hg nx ct, diC E d co re, grC E k so gw, prC E pa q F, sbO E y v ml n, baC E v cp t, moC E mb z g gs ar] : List va_W).flatten H := hP
    have hD : va_D A ([loC E ol lo, dbC E od dO, coC E x a a2 a3 b d k pa y w, stC E a g, stC E a2 g2, stC E a3 g3, hhC E b hs hg nx ct, diC E d co re, grC E k so gw, prC E pa q F, sbO E y v ml n, baC E v cp t, moC E mb z g gs ar] : List va_W).flatten := hD
    obtain ⟨hf, rfl⟩ := hw
    have hf4 : fTune g p0 p1 ≤ 4 ∧ fTune g p0 p1 - 0 ≠ 0 := by rcases (fT_v : fTune g p0 p1 = 0 ∨ fTune g p0 p1 = 1 ∨ fTune g p0 p1 = 2) with h | h | h <;> omega
    refine lv_istore (lv' := [(6, .int (nI (fTune g p0 p1 - 0))), (0, .ref sb), (1, .ref (x 0)), (2, .ref (mb 0)), (3, .ref ol), (4, .ref od), (5, .int (nI i))]) hx hb dL_law_437 hl (by decide) rfl (fun ls hl => ?_)
    refine lv_aload_n hx hb dL_law_439 rfl (lv_at hl 3 rfl) ?_
    refine lv_aload_n hx hb dL_law_440 rfl (lv_at hl 1 rfl) ?_
    refine lv_iload hx hb dL_law_441 (lv_at hl 6 rfl) ?_
    refine lv_iconst (v := nI 1) hx hb dL_law_443 (by decide) ?_
    refine nv_iadd hx hb dL_law_444 ?_
    refine va_sld hx hb hX hbl hbA hS (vp_in_nI (show i + 1 < L by omega) (by omega)) dL_law_445 ?_
    refine tp_i (show xs (nI (i + 1)).toNatClampNeg = p0 from by rw [nI_clamp (by omega), hp0]) ?_
    refine lv_aload_n hx hb dL_law_446 rfl (lv_at hl 1 rfl) ?_
    refine lv_iload hx hb dL_law_447 (lv_at hl 6 rfl) ?_
    refine lv_iconst (v := nI 2) hx hb dL_law_449 (by decide) ?_
    refine nv_iadd hx hb dL_law_450 ?_
    refine va_sld hx hb hX hbl hbA hS (vp_in_nI (show i + 2 < L by omega) (by omega)) dL_law_451 ?_
    refine tp_i (show xs (nI (i + 2)).toNatClampNeg = p1 from by rw [nI_clamp (by omega), hp1]) ?_
    refine run_i (S := Unit) (run_V (As := [.int p0, .int p1]) (rest := []) (bs := [loC E ol lo, dbC E od dO, coC E x a a2 a3 b d k pa y w, stC E a g, stC E a2 g2, stC E a3 g3, hhC E b hs hg nx ct, diC E d co re, grC E k so gw, prC E pa q F, sbO E y v ml n, baC E v cp t, moC E mb z g gs ar]) (cb := [moC E mb z g gs ar]) hx hb hml hown hts hK hZ hA (c_X6_tune l E _ mb z g gs ar (by omega) B hI p0 p1) l_L_161 rfl ⟨⟨rfl, rfl⟩, Nat.le_of_ble_eq_true rfl, Nat.le_of_ble_eq_true rfl⟩ 10 rfl [12] rfl (by decide) rfl hP hD hS hl.1 rfl (Nat.le_of_ble_eq_true rfl) dL_law_452 ⟨by show (cells + 1) + 0 ≤ 603072; omega, by show (slots + 6) + 0 ≤ 7174250; omega⟩) hA hP hD hS (isC := [12]) rfl [0, 1, 2, 3, 4, 5, 6, 7, 8, 9, 10, 11] [0, 1, 2, 3, 4, 5, 6, 7, 8, 9, 10, 11, 12] (br := [loC E ol lo, dbC E od dO, coC E x a a2 a3 b d k pa y w, stC E a g, stC E a2 g2, stC E a3 g3, hhC E b hs hg nx ct, diC E d co re, grC E k so gw, prC E pa q F, sbO E y v ml n, baC E v cp t]) (bs2 := fun _ => [loC E ol lo, dbC E od dO, coC E x a a2 a3 b d k pa y w, stC E a g, stC E a2 g2, stC E a3 g3, hhC E b hs hg nx ct, diC E d co re, grC E k so gw, prC E pa q F, sbO E y v ml n, baC E v cp t, moC E mb (mchZ (fTune g p0 p1) 0 (g 3 (tn p0)) z) (if fTune g p0 p1 = 0 then up2 g 3 (tn p0) (tn p1) else g) (mchS (fTune g p0 p1) (z 1) g gs) ar]) rfl (by decide) (fun _ => rfl) (by decide) (fun r u6 H locs hw6 hP hD hS => ?_)
    have hw6 : r = nI (if fTune g p0 p1 = 0 then g 3 (tn p0) else 0) := hw6
    subst hw6
    rw [if_neg hf] at hP hD
    have hP : va_P E.1 vwCl ([loC E ol lo, dbC E od dO, coC E x a a2 a3 b d k pa y w, stC E a g, stC E a2 g2, stC E a3 g3, hhC E b hs hg nx ct, diC E d co re, grC E k so gw, prC E pa q F, sbO E y v ml n, baC E v cp t, moC E mb (mchZ (fTune g p0 p1) 0 (g 3 (tn p0)) z) g (mchS (fTune g p0 p1) (z 1) g gs) ar] : List va_W).flatten H := hP
    have hD : va_D A ([loC E ol lo, dbC E od dO, coC E x a a2 a3 b d k pa y w, stC E a g, stC E a2 g2, stC E a3 g3, hhC E b hs hg nx ct, diC E d co re, grC E k so gw, prC E pa q F, sbO E y v ml n, baC E v cp t, moC E mb (mchZ (fTune g p0 p1) 0 (g 3 (tn p0)) z) g (mchS (fTune g p0 p1) (z 1) g gs) ar] : List va_W).flatten := hD
    refine lv_istore (lv' := [(7, .int (nI (if fTune g p0 p1 = 0 then g 3 (tn p0) else 0))), (6, .int (nI (fTune g p0 p1 - 0))), (0, .ref sb), (1, .ref (x 0)), (2, .ref (mb 0)), (3, .ref ol), (4, .ref od), (5, .int (nI i))]) hx hb dL_law_455 hl (by decide) rfl (fun ls hl => ?_)
    refine lv_aload_n hx hb dL_law_457 rfl (lv_at hl 4 rfl) ?_
    refine run_i (S := Unit) (run_V (As := []) (rest := []) (bs := [loC E ol lo, dbC E od dO, coC E x a a2 a3 b d k pa y w, stC E a g, stC E a2 g2, stC E a3 g3, hhC E b hs hg nx ct, diC E d co re, grC E k so gw, prC E pa q F, sbO E y v ml n, baC E v cp t, moC E mb (mchZ (fTune g p0 p1) 0 (g 3 (tn p0)) z) g (mchS (fTune g p0 p1) (z 1) g gs) ar]) (cb := [moC E mb (mchZ (fTune g p0 p1) 0 (g 3 (tn p0)) z) g (mchS (fTune g p0 p1) (z 1) g gs) ar]) hx hb hml hown hts hK hZ hA (c_X6_thrown l E _ mb (mchZ (fTune g p0 p1) 0 (g 3 (tn p0)) z) g (mchS (fTune g p0 p1) (z 1) g gs) ar) l_L_152 rfl ⟨⟨rfl, rfl⟩, Nat.le_of_ble_eq_true rfl, Nat.le_of_ble_eq_true rfl⟩ 10 rfl [12] rfl (by decide) rfl hP hD hS hl.1 rfl (Nat.le_of_ble_eq_true rfl) dL_law_458 ⟨by show ((cells + 1) + 0) + 0 ≤ 603072; omega, by show ((slots + 6) + 0) + 0 ≤ 7174250; omega⟩) hA hP hD hS (isC := [12]) rfl [0, 1, 2, 3, 4, 5, 6, 7, 8, 9, 10, 11] [0, 1, 2, 3, 4, 5, 6, 7, 8, 9, 10, 11, 12] (br := [loC E ol lo, dbC E od dO, coC E x a a2 a3 b d k pa y w, stC E a g, stC E a2 g2, stC E a3 g3, hhC E b hs hg nx ct, diC E d co re, grC E k so gw, prC E pa q F, sbO E y v ml n, baC E v cp t]) (bs2 := fun _ => [loC E ol lo, dbC E od dO, coC E x a a2 a3 b d k pa y w, stC E a g, stC E a2 g2, stC E a3 g3, hhC E b hs hg nx ct, diC E d co re, grC E k so gw, prC E pa q F, sbO E y v ml n, baC E v cp t, moC E mb (mchZ (fTune g p0 p1) 0 (g 3 (tn p0)) z) g (mchS (fTune g p0 p1) (z 1) g gs) ar]) rfl (by decide) (fun _ => rfl) (by decide) (fun r u6 H locs hw6 hP hD hS => ?_)
    have hw6 : r = nI ((mchZ (fTune g p0 p1) 0 (g 3 (tn p0)) z) 0) := hw6
    subst hw6
    refine lv_iload hx hb dL_law_461 (lv_at hl 1 rfl) ?_
    refine lv_icmp_eq (tgt := 468) hx hb dL_law_463 (by decide) (fun _ => ?_) (fun hc => absurd (show nI ((mchZ (fTune g p0 p1) 0 (g 3 (tn p0)) z) 0) = nI (fTune g p0 p1 - 0) from congrArg nI (mchZ_1 hf)) hc)
    refine lv_iload hx hb dL_law_468 (lv_at hl 1 rfl) ?_
    refine nv_if_ne (X := ((fTune g p0 p1 - 0 : Nat) : Int)) hx hb (nI_toInt (by omega)) (tgt := 485) dL_law_470 (by decide) (fun c_3 => ?_) (fun c_3 => ?_)
    · skip
      refine lv_goto (tgt := 2541) hx hb dL_law_485 (by decide) ?_
      exact W_widen (by omega) (by omega) (kk w g g2 g3 hg nx ct co re so gw q F v ml n cp t (mchZ (fTune g p0 p1) 0 (g 3 (tn p0)) z) (mchS (fTune g p0 p1) (z 1) g gs) ar lo dO _ _ _ (rel_f hR hB4 hf) hP hD hS (lv_sub hl [2, 3, 4, 5, 6, 7] rfl))
    · exact absurd c_3 (by omega)
set_option maxHeartbeats 4000000 in
set_option maxRecDepth 100000 in
theorem st_buyShares {p : Program} {l : Launch} {e : Env} {s : State} {m : MethodId} {args : Array Value} {below : List Frame} {meth : Method} {c : Code} {E : EE} {A : Nat → Prop} {Q : State → Prop} {x a a2 a3 b d k pa y : Nat → Nat} {hs : Nat → Nat → Nat} {mb : Nat → Nat} {ol od sb : Nat} {i B cells slots L : Nat} {xs : Nat → Int32} (C : LCx p l s m args c E A sb L xs) (hL : L ≤ 2560) (hi : i + 5 ≤ L) (hB4 : B + 420 ≤ 300000) (hrc : cells + 13 ≤ 603072 ∧ slots + 414 ≤ 7174250) (kk : LGo p l e s m args below meth c E A Q x a a2 a3 b d k pa y hs mb ol od sb i (B + 420) (cells + 13) (slots + 414) 2541) : LGo p l e s m args below meth c E A Q x a a2 a3 b d k pa y hs mb ol od sb i B cells slots 488 := by
  obtain ⟨hx, hb, hml, hown, hts, hK, hZ, hDD, hA, hX, hbl, hbA, hst⟩ := C
  intro w g g2 g3 hg nx ct co re so gw q F v ml n cp t z gs ar lo dO H locs ls hR hP hD hS hl
  obtain ⟨hI, ⟨hs1, hs2, hs3⟩, ⟨hnx, hct, hz1, hh9⟩, ⟨hw1, hw2, hz5, hz6⟩, ⟨hq1, hq2, hF0, hF9⟩, ⟨hn1, hn2, hcp, ht9, htx, ho2⟩⟩ := id hR
  have hmc := hI.mc
  obtain ⟨p0, hp0⟩ : ∃ y9, y9 = xs (i + 1) := ⟨_, rfl⟩
  obtain ⟨p1, hp1⟩ : ∃ y9, y9 = xs (i + 2) := ⟨_, rfl⟩
  refine lv_aload_n hx hb dL_law_488 rfl (lv_at hl 1 rfl) ?_
  refine lv_aload_n hx hb dL_law_489 rfl (lv_at hl 0 rfl) ?_
  refine lv_iload hx hb dL_law_490 (lv_at hl 5 rfl) ?_
  refine lv_iconst (v := nI 1) hx hb dL_law_492 (by decide) ?_
  refine nv_iadd hx hb dL_law_493 ?_
  refine va_sld hx hb hX hbl hbA hS (vp_in_nI (show i + 1 < L by omega) (by omega)) dL_law_494 ?_
  refine tp_i (show xs (nI (i + 1)).toNatClampNeg = p0 from by rw [nI_clamp (by omega), hp0]) ?_
  refine lv_aload_n hx hb dL_law_495 rfl (lv_at hl 0 rfl) ?_
  refine lv_iload hx hb dL_law_496 (lv_at hl 5 rfl) ?_
  refine lv_iconst (v := nI 2) hx hb dL_law_498 (by decide) ?_
  refine nv_iadd hx hb dL_law_499 ?_
  refine va_sld hx hb hX hbl hbA hS (vp_in_nI (show i + 2 < L by omega) (by omega)) dL_law_500 ?_
  refine tp_i (show xs (nI (i + 2)).toNatClampNeg = p1 from by rw [nI_clamp (by omega), hp1]) ?_
  refine lv_aload_n hx hb dL_law_501 rfl (lv_at hl 3 rfl) ?_
  refine run_i (S := (Unit × Int32 × (Nat → Int64)) ⊕ Unit) (run_SW (As := [.ref (x 0), .int p0, .int p1, .ref ol]) (rest := []) (bs := [loC E ol lo, dbC E od dO, coC E x a a2 a3 b d k pa y w, stC E a g, stC E a2 g2, stC E a3 g3, hhC E b hs hg nx ct, diC E d co re, grC E k so gw, prC E pa q F, sbO E y v ml n, baC E v cp t, moC E mb z g gs ar]) (cb := [loC E ol lo, coC E x a a2 a3 b d k pa y w, hhC E b hs hg nx ct, stC E a g]) hx hb hml hown hts hK hZ hDD hA (c_L_buyShares l hst E _ x a a2 a3 b d k pa y w g B hI hs hg nx ct hnx hct p0 p1 ol lo) l_L_162 rfl ⟨⟨rfl, rfl⟩, Nat.le_of_ble_eq_true rfl, Nat.le_of_ble_eq_true rfl⟩ [0, 2, 6, 3] rfl (by decide) hP hD hS hl.1 rfl (Nat.le_of_ble_eq_true rfl) dL_law_502 ⟨by show cells + 1 ≤ 603072; omega, by show slots + 6 ≤ 7174250; omega⟩) hA hP hD hS (isC := [0, 2, 6, 3]) rfl [1, 4, 5, 7, 8, 9, 10, 11, 12] [9, 0, 10, 12, 1, 2, 11, 3, 4, 5, 6, 7, 8] (br := [dbC E od dO, stC E a2 g2, stC E a3 g3, diC E d co re, grC E k so gw, prC E pa q F, sbO E y v ml n, baC E v cp t, moC E mb z g gs ar]) (bs2 := fun u => Sum.elim (fun (vq : Unit × Int32 × (Nat → Int64)) => [loC E ol vq.2.2, dbC E od dO, coC E x a a2 a3 b d k pa y w, stC E a (buyG g (tn p0) (tn p1)), stC E a2 g2, stC E a3 g3, hhC E b hs (upa hg nx g) ((nx + 1) % 8) (if 8 < ct + 1 then 8 else ct + 1), diC E d co re, grC E k so gw, prC E pa q F, sbO E y v ml n, baC E v cp t, moC E mb z g gs ar]) (fun (vq : Unit) => [loC E ol lo, dbC E od dO, coC E x a a2 a3 b d k pa y w, stC E a g, stC E a2 g2, stC E a3 g3, hhC E b hs hg nx ct, diC E d co re, grC E k so gw, prC E pa q F, sbO E y v ml n, baC E v cp t, moC E mb z g gs ar]) u) rfl (by decide) (fun u => by rcases u with u | u <;> rfl) (by decide) (fun r u H locs hw hP hD hS => ?_)
  rcases u with vq | vq
  · skip
    obtain ⟨u9, r9, lo9⟩ := vq
    have hw7 : r = nI 0 ∧ (fBuy g p0 p1 = 0 ∧ r9 = nI (g 0 (tn p0) + tn p1)) ∧ lo9 0 = r9.toInt64 := hw
    clear hw
    obtain ⟨rfl, hw⟩ := hw7
    have hP : va_P E.1 vwCl ([loC E ol lo9, dbC E od dO, coC E x a a2 a3 b d k pa y w, stC E a (buyG g (tn p0) (tn p1)), stC E a2 g2, stC E a3 g3, hhC E b hs (upa hg nx g) ((nx + 1) % 8) (if 8 < ct + 1 then 8 else ct + 1), diC E d co re, grC E k so gw, prC E pa q F, sbO E y v ml n, baC E v cp t, moC E mb z g gs ar] : List va_W).flatten H := hP
    have hD : va_D A ([loC E ol lo9, dbC E od dO, coC E x a a2 a3 b d k pa y w, stC E a (buyG g (tn p0) (tn p1)), stC E a2 g2, stC E a3 g3, hhC E b hs (upa hg nx g) ((nx + 1) % 8) (if 8 < ct + 1 then 8 else ct + 1), diC E d co re, grC E k so gw, prC E pa q F, sbO E y v ml n, baC E v cp t, moC E mb z g gs ar] : List va_W).flatten := hD
    obtain ⟨⟨hcnd, hr9⟩, hlo⟩ := hw
    subst hr9
    refine lv_istore (lv' := [(6, .int (nI 0)), (0, .ref sb), (1, .ref (x 0)), (2, .ref (mb 0)), (3, .ref ol), (4, .ref od), (5, .int (nI i))]) hx hb dL_law_505 hl (by decide) rfl (fun ls hl => ?_)
    refine lv_aload_n hx hb dL_law_507 rfl (lv_at hl 3 rfl) ?_
    refine lv_aload_n hx hb dL_law_508 rfl (lv_at hl 1 rfl) ?_
    refine lv_iload hx hb dL_law_509 (lv_at hl 6 rfl) ?_
    refine lv_iconst (v := nI 1) hx hb dL_law_511 (by decide) ?_
    refine nv_iadd hx hb dL_law_512 ?_
    refine va_sld hx hb hX hbl hbA hS (vp_in_nI (show i + 1 < L by omega) (by omega)) dL_law_513 ?_
    refine tp_i (show xs (nI (i + 1)).toNatClampNeg = p0 from by rw [nI_clamp (by omega), hp0]) ?_
    refine lv_aload_n hx hb dL_law_514 rfl (lv_at hl 1 rfl) ?_
    refine lv_iload hx hb dL_law_515 (lv_at hl 6 rfl) ?_
    refine lv_iconst (v := nI 2) hx hb dL_law_517 (by decide) ?_
    refine nv_iadd hx hb dL_law_518 ?_
    refine va_sld hx hb hX hbl hbA hS (vp_in_nI (show i + 2 < L by omega) (by omega)) dL_law_519 ?_
    refine tp_i (show xs (nI (i + 2)).toNatClampNeg = p1 from by rw [nI_clamp (by omega), hp1]) ?_
    refine run_i (S := Unit) (run_V (As := [.int p0, .int p1]) (rest := []) (bs := [loC E ol lo9, dbC E od dO, coC E x a a2 a3 b d k pa y w, stC E a (buyG g (tn p0) (tn p1)), stC E a2 g2, stC E a3 g3, hhC E b hs (upa hg nx g) ((nx + 1) % 8) (if 8 < ct + 1 then 8 else ct + 1), diC E d co re, grC E k so gw, prC E pa q F, sbO E y v ml n, baC E v cp t, moC E mb z g gs ar]) (cb := [moC E mb z g gs ar]) hx hb hml hown hts hK hZ hA (c_X6_buyShares l E _ mb z g gs ar (by omega) B hI p0 p1) l_L_164 rfl ⟨⟨rfl, rfl⟩, Nat.le_of_ble_eq_true rfl, Nat.le_of_ble_eq_true rfl⟩ 10 rfl [12] rfl (by decide) rfl hP hD hS hl.1 rfl (Nat.le_of_ble_eq_true rfl) dL_law_520 ⟨by show (cells + 1) + 0 ≤ 603072; omega, by show (slots + 6) + 0 ≤ 7174250; omega⟩) hA hP hD hS (isC := [12]) rfl [0, 1, 2, 3, 4, 5, 6, 7, 8, 9, 10, 11] [0, 1, 2, 3, 4, 5, 6, 7, 8, 9, 10, 11, 12] (br := [loC E ol lo9, dbC E od dO, coC E x a a2 a3 b d k pa y w, stC E a (buyG g (tn p0) (tn p1)), stC E a2 g2, stC E a3 g3, hhC E b hs (upa hg nx g) ((nx + 1) % 8) (if 8 < ct + 1 then 8 else ct + 1), diC E d co re, grC E k so gw, prC E pa q F, sbO E y v ml n, baC E v cp t]) (bs2 := fun _ => [loC E ol lo9, dbC E od dO, coC E x a a2 a3 b d k pa y w, stC E a (buyG g (tn p0) (tn p1)), stC E a2 g2, stC E a3 g3, hhC E b hs (upa hg nx g) ((nx + 1) % 8) (if 8 < ct + 1 then 8 else ct + 1), diC E d co re, grC E k so gw, prC E pa q F, sbO E y v ml n, baC E v cp t, moC E mb (mchZ (fBuy g p0 p1) 0 (g 0 (tn p0) + tn p1) z) (if fBuy g p0 p1 = 0 then buyG g (tn p0) (tn p1) else g) (mchS (fBuy g p0 p1) (z 1) g gs) ar]) rfl (by decide) (fun _ => rfl) (by decide) (fun r u6 H locs hw6 hP hD hS => ?_)
    have hw6 : r = nI (if fBuy g p0 p1 = 0 then g 0 (tn p0) + tn p1 else 0) := hw6
    subst hw6
    rw [if_pos hcnd] at hP hD
    have hP : va_P E.1 vwCl ([loC E ol lo9, dbC E od dO, coC E x a a2 a3 b d k pa y w, stC E a (buyG g (tn p0) (tn p1)), stC E a2 g2, stC E a3 g3, hhC E b hs (upa hg nx g) ((nx + 1) % 8) (if 8 < ct + 1 then 8 else ct + 1), diC E d co re, grC E k so gw, prC E pa q F, sbO E y v ml n, baC E v cp t, moC E mb (mchZ (fBuy g p0 p1) 0 (g 0 (tn p0) + tn p1) z) (buyG g (tn p0) (tn p1)) (mchS (fBuy g p0 p1) (z 1) g gs) ar] : List va_W).flatten H := hP
    have hD : va_D A ([loC E ol lo9, dbC E od dO, coC E x a a2 a3 b d k pa y w, stC E a (buyG g (tn p0) (tn p1)), stC E a2 g2, stC E a3 g3, hhC E b hs (upa hg nx g) ((nx + 1) % 8) (if 8 < ct + 1 then 8 else ct + 1), diC E d co re, grC E k so gw, prC E pa q F, sbO E y v ml n, baC E v cp t, moC E mb (mchZ (fBuy g p0 p1) 0 (g 0 (tn p0) + tn p1) z) (buyG g (tn p0) (tn p1)) (mchS (fBuy g p0 p1) (z 1) g gs) ar] : List va_W).flatten := hD
    refine tp_i (show nI (if fBuy g p0 p1 = 0 then g 0 (tn p0) + tn p1 else 0) = nI (g 0 (tn p0) + tn p1) from congrArg nI (if_pos hcnd)) ?_
    refine lv_istore (lv' := [(7, .int (nI (g 0 (tn p0) + tn p1))), (6, .int (nI 0)), (0, .ref sb), (1, .ref (x 0)), (2, .ref (mb 0)), (3, .ref ol), (4, .ref od), (5, .int (nI i))]) hx hb dL_law_523 hl (by decide) rfl (fun ls hl => ?_)
    refine lv_aload_n hx hb dL_law_525 rfl (lv_at hl 4 rfl) ?_
    refine run_i (S := Unit) (run_V (As := []) (rest := []) (bs := [loC E ol lo9, dbC E od dO, coC E x a a2 a3 b d k pa y w, stC E a (buyG g (tn p0) (tn p1)), stC E a2 g2, stC E a3 g3, hhC E b hs (upa hg nx g) ((nx + 1) % 8) (if 8 < ct + 1 then 8 else ct + 1), diC E d co re, grC E k so gw, prC E pa q F, sbO E y v ml n, baC E v cp t, moC E mb (mchZ (fBuy g p0 p1) 0 (g 0 (tn p0) + tn p1) z) (buyG g (tn p0) (tn p1)) (mchS (fBuy g p0 p1) (z 1) g gs) ar]) (cb := [moC E mb (mchZ (fBuy g p0 p1) 0 (g 0 (tn p0) + tn p1) z) (buyG g (tn p0) (tn p1)) (mchS (fBuy g p0 p1) (z 1) g gs) ar]) hx hb hml hown hts hK hZ hA (c_X6_thrown l E _ mb (mchZ (fBuy g p0 p1) 0 (g 0 (tn p0) + tn p1) z) (buyG g (tn p0) (tn p1)) (mchS (fBuy g p0 p1) (z 1) g gs) ar) l_L_152 rfl ⟨⟨rfl, rfl⟩, Nat.le_of_ble_eq_true rfl, Nat.le_of_ble_eq_true rfl⟩ 10 rfl [12] rfl (by decide) rfl hP hD hS hl.1 rfl (Nat.le_of_ble_eq_true rfl) dL_law_526 ⟨by show ((cells + 1) + 0) + 0 ≤ 603072; omega, by show ((slots + 6) + 0) + 0 ≤ 7174250; omega⟩) hA hP hD hS (isC := [12]) rfl [0, 1, 2, 3, 4, 5, 6, 7, 8, 9, 10, 11] [0, 1, 2, 3, 4, 5, 6, 7, 8, 9, 10, 11, 12] (br := [loC E ol lo9, dbC E od dO, coC E x a a2 a3 b d k pa y w, stC E a (buyG g (tn p0) (tn p1)), stC E a2 g2, stC E a3 g3, hhC E b hs (upa hg nx g) ((nx + 1) % 8) (if 8 < ct + 1 then 8 else ct + 1), diC E d co re, grC E k so gw, prC E pa q F, sbO E y v ml n, baC E v cp t]) (bs2 := fun _ => [loC E ol lo9, dbC E od dO, coC E x a a2 a3 b d k pa y w, stC E a (buyG g (tn p0) (tn p1)), stC E a2 g2, stC E a3 g3, hhC E b hs (upa hg nx g) ((nx + 1) % 8) (if 8 < ct + 1 then 8 else ct + 1), diC E d co re, grC E k so gw, prC E pa q F, sbO E y v ml n, baC E v cp t, moC E mb (mchZ (fBuy g p0 p1) 0 (g 0 (tn p0) + tn p1) z) (buyG g (tn p0) (tn p1)) (mchS (fBuy g p0 p1) (z 1) g gs) ar]) rfl (by decide) (fun _ => rfl) (by decide) (fun r u6 H locs hw6 hP hD hS => ?_)
    have hw6 : r = nI ((mchZ (fBuy g p0 p1) 0 (g 0 (tn p0) + tn p1) z) 0) := hw6
    subst hw6
    refine lv_iload hx hb dL_law_529 (lv_at hl 1 rfl) ?_
    refine lv_icmp_eq (tgt := 536) hx hb dL_law_531 (by decide) (fun _ => ?_) (fun hc => absurd (show nI ((mchZ (fBuy g p0 p1) 0 (g 0 (tn p0) + tn p1) z) 0) = nI 0 from congrArg nI (mchZ_0 hcnd)) hc)
    refine lv_iload hx hb dL_law_536 (lv_at hl 1 rfl) ?_
    refine nv_if_ne (X := ((0 : Nat) : Int)) hx hb (nI_toInt (by omega)) (tgt := 553) dL_law_538 (by decide) (fun c_1 => ?_) (fun c_1 => ?_)
    · exact absurd c_1 (by omega)
    · skip
      refine lv_aload_n hx hb dL_law_541 rfl (lv_at hl 5 rfl) ?_
      refine lv_iconst (v := nI 0) hx hb dL_law_542 (by decide) ?_
      refine va_lald hx hb hK hP 0 4 rfl rfl (vp_in_nI (show 0 < 1 by decide) (by decide)) dL_law_543 ?_
      rw [show lo9 (nI 0).toNatClampNeg = (nI (g 0 (tn p0) + tn p1)).toInt64 from by rw [nI_clamp (show 0 < 2 ^ 31 by decide)]; exact hlo]
      refine lv_iload hx hb dL_law_544 (lv_at hl 0 rfl) ?_
      refine lv_i2l hx hb dL_law_546 rfl ?_
      refine W.lcmp hx hb dL_law_547 ?_
      refine tp_i (show lg_cmp ((nI (g 0 (tn p0) + tn p1)).toInt64) ((nI (g 0 (tn p0) + tn p1)).toInt64) = nI 0 from lg_eq _) ?_
      refine nv_if_eq (X := ((0 : Nat) : Int)) hx hb (nI_toInt (by omega)) (tgt := 553) dL_law_548 (by decide) (fun c_2 => ?_) (fun c_2 => ?_)
      · skip
        refine lv_goto (tgt := 2541) hx hb dL_law_553 (by decide) ?_
        exact W_widen (by omega) (by omega) (kk w (buyG g (tn p0) (tn p1)) g2 g3 (upa hg nx g) ((nx + 1) % 8) (if 8 < ct + 1 then 8 else ct + 1) co re so gw q F v ml n cp t (mchZ (fBuy g p0 p1) 0 (g 0 (tn p0) + tn p1) z) (mchS (fBuy g p0 p1) (z 1) g gs) ar lo9 dO _ _ _ (rel_m hR hB4 hcnd (by have h9 := fBuy_0 hcnd; have e0 := tn_t (x := p0) (by omega); have e1 := tn_t (x := p1) (by omega); exact (IB_buy hI (by omega) (by omega) (by omega)).le (by omega) hB4)) hP hD hS (lv_sub hl [2, 3, 4, 5, 6, 7] rfl))
      · exact absurd c_2 (by omega)
  · skip
    have hw : fBuy g p0 p1 ≠ 0 ∧ r = nI (fBuy g p0 p1 - 0) := hw
    have hP : va_P E.1 vwCl ([loC E ol lo, dbC E od dO, coC E x a a2 a3 b d k pa y w, stC E a g, stC E a2 g2, stC E a3 g3, hhC E b hs hg nx ct, diC E d co re, grC E k so gw, prC E pa q F, sbO E y v ml n, baC E v cp t, moC E mb z g gs ar] : List va_W).flatten H := hP
    have hD : va_D A ([loC E ol lo, dbC E od dO, coC E x a a2 a3 b d k pa y w, stC E a g, stC E a2 g2, stC E a3 g3, hhC E b hs hg nx ct, diC E d co re, grC E k so gw, prC E pa q F, sbO E y v ml n, baC E v cp t, moC E mb z g gs ar] : List va_W).flatten := hD
    obtain ⟨hf, rfl⟩ := hw
    have hf4 : fBuy g p0 p1 ≤ 4 ∧ fBuy g p0 p1 - 0 ≠ 0 := by rcases (fB_v : fBuy g p0 p1 = 0 ∨ fBuy g p0 p1 = 1 ∨ fBuy g p0 p1 = 2 ∨ fBuy g p0 p1 = 3 ∨ fBuy g p0 p1 = 4) with h | h | h | h | h <;> omega
    refine lv_istore (lv' := [(6, .int (nI (fBuy g p0 p1 - 0))), (0, .ref sb), (1, .ref (x 0)), (2, .ref (mb 0)), (3, .ref ol), (4, .ref od), (5, .int (nI i))]) hx hb dL_law_505 hl (by decide) rfl (fun ls hl => ?_)
    refine lv_aload_n hx hb dL_law_507 rfl (lv_at hl 3 rfl) ?_
    refine lv_aload_n hx hb dL_law_508 rfl (lv_at hl 1 rfl) ?_
    refine lv_iload hx hb dL_law_509 (lv_at hl 6 rfl) ?_
    refine lv_iconst (v := nI 1) hx hb dL_law_511 (by decide) ?_
    refine nv_iadd hx hb dL_law_512 ?_
    refine va_sld hx hb hX hbl hbA hS (vp_in_nI (show i + 1 < L by omega) (by omega)) dL_law_513 ?_
    refine tp_i (show xs (nI (i + 1)).toNatClampNeg = p0 from by rw [nI_clamp (by omega), hp0]) ?_
    refine lv_aload_n hx hb dL_law_514 rfl (lv_at hl 1 rfl) ?_
    refine lv_iload hx hb dL_law_515 (lv_at hl 6 rfl) ?_
    refine lv_iconst (v := nI 2) hx hb dL_law_517 (by decide) ?_
    refine nv_iadd hx hb dL_law_518 ?_
    refine va_sld hx hb hX hbl hbA hS (vp_in_nI (show i + 2 < L by omega) (by omega)) dL_law_519 ?_
    refine tp_i (show xs (nI (i + 2)).toNatClampNeg = p1 from by rw [nI_clamp (by omega), hp1]) ?_
    refine run_i (S := Unit) (run_V (As := [.int p0, .int p1]) (rest := []) (bs := [loC E ol lo, dbC E od dO, coC E x a a2 a3 b d k pa y w, stC E a g, stC E a2 g2, stC E a3 g3, hhC E b hs hg nx ct, diC E d co re, grC E k so gw, prC E pa q F, sbO E y v ml n, baC E v cp t, moC E mb z g gs ar]) (cb := [moC E mb z g gs ar]) hx hb hml hown hts hK hZ hA (c_X6_buyShares l E _ mb z g gs ar (by omega) B hI p0 p1) l_L_164 rfl ⟨⟨rfl, rfl⟩, Nat.le_of_ble_eq_true rfl, Nat.le_of_ble_eq_true rfl⟩ 10 rfl [12] rfl (by decide) rfl hP hD hS hl.1 rfl (Nat.le_of_ble_eq_true rfl) dL_law_520 ⟨by show (cells + 1) + 0 ≤ 603072; omega, by show (slots + 6) + 0 ≤ 7174250; omega⟩) hA hP hD hS (isC := [12]) rfl [0, 1, 2, 3, 4, 5, 6, 7, 8, 9, 10, 11] [0, 1, 2, 3, 4, 5, 6, 7, 8, 9, 10, 11, 12] (br := [loC E ol lo, dbC E od dO, coC E x a a2 a3 b d k pa y w, stC E a g, stC E a2 g2, stC E a3 g3, hhC E b hs hg nx ct, diC E d co re, grC E k so gw, prC E pa q F, sbO E y v ml n, baC E v cp t]) (bs2 := fun _ => [loC E ol lo, dbC E od dO, coC E x a a2 a3 b d k pa y w, stC E a g, stC E a2 g2, stC E a3 g3, hhC E b hs hg nx ct, diC E d co re, grC E k so gw, prC E pa q F, sbO E y v ml n, baC E v cp t, moC E mb (mchZ (fBuy g p0 p1) 0 (g 0 (tn p0) + tn p1) z) (if fBuy g p0 p1 = 0 then buyG g (tn p0) (tn p1) else g) (mchS (fBuy g p0 p1) (z 1) g gs) ar]) rfl (by decide) (fun _ => rfl) (by decide) (fun r u6 H locs hw6 hP hD hS => ?_)
    have hw6 : r = nI (if fBuy g p0 p1 = 0 then g 0 (tn p0) + tn p1 else 0) := hw6
    subst hw6
    rw [if_neg hf] at hP hD
    have hP : va_P E.1 vwCl ([loC E ol lo, dbC E od dO, coC E x a a2 a3 b d k pa y w, stC E a g, stC E a2 g2, stC E a3 g3, hhC E b hs hg nx ct, diC E d co re, grC E k so gw, prC E pa q F, sbO E y v ml n, baC E v cp t, moC E mb (mchZ (fBuy g p0 p1) 0 (g 0 (tn p0) + tn p1) z) g (mchS (fBuy g p0 p1) (z 1) g gs) ar] : List va_W).flatten H := hP
    have hD : va_D A ([loC E ol lo, dbC E od dO, coC E x a a2 a3 b d k pa y w, stC E a g, stC E a2 g2, stC E a3 g3, hhC E b hs hg nx ct, diC E d co re, grC E k so gw, prC E pa q F, sbO E y v ml n, baC E v cp t, moC E mb (mchZ (fBuy g p0 p1) 0 (g 0 (tn p0) + tn p1) z) g (mchS (fBuy g p0 p1) (z 1) g gs) ar] : List va_W).flatten := hD
    refine lv_istore (lv' := [(7, .int (nI (if fBuy g p0 p1 = 0 then g 0 (tn p0) + tn p1 else 0))), (6, .int (nI (fBuy g p0 p1 - 0))), (0, .ref sb), (1, .ref (x 0)), (2, .ref (mb 0)), (3, .ref ol), (4, .ref od), (5, .int (nI i))]) hx hb dL_law_523 hl (by decide) rfl (fun ls hl => ?_)
    refine lv_aload_n hx hb dL_law_525 rfl (lv_at hl 4 rfl) ?_
    refine run_i (S := Unit) (run_V (As := []) (rest := []) (bs := [loC E ol lo, dbC E od dO, coC E x a a2 a3 b d k pa y w, stC E a g, stC E a2 g2, stC E a3 g3, hhC E b hs hg nx ct, diC E d co re, grC E k so gw, prC E pa q F, sbO E y v ml n, baC E v cp t, moC E mb (mchZ (fBuy g p0 p1) 0 (g 0 (tn p0) + tn p1) z) g (mchS (fBuy g p0 p1) (z 1) g gs) ar]) (cb := [moC E mb (mchZ (fBuy g p0 p1) 0 (g 0 (tn p0) + tn p1) z) g (mchS (fBuy g p0 p1) (z 1) g gs) ar]) hx hb hml hown hts hK hZ hA (c_X6_thrown l E _ mb (mchZ (fBuy g p0 p1) 0 (g 0 (tn p0) + tn p1) z) g (mchS (fBuy g p0 p1) (z 1) g gs) ar) l_L_152 rfl ⟨⟨rfl, rfl⟩, Nat.le_of_ble_eq_true rfl, Nat.le_of_ble_eq_true rfl⟩ 10 rfl [12] rfl (by decide) rfl hP hD hS hl.1 rfl (Nat.le_of_ble_eq_true rfl) dL_law_526 ⟨by show ((cells + 1) + 0) + 0 ≤ 603072; omega, by show ((slots + 6) + 0) + 0 ≤ 7174250; omega⟩) hA hP hD hS (isC := [12]) rfl [0, 1, 2, 3, 4, 5, 6, 7, 8, 9, 10, 11] [0, 1, 2, 3, 4, 5, 6, 7, 8, 9, 10, 11, 12] (br := [loC E ol lo, dbC E od dO, coC E x a a2 a3 b d k pa y w, stC E a g, stC E a2 g2, stC E a3 g3, hhC E b hs hg nx ct, diC E d co re, grC E k so gw, prC E pa q F, sbO E y v ml n, baC E v cp t]) (bs2 := fun _ => [loC E ol lo, dbC E od dO, coC E x a a2 a3 b d k pa y w, stC E a g, stC E a2 g2, stC E a3 g3, hhC E b hs hg nx ct, diC E d co re, grC E k so gw, prC E pa q F, sbO E y v ml n, baC E v cp t, moC E mb (mchZ (fBuy g p0 p1) 0 (g 0 (tn p0) + tn p1) z) g (mchS (fBuy g p0 p1) (z 1) g gs) ar]) rfl (by decide) (fun _ => rfl) (by decide) (fun r u6 H locs hw6 hP hD hS => ?_)
    have hw6 : r = nI ((mchZ (fBuy g p0 p1) 0 (g 0 (tn p0) + tn p1) z) 0) := hw6
    subst hw6
    refine lv_iload hx hb dL_law_529 (lv_at hl 1 rfl) ?_
    refine lv_icmp_eq (tgt := 536) hx hb dL_law_531 (by decide) (fun _ => ?_) (fun hc => absurd (show nI ((mchZ (fBuy g p0 p1) 0 (g 0 (tn p0) + tn p1) z) 0) = nI (fBuy g p0 p1 - 0) from congrArg nI (mchZ_1 hf)) hc)
    refine lv_iload hx hb dL_law_536 (lv_at hl 1 rfl) ?_
    refine nv_if_ne (X := ((fBuy g p0 p1 - 0 : Nat) : Int)) hx hb (nI_toInt (by omega)) (tgt := 553) dL_law_538 (by decide) (fun c_3 => ?_) (fun c_3 => ?_)
    · skip
      refine lv_goto (tgt := 2541) hx hb dL_law_553 (by decide) ?_
      exact W_widen (by omega) (by omega) (kk w g g2 g3 hg nx ct co re so gw q F v ml n cp t (mchZ (fBuy g p0 p1) 0 (g 0 (tn p0) + tn p1) z) (mchS (fBuy g p0 p1) (z 1) g gs) ar lo dO _ _ _ (rel_f hR hB4 hf) hP hD hS (lv_sub hl [2, 3, 4, 5, 6, 7] rfl))
    · exact absurd c_3 (by omega)
set_option maxHeartbeats 4000000 in
set_option maxRecDepth 100000 in
theorem st_passBeats {p : Program} {l : Launch} {e : Env} {s : State} {m : MethodId} {args : Array Value} {below : List Frame} {meth : Method} {c : Code} {E : EE} {A : Nat → Prop} {Q : State → Prop} {x a a2 a3 b d k pa y : Nat → Nat} {hs : Nat → Nat → Nat} {mb : Nat → Nat} {ol od sb : Nat} {i B cells slots L : Nat} {xs : Nat → Int32} (C : LCx p l s m args c E A sb L xs) (hL : L ≤ 2560) (hi : i + 5 ≤ L) (hB4 : B + 420 ≤ 300000) (hrc : cells + 13 ≤ 603072 ∧ slots + 414 ≤ 7174250) (kk : LGo p l e s m args below meth c E A Q x a a2 a3 b d k pa y hs mb ol od sb i (B + 420) (cells + 13) (slots + 414) 2541) : LGo p l e s m args below meth c E A Q x a a2 a3 b d k pa y hs mb ol od sb i B cells slots 556 := by
  obtain ⟨hx, hb, hml, hown, hts, hK, hZ, hDD, hA, hX, hbl, hbA, hst⟩ := C
  intro w g g2 g3 hg nx ct co re so gw q F v ml n cp t z gs ar lo dO H locs ls hR hP hD hS hl
  obtain ⟨hI, ⟨hs1, hs2, hs3⟩, ⟨hnx, hct, hz1, hh9⟩, ⟨hw1, hw2, hz5, hz6⟩, ⟨hq1, hq2, hF0, hF9⟩, ⟨hn1, hn2, hcp, ht9, htx, ho2⟩⟩ := id hR
  have hmc := hI.mc
  obtain ⟨p0, hp0⟩ : ∃ y9, y9 = xs (i + 1) := ⟨_, rfl⟩
  refine lv_aload_n hx hb dL_law_556 rfl (lv_at hl 1 rfl) ?_
  refine lv_aload_n hx hb dL_law_557 rfl (lv_at hl 0 rfl) ?_
  refine lv_iload hx hb dL_law_558 (lv_at hl 5 rfl) ?_
  refine lv_iconst (v := nI 1) hx hb dL_law_560 (by decide) ?_
  refine nv_iadd hx hb dL_law_561 ?_
  refine va_sld hx hb hX hbl hbA hS (vp_in_nI (show i + 1 < L by omega) (by omega)) dL_law_562 ?_
  refine tp_i (show xs (nI (i + 1)).toNatClampNeg = p0 from by rw [nI_clamp (by omega), hp0]) ?_
  refine lv_aload_n hx hb dL_law_563 rfl (lv_at hl 3 rfl) ?_
  refine run_i (S := (Unit × Int32 × (Nat → Int64)) ⊕ Unit) (run_SW (As := [.ref (x 0), .int p0, .ref ol]) (rest := []) (bs := [loC E ol lo, dbC E od dO, coC E x a a2 a3 b d k pa y w, stC E a g, stC E a2 g2, stC E a3 g3, hhC E b hs hg nx ct, diC E d co re, grC E k so gw, prC E pa q F, sbO E y v ml n, baC E v cp t, moC E mb z g gs ar]) (cb := [loC E ol lo, coC E x a a2 a3 b d k pa y w, hhC E b hs hg nx ct, stC E a g]) hx hb hml hown hts hK hZ hDD hA (c_L_passBeats l hst E _ x a a2 a3 b d k pa y w g B hI hs hg nx ct hnx hct (by omega) p0 ol lo) l_L_165 rfl ⟨⟨rfl, rfl⟩, Nat.le_of_ble_eq_true rfl, Nat.le_of_ble_eq_true rfl⟩ [0, 2, 6, 3] rfl (by decide) hP hD hS hl.1 rfl (Nat.le_of_ble_eq_true rfl) dL_law_564 ⟨by show cells + 1 ≤ 603072; omega, by show slots + 6 ≤ 7174250; omega⟩) hA hP hD hS (isC := [0, 2, 6, 3]) rfl [1, 4, 5, 7, 8, 9, 10, 11, 12] [9, 0, 10, 12, 1, 2, 11, 3, 4, 5, 6, 7, 8] (br := [dbC E od dO, stC E a2 g2, stC E a3 g3, diC E d co re, grC E k so gw, prC E pa q F, sbO E y v ml n, baC E v cp t, moC E mb z g gs ar]) (bs2 := fun u => Sum.elim (fun (vq : Unit × Int32 × (Nat → Int64)) => [loC E ol vq.2.2, dbC E od dO, coC E x a a2 a3 b d k pa y w, stC E a (passG g (tn p0)), stC E a2 g2, stC E a3 g3, hhC E b hs (upa hg nx g) ((nx + 1) % 8) (if 8 < ct + 1 then 8 else ct + 1), diC E d co re, grC E k so gw, prC E pa q F, sbO E y v ml n, baC E v cp t, moC E mb z g gs ar]) (fun (vq : Unit) => [loC E ol lo, dbC E od dO, coC E x a a2 a3 b d k pa y w, stC E a g, stC E a2 g2, stC E a3 g3, hhC E b hs hg nx ct, diC E d co re, grC E k so gw, prC E pa q F, sbO E y v ml n, baC E v cp t, moC E mb z g gs ar]) u) rfl (by decide) (fun u => by rcases u with u | u <;> rfl) (by decide) (fun r u H locs hw hP hD hS => ?_)
  rcases u with vq | vq
  · skip
    obtain ⟨u9, r9, lo9⟩ := vq
    have hw7 : r = nI 0 ∧ (fPass p0 = 0 ∧ r9 = nI (passN g (tn p0))) ∧ lo9 0 = r9.toInt64 := hw
    clear hw
    obtain ⟨rfl, hw⟩ := hw7
    have hP : va_P E.1 vwCl ([loC E ol lo9, dbC E od dO, coC E x a a2 a3 b d k pa y w, stC E a (passG g (tn p0)), stC E a2 g2, stC E a3 g3, hhC E b hs (upa hg nx g) ((nx + 1) % 8) (if 8 < ct + 1 then 8 else ct + 1), diC E d co re, grC E k so gw, prC E pa q F, sbO E y v ml n, baC E v cp t, moC E mb z g gs ar] : List va_W).flatten H := hP
    have hD : va_D A ([loC E ol lo9, dbC E od dO, coC E x a a2 a3 b d k pa y w, stC E a (passG g (tn p0)), stC E a2 g2, stC E a3 g3, hhC E b hs (upa hg nx g) ((nx + 1) % 8) (if 8 < ct + 1 then 8 else ct + 1), diC E d co re, grC E k so gw, prC E pa q F, sbO E y v ml n, baC E v cp t, moC E mb z g gs ar] : List va_W).flatten := hD
    obtain ⟨⟨hcnd, hr9⟩, hlo⟩ := hw
    subst hr9
    refine lv_istore (lv' := [(6, .int (nI 0)), (0, .ref sb), (1, .ref (x 0)), (2, .ref (mb 0)), (3, .ref ol), (4, .ref od), (5, .int (nI i))]) hx hb dL_law_567 hl (by decide) rfl (fun ls hl => ?_)
    refine lv_aload_n hx hb dL_law_569 rfl (lv_at hl 3 rfl) ?_
    refine lv_aload_n hx hb dL_law_570 rfl (lv_at hl 1 rfl) ?_
    refine lv_iload hx hb dL_law_571 (lv_at hl 6 rfl) ?_
    refine lv_iconst (v := nI 1) hx hb dL_law_573 (by decide) ?_
    refine nv_iadd hx hb dL_law_574 ?_
    refine va_sld hx hb hX hbl hbA hS (vp_in_nI (show i + 1 < L by omega) (by omega)) dL_law_575 ?_
    refine tp_i (show xs (nI (i + 1)).toNatClampNeg = p0 from by rw [nI_clamp (by omega), hp0]) ?_
    refine run_i (S := Unit) (run_V (As := [.int p0]) (rest := []) (bs := [loC E ol lo9, dbC E od dO, coC E x a a2 a3 b d k pa y w, stC E a (passG g (tn p0)), stC E a2 g2, stC E a3 g3, hhC E b hs (upa hg nx g) ((nx + 1) % 8) (if 8 < ct + 1 then 8 else ct + 1), diC E d co re, grC E k so gw, prC E pa q F, sbO E y v ml n, baC E v cp t, moC E mb z g gs ar]) (cb := [moC E mb z g gs ar]) hx hb hml hown hts hK hZ hA (c_X6_passBeats l E _ mb z g gs ar (by omega) B hI (by omega) p0) l_L_168 rfl ⟨⟨rfl, rfl⟩, Nat.le_of_ble_eq_true rfl, Nat.le_of_ble_eq_true rfl⟩ 10 rfl [12] rfl (by decide) rfl hP hD hS hl.1 rfl (Nat.le_of_ble_eq_true rfl) dL_law_576 ⟨by show (cells + 1) + 0 ≤ 603072; omega, by show (slots + 6) + 0 ≤ 7174250; omega⟩) hA hP hD hS (isC := [12]) rfl [0, 1, 2, 3, 4, 5, 6, 7, 8, 9, 10, 11] [0, 1, 2, 3, 4, 5, 6, 7, 8, 9, 10, 11, 12] (br := [loC E ol lo9, dbC E od dO, coC E x a a2 a3 b d k pa y w, stC E a (passG g (tn p0)), stC E a2 g2, stC E a3 g3, hhC E b hs (upa hg nx g) ((nx + 1) % 8) (if 8 < ct + 1 then 8 else ct + 1), diC E d co re, grC E k so gw, prC E pa q F, sbO E y v ml n, baC E v cp t]) (bs2 := fun _ => [loC E ol lo9, dbC E od dO, coC E x a a2 a3 b d k pa y w, stC E a (passG g (tn p0)), stC E a2 g2, stC E a3 g3, hhC E b hs (upa hg nx g) ((nx + 1) % 8) (if 8 < ct + 1 then 8 else ct + 1), diC E d co re, grC E k so gw, prC E pa q F, sbO E y v ml n, baC E v cp t, moC E mb (mchZ (fPass p0) 1 (passN g (tn p0)) z) (if fPass p0 = 0 then passG g (tn p0) else g) (mchS (fPass p0) (z 1) g gs) ar]) rfl (by decide) (fun _ => rfl) (by decide) (fun r u6 H locs hw6 hP hD hS => ?_)
    have hw6 : r = nI (if fPass p0 = 0 then passN g (tn p0) else 0) := hw6
    subst hw6
    rw [if_pos hcnd] at hP hD
    have hP : va_P E.1 vwCl ([loC E ol lo9, dbC E od dO, coC E x a a2 a3 b d k pa y w, stC E a (passG g (tn p0)), stC E a2 g2, stC E a3 g3, hhC E b hs (upa hg nx g) ((nx + 1) % 8) (if 8 < ct + 1 then 8 else ct + 1), diC E d co re, grC E k so gw, prC E pa q F, sbO E y v ml n, baC E v cp t, moC E mb (mchZ (fPass p0) 1 (passN g (tn p0)) z) (passG g (tn p0)) (mchS (fPass p0) (z 1) g gs) ar] : List va_W).flatten H := hP
    have hD : va_D A ([loC E ol lo9, dbC E od dO, coC E x a a2 a3 b d k pa y w, stC E a (passG g (tn p0)), stC E a2 g2, stC E a3 g3, hhC E b hs (upa hg nx g) ((nx + 1) % 8) (if 8 < ct + 1 then 8 else ct + 1), diC E d co re, grC E k so gw, prC E pa q F, sbO E y v ml n, baC E v cp t, moC E mb (mchZ (fPass p0) 1 (passN g (tn p0)) z) (passG g (tn p0)) (mchS (fPass p0) (z 1) g gs) ar] : List va_W).flatten := hD
    refine tp_i (show nI (if fPass p0 = 0 then passN g (tn p0) else 0) = nI (passN g (tn p0)) from congrArg nI (if_pos hcnd)) ?_
    refine lv_istore (lv' := [(7, .int (nI (passN g (tn p0)))), (6, .int (nI 0)), (0, .ref sb), (1, .ref (x 0)), (2, .ref (mb 0)), (3, .ref ol), (4, .ref od), (5, .int (nI i))]) hx hb dL_law_579 hl (by decide) rfl (fun ls hl => ?_)
    refine lv_aload_n hx hb dL_law_581 rfl (lv_at hl 4 rfl) ?_
    refine run_i (S := Unit) (run_V (As := []) (rest := []) (bs := [loC E ol lo9, dbC E od dO, coC E x a a2 a3 b d k pa y w, stC E a (passG g (tn p0)), stC E a2 g2, stC E a3 g3, hhC E b hs (upa hg nx g) ((nx + 1) % 8) (if 8 < ct + 1 then 8 else ct + 1), diC E d co re, grC E k so gw, prC E pa q F, sbO E y v ml n, baC E v cp t, moC E mb (mchZ (fPass p0) 1 (passN g (tn p0)) z) (passG g (tn p0)) (mchS (fPass p0) (z 1) g gs) ar]) (cb := [moC E mb (mchZ (fPass p0) 1 (passN g (tn p0)) z) (passG g (tn p0)) (mchS (fPass p0) (z 1) g gs) ar]) hx hb hml hown hts hK hZ hA (c_X6_thrown l E _ mb (mchZ (fPass p0) 1 (passN g (tn p0)) z) (passG g (tn p0)) (mchS (fPass p0) (z 1) g gs) ar) l_L_152 rfl ⟨⟨rfl, rfl⟩, Nat.le_of_ble_eq_true rfl, Nat.le_of_ble_eq_true rfl⟩ 10 rfl [12] rfl (by decide) rfl hP hD hS hl.1 rfl (Nat.le_of_ble_eq_true rfl) dL_law_582 ⟨by show ((cells + 1) + 0) + 0 ≤ 603072; omega, by show ((slots + 6) + 0) + 0 ≤ 7174250; omega⟩) hA hP hD hS (isC := [12]) rfl [0, 1, 2, 3, 4, 5, 6, 7, 8, 9, 10, 11] [0, 1, 2, 3, 4, 5, 6, 7, 8, 9, 10, 11, 12] (br := [loC E ol lo9, dbC E od dO, coC E x a a2 a3 b d k pa y w, stC E a (passG g (tn p0)), stC E a2 g2, stC E a3 g3, hhC E b hs (upa hg nx g) ((nx + 1) % 8) (if 8 < ct + 1 then 8 else ct + 1), diC E d co re, grC E k so gw, prC E pa q F, sbO E y v ml n, baC E v cp t]) (bs2 := fun _ => [loC E ol lo9, dbC E od dO, coC E x a a2 a3 b d k pa y w, stC E a (passG g (tn p0)), stC E a2 g2, stC E a3 g3, hhC E b hs (upa hg nx g) ((nx + 1) % 8) (if 8 < ct + 1 then 8 else ct + 1), diC E d co re, grC E k so gw, prC E pa q F, sbO E y v ml n, baC E v cp t, moC E mb (mchZ (fPass p0) 1 (passN g (tn p0)) z) (passG g (tn p0)) (mchS (fPass p0) (z 1) g gs) ar]) rfl (by decide) (fun _ => rfl) (by decide) (fun r u6 H locs hw6 hP hD hS => ?_)
    have hw6 : r = nI ((mchZ (fPass p0) 1 (passN g (tn p0)) z) 0) := hw6
    subst hw6
    refine lv_iload hx hb dL_law_585 (lv_at hl 1 rfl) ?_
    refine lv_icmp_eq (tgt := 592) hx hb dL_law_587 (by decide) (fun _ => ?_) (fun hc => absurd (show nI ((mchZ (fPass p0) 1 (passN g (tn p0)) z) 0) = nI 0 from congrArg nI (mchZ_0 hcnd)) hc)
    refine lv_iload hx hb dL_law_592 (lv_at hl 1 rfl) ?_
    refine nv_if_ne (X := ((0 : Nat) : Int)) hx hb (nI_toInt (by omega)) (tgt := 609) dL_law_594 (by decide) (fun c_1 => ?_) (fun c_1 => ?_)
    · exact absurd c_1 (by omega)
    · skip
      refine lv_aload_n hx hb dL_law_597 rfl (lv_at hl 5 rfl) ?_
      refine lv_iconst (v := nI 0) hx hb dL_law_598 (by decide) ?_
      refine va_lald hx hb hK hP 0 4 rfl rfl (vp_in_nI (show 0 < 1 by decide) (by decide)) dL_law_599 ?_
      rw [show lo9 (nI 0).toNatClampNeg = (nI (passN g (tn p0))).toInt64 from by rw [nI_clamp (show 0 < 2 ^ 31 by decide)]; exact hlo]
      refine lv_iload hx hb dL_law_600 (lv_at hl 0 rfl) ?_
      refine lv_i2l hx hb dL_law_602 rfl ?_
      refine W.lcmp hx hb dL_law_603 ?_
      refine tp_i (show lg_cmp ((nI (passN g (tn p0))).toInt64) ((nI (passN g (tn p0))).toInt64) = nI 0 from lg_eq _) ?_
      refine nv_if_eq (X := ((0 : Nat) : Int)) hx hb (nI_toInt (by omega)) (tgt := 609) dL_law_604 (by decide) (fun c_2 => ?_) (fun c_2 => ?_)
      · skip
        refine lv_goto (tgt := 2541) hx hb dL_law_609 (by decide) ?_
        exact W_widen (by omega) (by omega) (kk w (passG g (tn p0)) g2 g3 (upa hg nx g) ((nx + 1) % 8) (if 8 < ct + 1 then 8 else ct + 1) co re so gw q F v ml n cp t (mchZ (fPass p0) 1 (passN g (tn p0)) z) (mchS (fPass p0) (z 1) g gs) ar lo9 dO _ _ _ (rel_m hR hB4 hcnd (by have h9 := fPass_0 hcnd; have e0 := tn_t (x := p0) (by omega); exact (IB_pass hI (k := tn p0) (by omega)).le (by omega) hB4)) hP hD hS (lv_sub hl [2, 3, 4, 5, 6, 7] rfl))
      · exact absurd c_2 (by omega)
  · skip
    have hw : fPass p0 ≠ 0 ∧ r = nI (fPass p0 - 1) := hw
    have hP : va_P E.1 vwCl ([loC E ol lo, dbC E od dO, coC E x a a2 a3 b d k pa y w, stC E a g, stC E a2 g2, stC E a3 g3, hhC E b hs hg nx ct, diC E d co re, grC E k so gw, prC E pa q F, sbO E y v ml n, baC E v cp t, moC E mb z g gs ar] : List va_W).flatten H := hP
    have hD : va_D A ([loC E ol lo, dbC E od dO, coC E x a a2 a3 b d k pa y w, stC E a g, stC E a2 g2, stC E a3 g3, hhC E b hs hg nx ct, diC E d co re, grC E k so gw, prC E pa q F, sbO E y v ml n, baC E v cp t, moC E mb z g gs ar] : List va_W).flatten := hD
    obtain ⟨hf, rfl⟩ := hw
    have hf4 : fPass p0 ≤ 4 ∧ fPass p0 - 1 ≠ 0 := by rcases (fP_v : fPass p0 = 0 ∨ fPass p0 = 2) with h | h <;> omega
    refine lv_istore (lv' := [(6, .int (nI (fPass p0 - 1))), (0, .ref sb), (1, .ref (x 0)), (2, .ref (mb 0)), (3, .ref ol), (4, .ref od), (5, .int (nI i))]) hx hb dL_law_567 hl (by decide) rfl (fun ls hl => ?_)
    refine lv_aload_n hx hb dL_law_569 rfl (lv_at hl 3 rfl) ?_
    refine lv_aload_n hx hb dL_law_570 rfl (lv_at hl 1 rfl) ?_
    refine lv_iload hx hb dL_law_571 (lv_at hl 6 rfl) ?_
    refine lv_iconst (v := nI 1) hx hb dL_law_573 (by decide) ?_
    refine nv_iadd hx hb dL_law_574 ?_
    refine va_sld hx hb hX hbl hbA hS (vp_in_nI (show i + 1 < L by omega) (by omega)) dL_law_575 ?_
    refine tp_i (show xs (nI (i + 1)).toNatClampNeg = p0 from by rw [nI_clamp (by omega), hp0]) ?_
    refine run_i (S := Unit) (run_V (As := [.int p0]) (rest := []) (bs := [loC E ol lo, dbC E od dO, coC E x a a2 a3 b d k pa y w, stC E a g, stC E a2 g2, stC E a3 g3, hhC E b hs hg nx ct, diC E d co re, grC E k so gw, prC E pa q F, sbO E y v ml n, baC E v cp t, moC E mb z g gs ar]) (cb := [moC E mb z g gs ar]) hx hb hml hown hts hK hZ hA (c_X6_passBeats l E _ mb z g gs ar (by omega) B hI (by omega) p0) l_L_168 rfl ⟨⟨rfl, rfl⟩, Nat.le_of_ble_eq_true rfl, Nat.le_of_ble_eq_true rfl⟩ 10 rfl [12] rfl (by decide) rfl hP hD hS hl.1 rfl (Nat.le_of_ble_eq_true rfl) dL_law_576 ⟨by show (cells + 1) + 0 ≤ 603072; omega, by show (slots + 6) + 0 ≤ 7174250; omega⟩) hA hP hD hS (isC := [12]) rfl [0, 1, 2, 3, 4, 5, 6, 7, 8, 9, 10, 11] [0, 1, 2, 3, 4, 5, 6, 7, 8, 9, 10, 11, 12] (br := [loC E ol lo, dbC E od dO, coC E x a a2 a3 b d k pa y w, stC E a g, stC E a2 g2, stC E a3 g3, hhC E b hs hg nx ct, diC E d co re, grC E k so gw, prC E pa q F, sbO E y v ml n, baC E v cp t]) (bs2 := fun _ => [loC E ol lo, dbC E od dO, coC E x a a2 a3 b d k pa y w, stC E a g, stC E a2 g2, stC E a3 g3, hhC E b hs hg nx ct, diC E d co re, grC E k so gw, prC E pa q F, sbO E y v ml n, baC E v cp t, moC E mb (mchZ (fPass p0) 1 (passN g (tn p0)) z) (if fPass p0 = 0 then passG g (tn p0) else g) (mchS (fPass p0) (z 1) g gs) ar]) rfl (by decide) (fun _ => rfl) (by decide) (fun r u6 H locs hw6 hP hD hS => ?_)
    have hw6 : r = nI (if fPass p0 = 0 then passN g (tn p0) else 0) := hw6
    subst hw6
    rw [if_neg hf] at hP hD
    have hP : va_P E.1 vwCl ([loC E ol lo, dbC E od dO, coC E x a a2 a3 b d k pa y w, stC E a g, stC E a2 g2, stC E a3 g3, hhC E b hs hg nx ct, diC E d co re, grC E k so gw, prC E pa q F, sbO E y v ml n, baC E v cp t, moC E mb (mchZ (fPass p0) 1 (passN g (tn p0)) z) g (mchS (fPass p0) (z 1) g gs) ar] : List va_W).flatten H := hP
    have hD : va_D A ([loC E ol lo, dbC E od dO, coC E x a a2 a3 b d k pa y w, stC E a g, stC E a2 g2, stC E a3 g3, hhC E b hs hg nx ct, diC E d co re, grC E k so gw, prC E pa q F, sbO E y v ml n, baC E v cp t, moC E mb (mchZ (fPass p0) 1 (passN g (tn p0)) z) g (mchS (fPass p0) (z 1) g gs) ar] : List va_W).flatten := hD
    refine lv_istore (lv' := [(7, .int (nI (if fPass p0 = 0 then passN g (tn p0) else 0))), (6, .int (nI (fPass p0 - 1))), (0, .ref sb), (1, .ref (x 0)), (2, .ref (mb 0)), (3, .ref ol), (4, .ref od), (5, .int (nI i))]) hx hb dL_law_579 hl (by decide) rfl (fun ls hl => ?_)
    refine lv_aload_n hx hb dL_law_581 rfl (lv_at hl 4 rfl) ?_
    refine run_i (S := Unit) (run_V (As := []) (rest := []) (bs := [loC E ol lo, dbC E od dO, coC E x a a2 a3 b d k pa y w, stC E a g, stC E a2 g2, stC E a3 g3, hhC E b hs hg nx ct, diC E d co re, grC E k so gw, prC E pa q F, sbO E y v ml n, baC E v cp t, moC E mb (mchZ (fPass p0) 1 (passN g (tn p0)) z) g (mchS (fPass p0) (z 1) g gs) ar]) (cb := [moC E mb (mchZ (fPass p0) 1 (passN g (tn p0)) z) g (mchS (fPass p0) (z 1) g gs) ar]) hx hb hml hown hts hK hZ hA (c_X6_thrown l E _ mb (mchZ (fPass p0) 1 (passN g (tn p0)) z) g (mchS (fPass p0) (z 1) g gs) ar) l_L_152 rfl ⟨⟨rfl, rfl⟩, Nat.le_of_ble_eq_true rfl, Nat.le_of_ble_eq_true rfl⟩ 10 rfl [12] rfl (by decide) rfl hP hD hS hl.1 rfl (Nat.le_of_ble_eq_true rfl) dL_law_582 ⟨by show ((cells + 1) + 0) + 0 ≤ 603072; omega, by show ((slots + 6) + 0) + 0 ≤ 7174250; omega⟩) hA hP hD hS (isC := [12]) rfl [0, 1, 2, 3, 4, 5, 6, 7, 8, 9, 10, 11] [0, 1, 2, 3, 4, 5, 6, 7, 8, 9, 10, 11, 12] (br := [loC E ol lo, dbC E od dO, coC E x a a2 a3 b d k pa y w, stC E a g, stC E a2 g2, stC E a3 g3, hhC E b hs hg nx ct, diC E d co re, grC E k so gw, prC E pa q F, sbO E y v ml n, baC E v cp t]) (bs2 := fun _ => [loC E ol lo, dbC E od dO, coC E x a a2 a3 b d k pa y w, stC E a g, stC E a2 g2, stC E a3 g3, hhC E b hs hg nx ct, diC E d co re, grC E k so gw, prC E pa q F, sbO E y v ml n, baC E v cp t, moC E mb (mchZ (fPass p0) 1 (passN g (tn p0)) z) g (mchS (fPass p0) (z 1) g gs) ar]) rfl (by decide) (fun _ => rfl) (by decide) (fun r u6 H locs hw6 hP hD hS => ?_)
    have hw6 : r = nI ((mchZ (fPass p0) 1 (passN g (tn p0)) z) 0) := hw6
    subst hw6
    refine lv_iload hx hb dL_law_585 (lv_at hl 1 rfl) ?_
    refine lv_icmp_eq (tgt := 592) hx hb dL_law_587 (by decide) (fun _ => ?_) (fun hc => absurd (show nI ((mchZ (fPass p0) 1 (passN g (tn p0)) z) 0) = nI (fPass p0 - 1) from congrArg nI (mchZ_1 hf)) hc)
    refine lv_iload hx hb dL_law_592 (lv_at hl 1 rfl) ?_
    refine nv_if_ne (X := ((fPass p0 - 1 : Nat) : Int)) hx hb (nI_toInt (by omega)) (tgt := 609) dL_law_594 (by decide) (fun c_3 => ?_) (fun c_3 => ?_)
    · skip
      refine lv_goto (tgt := 2541) hx hb dL_law_609 (by decide) ?_
      exact W_widen (by omega) (by omega) (kk w g g2 g3 hg nx ct co re so gw q F v ml n cp t (mchZ (fPass p0) 1 (passN g (tn p0)) z) (mchS (fPass p0) (z 1) g gs) ar lo dO _ _ _ (rel_f hR hB4 hf) hP hD hS (lv_sub hl [2, 3, 4, 5, 6, 7] rfl))
    · exact absurd c_3 (by omega)
set_option maxHeartbeats 4000000 in
set_option maxRecDepth 100000 in
theorem st_endQuarter {p : Program} {l : Launch} {e : Env} {s : State} {m : MethodId} {args : Array Value} {below : List Frame} {meth : Method} {c : Code} {E : EE} {A : Nat → Prop} {Q : State → Prop} {x a a2 a3 b d k pa y : Nat → Nat} {hs : Nat → Nat → Nat} {mb : Nat → Nat} {ol od sb : Nat} {i B cells slots L : Nat} {xs : Nat → Int32} (C : LCx p l s m args c E A sb L xs) (hL : L ≤ 2560) (hi : i + 5 ≤ L) (hB4 : B + 420 ≤ 300000) (hrc : cells + 13 ≤ 603072 ∧ slots + 414 ≤ 7174250) (kk : LGo p l e s m args below meth c E A Q x a a2 a3 b d k pa y hs mb ol od sb i (B + 420) (cells + 13) (slots + 414) 2541) : LGo p l e s m args below meth c E A Q x a a2 a3 b d k pa y hs mb ol od sb i B cells slots 612 := by
  obtain ⟨hx, hb, hml, hown, hts, hK, hZ, hDD, hA, hX, hbl, hbA, hst⟩ := C
  intro w g g2 g3 hg nx ct co re so gw q F v ml n cp t z gs ar lo dO H locs ls hR hP hD hS hl
  obtain ⟨hI, ⟨hs1, hs2, hs3⟩, ⟨hnx, hct, hz1, hh9⟩, ⟨hw1, hw2, hz5, hz6⟩, ⟨hq1, hq2, hF0, hF9⟩, ⟨hn1, hn2, hcp, ht9, htx, ho2⟩⟩ := id hR
  have hmc := hI.mc
  refine lv_aload_n hx hb dL_law_612 rfl (lv_at hl 1 rfl) ?_
  refine lv_aload_n hx hb dL_law_613 rfl (lv_at hl 3 rfl) ?_
  refine run_i (S := (((Nat → Nat) × (Nat → Nat)) × Int32 × (Nat → Int64)) ⊕ Unit) (run_SW (As := [.ref (x 0), .ref ol]) (rest := []) (bs := [loC E ol lo, dbC E od dO, coC E x a a2 a3 b d k pa y w, stC E a g, stC E a2 g2, stC E a3 g3, hhC E b hs hg nx ct, diC E d co re, grC E k so gw, prC E pa q F, sbO E y v ml n, baC E v cp t, moC E mb z g gs ar]) (cb := [loC E ol lo, coC E x a a2 a3 b d k pa y w, hhC E b hs hg nx ct, stC E a g, diC E d co re]) hx hb hml hown hts hK hZ hDD hA (c_L_endQuarter l hst E _ x a a2 a3 b d k pa y w g B hI hs hg nx ct hnx hct co re ol lo) l_L_169 rfl ⟨⟨rfl, rfl⟩, Nat.le_of_ble_eq_true rfl, Nat.le_of_ble_eq_true rfl⟩ [0, 2, 6, 3, 7] rfl (by decide) hP hD hS hl.1 rfl (Nat.le_of_ble_eq_true rfl) dL_law_614 ⟨by show cells + 1 ≤ 603072; omega, by show slots + 6 ≤ 7174250; omega⟩) hA hP hD hS (isC := [0, 2, 6, 3, 7]) rfl [1, 4, 5, 8, 9, 10, 11, 12] [8, 0, 9, 11, 1, 2, 10, 12, 3, 4, 5, 6, 7] (br := [dbC E od dO, stC E a2 g2, stC E a3 g3, grC E k so gw, prC E pa q F, sbO E y v ml n, baC E v cp t, moC E mb z g gs ar]) (bs2 := fun u => Sum.elim (fun (vq : ((Nat → Nat) × (Nat → Nat)) × Int32 × (Nat → Int64)) => [loC E ol vq.2.2, dbC E od dO, coC E x a a2 a3 b d k pa y w, stC E a (payG g), stC E a2 g2, stC E a3 g3, hhC E b hs (upa hg nx g) ((nx + 1) % 8) (if 8 < ct + 1 then 8 else ct + 1), diC E d vq.1.1 vq.1.2, grC E k so gw, prC E pa q F, sbO E y v ml n, baC E v cp t, moC E mb z g gs ar]) (fun (vq : Unit) => [loC E ol lo, dbC E od dO, coC E x a a2 a3 b d k pa y w, stC E a g, stC E a2 g2, stC E a3 g3, hhC E b hs hg nx ct, diC E d co re, grC E k so gw, prC E pa q F, sbO E y v ml n, baC E v cp t, moC E mb z g gs ar]) u) rfl (by decide) (fun u => by rcases u with u | u <;> rfl) (by decide) (fun r u H locs hw hP hD hS => ?_)
  rcases u with vq | vq
  · skip
    obtain ⟨u9, r9, lo9⟩ := vq
    have hw7 : r = nI 0 ∧ (fPay g = 0 ∧ r9 = nI (g 8 2)) ∧ lo9 0 = r9.toInt64 := hw
    clear hw
    obtain ⟨rfl, hw⟩ := hw7
    have hP : va_P E.1 vwCl ([loC E ol lo9, dbC E od dO, coC E x a a2 a3 b d k pa y w, stC E a (payG g), stC E a2 g2, stC E a3 g3, hhC E b hs (upa hg nx g) ((nx + 1) % 8) (if 8 < ct + 1 then 8 else ct + 1), diC E d u9.1 u9.2, grC E k so gw, prC E pa q F, sbO E y v ml n, baC E v cp t, moC E mb z g gs ar] : List va_W).flatten H := hP
    have hD : va_D A ([loC E ol lo9, dbC E od dO, coC E x a a2 a3 b d k pa y w, stC E a (payG g), stC E a2 g2, stC E a3 g3, hhC E b hs (upa hg nx g) ((nx + 1) % 8) (if 8 < ct + 1 then 8 else ct + 1), diC E d u9.1 u9.2, grC E k so gw, prC E pa q F, sbO E y v ml n, baC E v cp t, moC E mb z g gs ar] : List va_W).flatten := hD
    obtain ⟨⟨hcnd, hr9⟩, hlo⟩ := hw
    subst hr9
    refine lv_istore (lv' := [(6, .int (nI 0)), (0, .ref sb), (1, .ref (x 0)), (2, .ref (mb 0)), (3, .ref ol), (4, .ref od), (5, .int (nI i))]) hx hb dL_law_617 hl (by decide) rfl (fun ls hl => ?_)
    refine lv_aload_n hx hb dL_law_619 rfl (lv_at hl 3 rfl) ?_
    refine run_i (S := Unit) (run_V (As := []) (rest := []) (bs := [loC E ol lo9, dbC E od dO, coC E x a a2 a3 b d k pa y w, stC E a (payG g), stC E a2 g2, stC E a3 g3, hhC E b hs (upa hg nx g) ((nx + 1) % 8) (if 8 < ct + 1 then 8 else ct + 1), diC E d u9.1 u9.2, grC E k so gw, prC E pa q F, sbO E y v ml n, baC E v cp t, moC E mb z g gs ar]) (cb := [moC E mb z g gs ar]) hx hb hml hown hts hK hZ hA (c_X6_endQuarter l E _ mb z g gs ar (by omega) B hI) l_L_172 rfl ⟨⟨rfl, rfl⟩, Nat.le_of_ble_eq_true rfl, Nat.le_of_ble_eq_true rfl⟩ 10 rfl [12] rfl (by decide) rfl hP hD hS hl.1 rfl (Nat.le_of_ble_eq_true rfl) dL_law_620 ⟨by show (cells + 1) + 0 ≤ 603072; omega, by show (slots + 6) + 0 ≤ 7174250; omega⟩) hA hP hD hS (isC := [12]) rfl [0, 1, 2, 3, 4, 5, 6, 7, 8, 9, 10, 11] [0, 1, 2, 3, 4, 5, 6, 7, 8, 9, 10, 11, 12] (br := [loC E ol lo9, dbC E od dO, coC E x a a2 a3 b d k pa y w, stC E a (payG g), stC E a2 g2, stC E a3 g3, hhC E b hs (upa hg nx g) ((nx + 1) % 8) (if 8 < ct + 1 then 8 else ct + 1), diC E d u9.1 u9.2, grC E k so gw, prC E pa q F, sbO E y v ml n, baC E v cp t]) (bs2 := fun _ => [loC E ol lo9, dbC E od dO, coC E x a a2 a3 b d k pa y w, stC E a (payG g), stC E a2 g2, stC E a3 g3, hhC E b hs (upa hg nx g) ((nx + 1) % 8) (if 8 < ct + 1 then 8 else ct + 1), diC E d u9.1 u9.2, grC E k so gw, prC E pa q F, sbO E y v ml n, baC E v cp t, moC E mb (mchZ (fPay g) 2 (g 8 2) z) (if fPay g = 0 then payG g else g) (mchS (fPay g) (z 1) g gs) ar]) rfl (by decide) (fun _ => rfl) (by decide) (fun r u6 H locs hw6 hP hD hS => ?_)
    have hw6 : r = nI (if fPay g = 0 then g 8 2 else 0) := hw6
    subst hw6
    rw [if_pos hcnd] at hP hD
    have hP : va_P E.1 vwCl ([loC E ol lo9, dbC E od dO, coC E x a a2 a3 b d k pa y w, stC E a (payG g), stC E a2 g2, stC E a3 g3, hhC E b hs (upa hg nx g) ((nx + 1) % 8) (if 8 < ct + 1 then 8 else ct + 1), diC E d u9.1 u9.2, grC E k so gw, prC E pa q F, sbO E y v ml n, baC E v cp t, moC E mb (mchZ (fPay g) 2 (g 8 2) z) (payG g) (mchS (fPay g) (z 1) g gs) ar] : List va_W).flatten H := hP
    have hD : va_D A ([loC E ol lo9, dbC E od dO, coC E x a a2 a3 b d k pa y w, stC E a (payG g), stC E a2 g2, stC E a3 g3, hhC E b hs (upa hg nx g) ((nx + 1) % 8) (if 8 < ct + 1 then 8 else ct + 1), diC E d u9.1 u9.2, grC E k so gw, prC E pa q F, sbO E y v ml n, baC E v cp t, moC E mb (mchZ (fPay g) 2 (g 8 2) z) (payG g) (mchS (fPay g) (z 1) g gs) ar] : List va_W).flatten := hD
    refine tp_i (show nI (if fPay g = 0 then g 8 2 else 0) = nI (g 8 2) from congrArg nI (if_pos hcnd)) ?_
    refine lv_istore (lv' := [(7, .int (nI (g 8 2))), (6, .int (nI 0)), (0, .ref sb), (1, .ref (x 0)), (2, .ref (mb 0)), (3, .ref ol), (4, .ref od), (5, .int (nI i))]) hx hb dL_law_623 hl (by decide) rfl (fun ls hl => ?_)
    refine lv_aload_n hx hb dL_law_625 rfl (lv_at hl 4 rfl) ?_
    refine run_i (S := Unit) (run_V (As := []) (rest := []) (bs := [loC E ol lo9, dbC E od dO, coC E x a a2 a3 b d k pa y w, stC E a (payG g), stC E a2 g2, stC E a3 g3, hhC E b hs (upa hg nx g) ((nx + 1) % 8) (if 8 < ct + 1 then 8 else ct + 1), diC E d u9.1 u9.2, grC E k so gw, prC E pa q F, sbO E y v ml n, baC E v cp t, moC E mb (mchZ (fPay g) 2 (g 8 2) z) (payG g) (mchS (fPay g) (z 1) g gs) ar]) (cb := [moC E mb (mchZ (fPay g) 2 (g 8 2) z) (payG g) (mchS (fPay g) (z 1) g gs) ar]) hx hb hml hown hts hK hZ hA (c_X6_thrown l E _ mb (mchZ (fPay g) 2 (g 8 2) z) (payG g) (mchS (fPay g) (z 1) g gs) ar) l_L_152 rfl ⟨⟨rfl, rfl⟩, Nat.le_of_ble_eq_true rfl, Nat.le_of_ble_eq_true rfl⟩ 10 rfl [12] rfl (by decide) rfl hP hD hS hl.1 rfl (Nat.le_of_ble_eq_true rfl) dL_law_626 ⟨by show ((cells + 1) + 0) + 0 ≤ 603072; omega, by show ((slots + 6) + 0) + 0 ≤ 7174250; omega⟩) hA hP hD hS (isC := [12]) rfl [0, 1, 2, 3, 4, 5, 6, 7, 8, 9, 10, 11] [0, 1, 2, 3, 4, 5, 6, 7, 8, 9, 10, 11, 12] (br := [loC E ol lo9, dbC E od dO, coC E x a a2 a3 b d k pa y w, stC E a (payG g), stC E a2 g2, stC E a3 g3, hhC E b hs (upa hg nx g) ((nx + 1) % 8) (if 8 < ct + 1 then 8 else ct + 1), diC E d u9.1 u9.2, grC E k so gw, prC E pa q F, sbO E y v ml n, baC E v cp t]) (bs2 := fun _ => [loC E ol lo9, dbC E od dO, coC E x a a2 a3 b d k pa y w, stC E a (payG g), stC E a2 g2, stC E a3 g3, hhC E b hs (upa hg nx g) ((nx + 1) % 8) (if 8 < ct + 1 then 8 else ct + 1), diC E d u9.1 u9.2, grC E k so gw, prC E pa q F, sbO E y v ml n, baC E v cp t, moC E mb (mchZ (fPay g) 2 (g 8 2) z) (payG g) (mchS (fPay g) (z 1) g gs) ar]) rfl (by decide) (fun _ => rfl) (by decide) (fun r u6 H locs hw6 hP hD hS => ?_)
    have hw6 : r = nI ((mchZ (fPay g) 2 (g 8 2) z) 0) := hw6
    subst hw6
    refine lv_iload hx hb dL_law_629 (lv_at hl 1 rfl) ?_
    refine lv_icmp_eq (tgt := 636) hx hb dL_law_631 (by decide) (fun _ => ?_) (fun hc => absurd (show nI ((mchZ (fPay g) 2 (g 8 2) z) 0) = nI 0 from congrArg nI (mchZ_0 hcnd)) hc)
    refine lv_iload hx hb dL_law_636 (lv_at hl 1 rfl) ?_
    refine nv_if_ne (X := ((0 : Nat) : Int)) hx hb (nI_toInt (by omega)) (tgt := 653) dL_law_638 (by decide) (fun c_1 => ?_) (fun c_1 => ?_)
    · exact absurd c_1 (by omega)
    · skip
      refine lv_aload_n hx hb dL_law_641 rfl (lv_at hl 5 rfl) ?_
      refine lv_iconst (v := nI 0) hx hb dL_law_642 (by decide) ?_
      refine va_lald hx hb hK hP 0 4 rfl rfl (vp_in_nI (show 0 < 1 by decide) (by decide)) dL_law_643 ?_
      rw [show lo9 (nI 0).toNatClampNeg = (nI (g 8 2)).toInt64 from by rw [nI_clamp (show 0 < 2 ^ 31 by decide)]; exact hlo]
      refine lv_iload hx hb dL_law_644 (lv_at hl 0 rfl) ?_
      refine lv_i2l hx hb dL_law_646 rfl ?_
      refine W.lcmp hx hb dL_law_647 ?_
      refine tp_i (show lg_cmp ((nI (g 8 2)).toInt64) ((nI (g 8 2)).toInt64) = nI 0 from lg_eq _) ?_
      refine nv_if_eq (X := ((0 : Nat) : Int)) hx hb (nI_toInt (by omega)) (tgt := 653) dL_law_648 (by decide) (fun c_2 => ?_) (fun c_2 => ?_)
      · skip
        refine lv_goto (tgt := 2541) hx hb dL_law_653 (by decide) ?_
        exact W_widen (by omega) (by omega) (kk w (payG g) g2 g3 (upa hg nx g) ((nx + 1) % 8) (if 8 < ct + 1 then 8 else ct + 1) u9.1 u9.2 so gw q F v ml n cp t (mchZ (fPay g) 2 (g 8 2) z) (mchS (fPay g) (z 1) g gs) ar lo9 dO _ _ _ (rel_m hR hB4 hcnd ((IB_pay hI (fPay_0 hcnd) (by omega)).le (by omega) hB4)) hP hD hS (lv_sub hl [2, 3, 4, 5, 6, 7] rfl))
      · exact absurd c_2 (by omega)
  · skip
    have hw : fPay g ≠ 0 ∧ r = nI (fPay g - 2) := hw
    have hP : va_P E.1 vwCl ([loC E ol lo, dbC E od dO, coC E x a a2 a3 b d k pa y w, stC E a g, stC E a2 g2, stC E a3 g3, hhC E b hs hg nx ct, diC E d co re, grC E k so gw, prC E pa q F, sbO E y v ml n, baC E v cp t, moC E mb z g gs ar] : List va_W).flatten H := hP
    have hD : va_D A ([loC E ol lo, dbC E od dO, coC E x a a2 a3 b d k pa y w, stC E a g, stC E a2 g2, stC E a3 g3, hhC E b hs hg nx ct, diC E d co re, grC E k so gw, prC E pa q F, sbO E y v ml n, baC E v cp t, moC E mb z g gs ar] : List va_W).flatten := hD
    obtain ⟨hf, rfl⟩ := hw
    have hf4 : fPay g ≤ 4 ∧ fPay g - 2 ≠ 0 := by rcases (fQ_v : fPay g = 0 ∨ fPay g = 3) with h | h <;> omega
    refine lv_istore (lv' := [(6, .int (nI (fPay g - 2))), (0, .ref sb), (1, .ref (x 0)), (2, .ref (mb 0)), (3, .ref ol), (4, .ref od), (5, .int (nI i))]) hx hb dL_law_617 hl (by decide) rfl (fun ls hl => ?_)
    refine lv_aload_n hx hb dL_law_619 rfl (lv_at hl 3 rfl) ?_
    refine run_i (S := Unit) (run_V (As := []) (rest := []) (bs := [loC E ol lo, dbC E od dO, coC E x a a2 a3 b d k pa y w, stC E a g, stC E a2 g2, stC E a3 g3, hhC E b hs hg nx ct, diC E d co re, grC E k so gw, prC E pa q F, sbO E y v ml n, baC E v cp t, moC E mb z g gs ar]) (cb := [moC E mb z g gs ar]) hx hb hml hown hts hK hZ hA (c_X6_endQuarter l E _ mb z g gs ar (by omega) B hI) l_L_172 rfl ⟨⟨rfl, rfl⟩, Nat.le_of_ble_eq_true rfl, Nat.le_of_ble_eq_true rfl⟩ 10 rfl [12] rfl (by decide) rfl hP hD hS hl.1 rfl (Nat.le_of_ble_eq_true rfl) dL_law_620 ⟨by show (cells + 1) + 0 ≤ 603072; omega, by show (slots + 6) + 0 ≤ 7174250; omega⟩) hA hP hD hS (isC := [12]) rfl [0, 1, 2, 3, 4, 5, 6, 7, 8, 9, 10, 11] [0, 1, 2, 3, 4, 5, 6, 7, 8, 9, 10, 11, 12] (br := [loC E ol lo, dbC E od dO, coC E x a a2 a3 b d k pa y w, stC E a g, stC E a2 g2, stC E a3 g3, hhC E b hs hg nx ct, diC E d co re, grC E k so gw, prC E pa q F, sbO E y v ml n, baC E v cp t]) (bs2 := fun _ => [loC E ol lo, dbC E od dO, coC E x a a2 a3 b d k pa y w, stC E a g, stC E a2 g2, stC E a3 g3, hhC E b hs hg nx ct, diC E d co re, grC E k so gw, prC E pa q F, sbO E y v ml n, baC E v cp t, moC E mb (mchZ (fPay g) 2 (g 8 2) z) (if fPay g = 0 then payG g else g) (mchS (fPay g) (z 1) g gs) ar]) rfl (by decide) (fun _ => rfl) (by decide) (fun r u6 H locs hw6 hP hD hS => ?_)
    have hw6 : r = nI (if fPay g = 0 then g 8 2 else 0) := hw6
    subst hw6
    rw [if_neg hf] at hP hD
    have hP : va_P E.1 vwCl ([loC E ol lo, dbC E od dO, coC E x a a2 a3 b d k pa y w, stC E a g, stC E a2 g2, stC E a3 g3, hhC E b hs hg nx ct, diC E d co re, grC E k so gw, prC E pa q F, sbO E y v ml n, baC E v cp t, moC E mb (mchZ (fPay g) 2 (g 8 2) z) g (mchS (fPay g) (z 1) g gs) ar] : List va_W).flatten H := hP
    have hD : va_D A ([loC E ol lo, dbC E od dO, coC E x a a2 a3 b d k pa y w, stC E a g, stC E a2 g2, stC E a3 g3, hhC E b hs hg nx ct, diC E d co re, grC E k so gw, prC E pa q F, sbO E y v ml n, baC E v cp t, moC E mb (mchZ (fPay g) 2 (g 8 2) z) g (mchS (fPay g) (z 1) g gs) ar] : List va_W).flatten := hD
    refine lv_istore (lv' := [(7, .int (nI (if fPay g = 0 then g 8 2 else 0))), (6, .int (nI (fPay g - 2))), (0, .ref sb), (1, .ref (x 0)), (2, .ref (mb 0)), (3, .ref ol), (4, .ref od), (5, .int (nI i))]) hx hb dL_law_623 hl (by decide) rfl (fun ls hl => ?_)
    refine lv_aload_n hx hb dL_law_625 rfl (lv_at hl 4 rfl) ?_
    refine run_i (S := Unit) (run_V (As := []) (rest := []) (bs := [loC E ol lo, dbC E od dO, coC E x a a2 a3 b d k pa y w, stC E a g, stC E a2 g2, stC E a3 g3, hhC E b hs hg nx ct, diC E d co re, grC E k so gw, prC E pa q F, sbO E y v ml n, baC E v cp t, moC E mb (mchZ (fPay g) 2 (g 8 2) z) g (mchS (fPay g) (z 1) g gs) ar]) (cb := [moC E mb (mchZ (fPay g) 2 (g 8 2) z) g (mchS (fPay g) (z 1) g gs) ar]) hx hb hml hown hts hK hZ hA (c_X6_thrown l E _ mb (mchZ (fPay g) 2 (g 8 2) z) g (mchS (fPay g) (z 1) g gs) ar) l_L_152 rfl ⟨⟨rfl, rfl⟩, Nat.le_of_ble_eq_true rfl, Nat.le_of_ble_eq_true rfl⟩ 10 rfl [12] rfl (by decide) rfl hP hD hS hl.1 rfl (Nat.le_of_ble_eq_true rfl) dL_law_626 ⟨by show ((cells + 1) + 0) + 0 ≤ 603072; omega, by show ((slots + 6) + 0) + 0 ≤ 7174250; omega⟩) hA hP hD hS (isC := [12]) rfl [0, 1, 2, 3, 4, 5, 6, 7, 8, 9, 10, 11] [0, 1, 2, 3, 4, 5, 6, 7, 8, 9, 10, 11, 12] (br := [loC E ol lo, dbC E od dO, coC E x a a2 a3 b d k pa y w, stC E a g, stC E a2 g2, stC E a3 g3, hhC E b hs hg nx ct, diC E d co re, grC E k so gw, prC E pa q F, sbO E y v ml n, baC E v cp t]) (bs2 := fun _ => [loC E ol lo, dbC E od dO, coC E x a a2 a3 b d k pa y w, stC E a g, stC E a2 g2, stC E a3 g3, hhC E b hs hg nx ct, diC E d co re, grC E k so gw, prC E pa q F, sbO E y v ml n, baC E v cp t, moC E mb (mchZ (fPay g) 2 (g 8 2) z) g (mchS (fPay g) (z 1) g gs) ar]) rfl (by decide) (fun _ => rfl) (by decide) (fun r u6 H locs hw6 hP hD hS => ?_)
    have hw6 : r = nI ((mchZ (fPay g) 2 (g 8 2) z) 0) := hw6
    subst hw6
    refine lv_iload hx hb dL_law_629 (lv_at hl 1 rfl) ?_
    refine lv_icmp_eq (tgt := 636) hx hb dL_law_631 (by decide) (fun _ => ?_) (fun hc => absurd (show nI ((mchZ (fPay g) 2 (g 8 2) z) 0) = nI (fPay g - 2) from congrArg nI (mchZ_1 hf)) hc)
    refine lv_iload hx hb dL_law_636 (lv_at hl 1 rfl) ?_
    refine nv_if_ne (X := ((fPay g - 2 : Nat) : Int)) hx hb (nI_toInt (by omega)) (tgt := 653) dL_law_638 (by decide) (fun c_3 => ?_) (fun c_3 => ?_)
    · skip
      refine lv_goto (tgt := 2541) hx hb dL_law_653 (by decide) ?_
      exact W_widen (by omega) (by omega) (kk w g g2 g3 hg nx ct co re so gw q F v ml n cp t (mchZ (fPay g) 2 (g 8 2) z) (mchS (fPay g) (z 1) g gs) ar lo dO _ _ _ (rel_f hR hB4 hf) hP hD hS (lv_sub hl [2, 3, 4, 5, 6, 7] rfl))
    · exact absurd c_3 (by omega)
set_option maxHeartbeats 4000000 in
set_option maxRecDepth 100000 in
theorem st_vote {p : Program} {l : Launch} {e : Env} {s : State} {m : MethodId} {args : Array Value} {below : List Frame} {meth : Method} {c : Code} {E : EE} {A : Nat → Prop} {Q : State → Prop} {x a a2 a3 b d k pa y : Nat → Nat} {hs : Nat → Nat → Nat} {mb : Nat → Nat} {ol od sb : Nat} {i B cells slots L : Nat} {xs : Nat → Int32} (C : LCx p l s m args c E A sb L xs) (hL : L ≤ 2560) (hi : i + 5 ≤ L) (hB4 : B + 420 ≤ 300000) (hrc : cells + 13 ≤ 603072 ∧ slots + 414 ≤ 7174250) (kk : LGo p l e s m args below meth c E A Q x a a2 a3 b d k pa y hs mb ol od sb i (B + 420) (cells + 13) (slots + 414) 2541) : LGo p l e s m args below meth c E A Q x a a2 a3 b d k pa y hs mb ol od sb i B cells slots 656 := by
  obtain ⟨hx, hb, hml, hown, hts, hK, hZ, hDD, hA, hX, hbl, hbA, hst⟩ := C
  intro w g g2 g3 hg nx ct co re so gw q F v ml n cp t z gs ar lo dO H locs ls hR hP hD hS hl
  obtain ⟨hI, ⟨hs1, hs2, hs3⟩, ⟨hnx, hct, hz1, hh9⟩, ⟨hw1, hw2, hz5, hz6⟩, ⟨hq1, hq2, hF0, hF9⟩, ⟨hn1, hn2, hcp, ht9, htx, ho2⟩⟩ := id hR
  have hmc := hI.mc
  obtain ⟨p0, hp0⟩ : ∃ y9, y9 = xs (i + 1) := ⟨_, rfl⟩
  obtain ⟨p1, hp1⟩ : ∃ y9, y9 = xs (i + 2) := ⟨_, rfl⟩
  refine lv_aload_n hx hb dL_law_656 rfl (lv_at hl 1 rfl) ?_
  refine lv_aload_n hx hb dL_law_657 rfl (lv_at hl 0 rfl) ?_
  refine lv_iload hx hb dL_law_658 (lv_at hl 5 rfl) ?_
  refine lv_iconst (v := nI 1) hx hb dL_law_660 (by decide) ?_
  refine nv_iadd hx hb dL_law_661 ?_
  refine va_sld hx hb hX hbl hbA hS (vp_in_nI (show i + 1 < L by omega) (by omega)) dL_law_662 ?_
  refine tp_i (show xs (nI (i + 1)).toNatClampNeg = p0 from by rw [nI_clamp (by omega), hp0]) ?_
  refine lv_aload_n hx hb dL_law_663 rfl (lv_at hl 0 rfl) ?_
  refine lv_iload hx hb dL_law_664 (lv_at hl 5 rfl) ?_
  refine lv_iconst (v := nI 2) hx hb dL_law_666 (by decide) ?_
  refine nv_iadd hx hb dL_law_667 ?_
  refine va_sld hx hb hX hbl hbA hS (vp_in_nI (show i + 2 < L by omega) (by omega)) dL_law_668 ?_
  refine tp_i (show xs (nI (i + 2)).toNatClampNeg = p1 from by rw [nI_clamp (by omega), hp1]) ?_
  refine lv_aload_n hx hb dL_law_669 rfl (lv_at hl 3 rfl) ?_
  refine run_i (S := (Unit × (Nat → Int64)) ⊕ Unit) (run_SW (As := [.ref (x 0), .int p0, .int p1, .ref ol]) (rest := []) (bs := [loC E ol lo, dbC E od dO, coC E x a a2 a3 b d k pa y w, stC E a g, stC E a2 g2, stC E a3 g3, hhC E b hs hg nx ct, diC E d co re, grC E k so gw, prC E pa q F, sbO E y v ml n, baC E v cp t, moC E mb z g gs ar]) (cb := [loC E ol lo, coC E x a a2 a3 b d k pa y w, hhC E b hs hg nx ct, stC E a g]) hx hb hml hown hts hK hZ hDD hA (c_L_vote l hst E _ x a a2 a3 b d k pa y w g B hI hs hg nx ct hnx hct p0 p1 ol lo) l_L_173 rfl ⟨⟨rfl, rfl⟩, Nat.le_of_ble_eq_true rfl, Nat.le_of_ble_eq_true rfl⟩ [0, 2, 6, 3] rfl (by decide) hP hD hS hl.1 rfl (Nat.le_of_ble_eq_true rfl) dL_law_670 ⟨by show cells + 1 ≤ 603072; omega, by show slots + 6 ≤ 7174250; omega⟩) hA hP hD hS (isC := [0, 2, 6, 3]) rfl [1, 4, 5, 7, 8, 9, 10, 11, 12] [9, 0, 10, 12, 1, 2, 11, 3, 4, 5, 6, 7, 8] (br := [dbC E od dO, stC E a2 g2, stC E a3 g3, diC E d co re, grC E k so gw, prC E pa q F, sbO E y v ml n, baC E v cp t, moC E mb z g gs ar]) (bs2 := fun u => Sum.elim (fun (vq : Unit × (Nat → Int64)) => [loC E ol vq.2, dbC E od dO, coC E x a a2 a3 b d k pa y w, stC E a (voteG g (tn p0) (tn p1)), stC E a2 g2, stC E a3 g3, hhC E b hs (upa hg nx g) ((nx + 1) % 8) (if 8 < ct + 1 then 8 else ct + 1), diC E d co re, grC E k so gw, prC E pa q F, sbO E y v ml n, baC E v cp t, moC E mb z g gs ar]) (fun (vq : Unit) => [loC E ol lo, dbC E od dO, coC E x a a2 a3 b d k pa y w, stC E a g, stC E a2 g2, stC E a3 g3, hhC E b hs hg nx ct, diC E d co re, grC E k so gw, prC E pa q F, sbO E y v ml n, baC E v cp t, moC E mb z g gs ar]) u) rfl (by decide) (fun u => by rcases u with u | u <;> rfl) (by decide) (fun r u H locs hw hP hD hS => ?_)
  rcases u with vq | vq
  · skip
    obtain ⟨u9, lo9⟩ := vq
    have hw7 : r = nI 0 ∧ fMot p0 p1 = 0 ∧ lo9 0 = (if decide (quo g ≤ favN g (tn p0) (tn p1)) = true then lN 1 else lN 0) := hw
    clear hw
    obtain ⟨rfl, hw⟩ := hw7
    have hP : va_P E.1 vwCl ([loC E ol lo9, dbC E od dO, coC E x a a2 a3 b d k pa y w, stC E a (voteG g (tn p0) (tn p1)), stC E a2 g2, stC E a3 g3, hhC E b hs (upa hg nx g) ((nx + 1) % 8) (if 8 < ct + 1 then 8 else ct + 1), diC E d co re, grC E k so gw, prC E pa q F, sbO E y v ml n, baC E v cp t, moC E mb z g gs ar] : List va_W).flatten H := hP
    have hD : va_D A ([loC E ol lo9, dbC E od dO, coC E x a a2 a3 b d k pa y w, stC E a (voteG g (tn p0) (tn p1)), stC E a2 g2, stC E a3 g3, hhC E b hs (upa hg nx g) ((nx + 1) % 8) (if 8 < ct + 1 then 8 else ct + 1), diC E d co re, grC E k so gw, prC E pa q F, sbO E y v ml n, baC E v cp t, moC E mb z g gs ar] : List va_W).flatten := hD
    obtain ⟨hcnd, hlo⟩ := hw
    refine lv_istore (lv' := [(6, .int (nI 0)), (0, .ref sb), (1, .ref (x 0)), (2, .ref (mb 0)), (3, .ref ol), (4, .ref od), (5, .int (nI i))]) hx hb dL_law_673 hl (by decide) rfl (fun ls hl => ?_)
    refine lv_aload_n hx hb dL_law_675 rfl (lv_at hl 3 rfl) ?_
    refine lv_aload_n hx hb dL_law_676 rfl (lv_at hl 1 rfl) ?_
    refine lv_iload hx hb dL_law_677 (lv_at hl 6 rfl) ?_
    refine lv_iconst (v := nI 1) hx hb dL_law_679 (by decide) ?_
    refine nv_iadd hx hb dL_law_680 ?_
    refine va_sld hx hb hX hbl hbA hS (vp_in_nI (show i + 1 < L by omega) (by omega)) dL_law_681 ?_
    refine tp_i (show xs (nI (i + 1)).toNatClampNeg = p0 from by rw [nI_clamp (by omega), hp0]) ?_
    refine lv_aload_n hx hb dL_law_682 rfl (lv_at hl 1 rfl) ?_
    refine lv_iload hx hb dL_law_683 (lv_at hl 6 rfl) ?_
    refine lv_iconst (v := nI 2) hx hb dL_law_685 (by decide) ?_
    refine nv_iadd hx hb dL_law_686 ?_
    refine va_sld hx hb hX hbl hbA hS (vp_in_nI (show i + 2 < L by omega) (by omega)) dL_law_687 ?_
    refine tp_i (show xs (nI (i + 2)).toNatClampNeg = p1 from by rw [nI_clamp (by omega), hp1]) ?_
    refine run_i (S := Unit) (run_V (As := [.int p0, .int p1]) (rest := []) (bs := [loC E ol lo9, dbC E od dO, coC E x a a2 a3 b d k pa y w, stC E a (voteG g (tn p0) (tn p1)), stC E a2 g2, stC E a3 g3, hhC E b hs (upa hg nx g) ((nx + 1) % 8) (if 8 < ct + 1 then 8 else ct + 1), diC E d co re, grC E k so gw, prC E pa q F, sbO E y v ml n, baC E v cp t, moC E mb z g gs ar]) (cb := [moC E mb z g gs ar]) hx hb hml hown hts hK hZ hA (c_X6_vote l E _ mb z g gs ar (by omega) B hI p0 p1) l_L_175 rfl ⟨⟨rfl, rfl⟩, Nat.le_of_ble_eq_true rfl, Nat.le_of_ble_eq_true rfl⟩ 10 rfl [12] rfl (by decide) rfl hP hD hS hl.1 rfl (Nat.le_of_ble_eq_true rfl) dL_law_688 ⟨by show (cells + 1) + 0 ≤ 603072; omega, by show (slots + 6) + 0 ≤ 7174250; omega⟩) hA hP hD hS (isC := [12]) rfl [0, 1, 2, 3, 4, 5, 6, 7, 8, 9, 10, 11] [0, 1, 2, 3, 4, 5, 6, 7, 8, 9, 10, 11, 12] (br := [loC E ol lo9, dbC E od dO, coC E x a a2 a3 b d k pa y w, stC E a (voteG g (tn p0) (tn p1)), stC E a2 g2, stC E a3 g3, hhC E b hs (upa hg nx g) ((nx + 1) % 8) (if 8 < ct + 1 then 8 else ct + 1), diC E d co re, grC E k so gw, prC E pa q F, sbO E y v ml n, baC E v cp t]) (bs2 := fun _ => [loC E ol lo9, dbC E od dO, coC E x a a2 a3 b d k pa y w, stC E a (voteG g (tn p0) (tn p1)), stC E a2 g2, stC E a3 g3, hhC E b hs (upa hg nx g) ((nx + 1) % 8) (if 8 < ct + 1 then 8 else ct + 1), diC E d co re, grC E k so gw, prC E pa q F, sbO E y v ml n, baC E v cp t, moC E mb (mchZ (fMot p0 p1) 1 (aVot g (tn p0) (tn p1)) z) (if fMot p0 p1 = 0 then voteG g (tn p0) (tn p1) else g) (mchS (fMot p0 p1) (z 1) g gs) ar]) rfl (by decide) (fun _ => rfl) (by decide) (fun r u6 H locs hw6 hP hD hS => ?_)
    have hw6 : r = bI (decide (voR g p0 p1 = 1)) := hw6
    subst hw6
    rw [if_pos hcnd] at hP hD
    have hP : va_P E.1 vwCl ([loC E ol lo9, dbC E od dO, coC E x a a2 a3 b d k pa y w, stC E a (voteG g (tn p0) (tn p1)), stC E a2 g2, stC E a3 g3, hhC E b hs (upa hg nx g) ((nx + 1) % 8) (if 8 < ct + 1 then 8 else ct + 1), diC E d co re, grC E k so gw, prC E pa q F, sbO E y v ml n, baC E v cp t, moC E mb (mchZ (fMot p0 p1) 1 (aVot g (tn p0) (tn p1)) z) (voteG g (tn p0) (tn p1)) (mchS (fMot p0 p1) (z 1) g gs) ar] : List va_W).flatten H := hP
    have hD : va_D A ([loC E ol lo9, dbC E od dO, coC E x a a2 a3 b d k pa y w, stC E a (voteG g (tn p0) (tn p1)), stC E a2 g2, stC E a3 g3, hhC E b hs (upa hg nx g) ((nx + 1) % 8) (if 8 < ct + 1 then 8 else ct + 1), diC E d co re, grC E k so gw, prC E pa q F, sbO E y v ml n, baC E v cp t, moC E mb (mchZ (fMot p0 p1) 1 (aVot g (tn p0) (tn p1)) z) (voteG g (tn p0) (tn p1)) (mchS (fMot p0 p1) (z 1) g gs) ar] : List va_W).flatten := hD
    refine tp_i (show bI (decide (voR g p0 p1 = 1)) = bI (decide (quo g ≤ favN g (tn p0) (tn p1))) from congrArg bI (vo_eq hcnd)) ?_
    refine lv_istore (lv' := [(7, .int (bI (decide (quo g ≤ favN g (tn p0) (tn p1))))), (6, .int (nI 0)), (0, .ref sb), (1, .ref (x 0)), (2, .ref (mb 0)), (3, .ref ol), (4, .ref od), (5, .int (nI i))]) hx hb dL_law_691 hl (by decide) rfl (fun ls hl => ?_)
    refine lv_aload_n hx hb dL_law_693 rfl (lv_at hl 4 rfl) ?_
    refine run_i (S := Unit) (run_V (As := []) (rest := []) (bs := [loC E ol lo9, dbC E od dO, coC E x a a2 a3 b d k pa y w, stC E a (voteG g (tn p0) (tn p1)), stC E a2 g2, stC E a3 g3, hhC E b hs (upa hg nx g) ((nx + 1) % 8) (if 8 < ct + 1 then 8 else ct + 1), diC E d co re, grC E k so gw, prC E pa q F, sbO E y v ml n, baC E v cp t, moC E mb (mchZ (fMot p0 p1) 1 (aVot g (tn p0) (tn p1)) z) (voteG g (tn p0) (tn p1)) (mchS (fMot p0 p1) (z 1) g gs) ar]) (cb := [moC E mb (mchZ (fMot p0 p1) 1 (aVot g (tn p0) (tn p1)) z) (voteG g (tn p0) (tn p1)) (mchS (fMot p0 p1) (z 1) g gs) ar]) hx hb hml hown hts hK hZ hA (c_X6_thrown l E _ mb (mchZ (fMot p0 p1) 1 (aVot g (tn p0) (tn p1)) z) (voteG g (tn p0) (tn p1)) (mchS (fMot p0 p1) (z 1) g gs) ar) l_L_152 rfl ⟨⟨rfl, rfl⟩, Nat.le_of_ble_eq_true rfl, Nat.le_of_ble_eq_true rfl⟩ 10 rfl [12] rfl (by decide) rfl hP hD hS hl.1 rfl (Nat.le_of_ble_eq_true rfl) dL_law_694 ⟨by show ((cells + 1) + 0) + 0 ≤ 603072; omega, by show ((slots + 6) + 0) + 0 ≤ 7174250; omega⟩) hA hP hD hS (isC := [12]) rfl [0, 1, 2, 3, 4, 5, 6, 7, 8, 9, 10, 11] [0, 1, 2, 3, 4, 5, 6, 7, 8, 9, 10, 11, 12] (br := [loC E ol lo9, dbC E od dO, coC E x a a2 a3 b d k pa y w, stC E a (voteG g (tn p0) (tn p1)), stC E a2 g2, stC E a3 g3, hhC E b hs (upa hg nx g) ((nx + 1) % 8) (if 8 < ct + 1 then 8 else ct + 1), diC E d co re, grC E k so gw, prC E pa q F, sbO E y v ml n, baC E v cp t]) (bs2 := fun _ => [loC E ol lo9, dbC E od dO, coC E x a a2 a3 b d k pa y w, stC E a (voteG g (tn p0) (tn p1)), stC E a2 g2, stC E a3 g3, hhC E b hs (upa hg nx g) ((nx + 1) % 8) (if 8 < ct + 1 then 8 else ct + 1), diC E d co re, grC E k so gw, prC E pa q F, sbO E y v ml n, baC E v cp t, moC E mb (mchZ (fMot p0 p1) 1 (aVot g (tn p0) (tn p1)) z) (voteG g (tn p0) (tn p1)) (mchS (fMot p0 p1) (z 1) g gs) ar]) rfl (by decide) (fun _ => rfl) (by decide) (fun r u6 H locs hw6 hP hD hS => ?_)
    have hw6 : r = nI ((mchZ (fMot p0 p1) 1 (aVot g (tn p0) (tn p1)) z) 0) := hw6
    subst hw6
    refine lv_iload hx hb dL_law_697 (lv_at hl 1 rfl) ?_
    refine lv_icmp_eq (tgt := 704) hx hb dL_law_699 (by decide) (fun _ => ?_) (fun hc => absurd (show nI ((mchZ (fMot p0 p1) 1 (aVot g (tn p0) (tn p1)) z) 0) = nI 0 from congrArg nI (mchZ_0 hcnd)) hc)
    refine lv_iload hx hb dL_law_704 (lv_at hl 1 rfl) ?_
    refine nv_if_ne (X := ((0 : Nat) : Int)) hx hb (nI_toInt (by omega)) (tgt := 728) dL_law_706 (by decide) (fun c_1 => ?_) (fun c_1 => ?_)
    · exact absurd c_1 (by omega)
    · skip
      refine lv_aload_n hx hb dL_law_709 rfl (lv_at hl 5 rfl) ?_
      refine lv_iconst (v := nI 0) hx hb dL_law_710 (by decide) ?_
      refine va_lald hx hb hK hP 0 4 rfl rfl (vp_in_nI (show 0 < 1 by decide) (by decide)) dL_law_711 ?_
      rw [show lo9 (nI 0).toNatClampNeg = (if decide (quo g ≤ favN g (tn p0) (tn p1)) = true then lN 1 else lN 0) from by rw [nI_clamp (show 0 < 2 ^ 31 by decide)]; exact hlo]
      refine lv_iload hx hb dL_law_712 (lv_at hl 0 rfl) ?_
      refine bv_if_eq hx hb (tgt := 721) dL_law_714 (by decide) (fun c_2 => ?_) (fun c_2 => ?_)
      · skip
        refine lv_lconst (v := lN 0) hx hb dL_law_721 (by decide) ?_
        refine W.lcmp hx hb dL_law_722 ?_
        refine tp_i (show lg_cmp (if decide (quo g ≤ favN g (tn p0) (tn p1)) = true then lN 1 else lN 0) (lN 0) = nI 0 from (by first | (rw [if_pos (by assumption)]; exact lg_eq _) | (rw [if_neg (ne_true_of_eq_false (by assumption))]; exact lg_eq _))) ?_
        refine nv_if_eq (X := ((0 : Nat) : Int)) hx hb (nI_toInt (by omega)) (tgt := 728) dL_law_723 (by decide) (fun c_3 => ?_) (fun c_3 => ?_)
        · skip
          refine lv_goto (tgt := 2541) hx hb dL_law_728 (by decide) ?_
          exact W_widen (by omega) (by omega) (kk w (voteG g (tn p0) (tn p1)) g2 g3 (upa hg nx g) ((nx + 1) % 8) (if 8 < ct + 1 then 8 else ct + 1) co re so gw q F v ml n cp t (mchZ (fMot p0 p1) 1 (aVot g (tn p0) (tn p1)) z) (mchS (fMot p0 p1) (z 1) g gs) ar lo9 dO _ _ _ (rel_m hR hB4 hcnd (by have h9 := fMot_0 hcnd; have e0 := tn_t (x := p0) (by omega); exact (IB_vote hI (by omega) (by omega)).le (by omega) hB4)) hP hD hS (lv_sub hl [2, 3, 4, 5, 6, 7] rfl))
        · exact absurd c_3 (by omega)
      · skip
        refine lv_lconst (v := lN 1) hx hb dL_law_717 (by decide) ?_
        refine lv_goto (tgt := 722) hx hb dL_law_718 (by decide) ?_
        refine W.lcmp hx hb dL_law_722 ?_
        refine tp_i (show lg_cmp (if decide (quo g ≤ favN g (tn p0) (tn p1)) = true then lN 1 else lN 0) (lN 1) = nI 0 from (by first | (rw [if_pos (by assumption)]; exact lg_eq _) | (rw [if_neg (ne_true_of_eq_false (by assumption))]; exact lg_eq _))) ?_
        refine nv_if_eq (X := ((0 : Nat) : Int)) hx hb (nI_toInt (by omega)) (tgt := 728) dL_law_723 (by decide) (fun c_4 => ?_) (fun c_4 => ?_)
        · skip
          refine lv_goto (tgt := 2541) hx hb dL_law_728 (by decide) ?_
          exact W_widen (by omega) (by omega) (kk w (voteG g (tn p0) (tn p1)) g2 g3 (upa hg nx g) ((nx + 1) % 8) (if 8 < ct + 1 then 8 else ct + 1) co re so gw q F v ml n cp t (mchZ (fMot p0 p1) 1 (aVot g (tn p0) (tn p1)) z) (mchS (fMot p0 p1) (z 1) g gs) ar lo9 dO _ _ _ (rel_m hR hB4 hcnd (by have h9 := fMot_0 hcnd; have e0 := tn_t (x := p0) (by omega); exact (IB_vote hI (by omega) (by omega)).le (by omega) hB4)) hP hD hS (lv_sub hl [2, 3, 4, 5, 6, 7] rfl))
        · exact absurd c_4 (by omega)
  · skip
    have hw : fMot p0 p1 ≠ 0 ∧ r = nI (fMot p0 p1 - 1) := hw
    have hP : va_P E.1 vwCl ([loC E ol lo, dbC E od dO, coC E x a a2 a3 b d k pa y w, stC E a g, stC E a2 g2, stC E a3 g3, hhC E b hs hg nx ct, diC E d co re, grC E k so gw, prC E pa q F, sbO E y v ml n, baC E v cp t, moC E mb z g gs ar] : List va_W).flatten H := hP
    have hD : va_D A ([loC E ol lo, dbC E od dO, coC E x a a2 a3 b d k pa y w, stC E a g, stC E a2 g2, stC E a3 g3, hhC E b hs hg nx ct, diC E d co re, grC E k so gw, prC E pa q F, sbO E y v ml n, baC E v cp t, moC E mb z g gs ar] : List va_W).flatten := hD
    obtain ⟨hf, rfl⟩ := hw
    have hf4 : fMot p0 p1 ≤ 4 ∧ fMot p0 p1 - 1 ≠ 0 := by rcases (fM_v : fMot p0 p1 = 0 ∨ fMot p0 p1 = 2) with h | h <;> omega
    refine lv_istore (lv' := [(6, .int (nI (fMot p0 p1 - 1))), (0, .ref sb), (1, .ref (x 0)), (2, .ref (mb 0)), (3, .ref ol), (4, .ref od), (5, .int (nI i))]) hx hb dL_law_673 hl (by decide) rfl (fun ls hl => ?_)
    refine lv_aload_n hx hb dL_law_675 rfl (lv_at hl 3 rfl) ?_
    refine lv_aload_n hx hb dL_law_676 rfl (lv_at hl 1 rfl) ?_
    refine lv_iload hx hb dL_law_677 (lv_at hl 6 rfl) ?_
    refine lv_iconst (v := nI 1) hx hb dL_law_679 (by decide) ?_
    refine nv_iadd hx hb dL_law_680 ?_
    refine va_sld hx hb hX hbl hbA hS (vp_in_nI (show i + 1 < L by omega) (by omega)) dL_law_681 ?_
    refine tp_i (show xs (nI (i + 1)).toNatClampNeg = p0 from by rw [nI_clamp (by omega), hp0]) ?_
    refine lv_aload_n hx hb dL_law_682 rfl (lv_at hl 1 rfl) ?_
    refine lv_iload hx hb dL_law_683 (lv_at hl 6 rfl) ?_
    refine lv_iconst (v := nI 2) hx hb dL_law_685 (by decide) ?_
    refine nv_iadd hx hb dL_law_686 ?_
    refine va_sld hx hb hX hbl hbA hS (vp_in_nI (show i + 2 < L by omega) (by omega)) dL_law_687 ?_
    refine tp_i (show xs (nI (i + 2)).toNatClampNeg = p1 from by rw [nI_clamp (by omega), hp1]) ?_
    refine run_i (S := Unit) (run_V (As := [.int p0, .int p1]) (rest := []) (bs := [loC E ol lo, dbC E od dO, coC E x a a2 a3 b d k pa y w, stC E a g, stC E a2 g2, stC E a3 g3, hhC E b hs hg nx ct, diC E d co re, grC E k so gw, prC E pa q F, sbO E y v ml n, baC E v cp t, moC E mb z g gs ar]) (cb := [moC E mb z g gs ar]) hx hb hml hown hts hK hZ hA (c_X6_vote l E _ mb z g gs ar (by omega) B hI p0 p1) l_L_175 rfl ⟨⟨rfl, rfl⟩, Nat.le_of_ble_eq_true rfl, Nat.le_of_ble_eq_true rfl⟩ 10 rfl [12] rfl (by decide) rfl hP hD hS hl.1 rfl (Nat.le_of_ble_eq_true rfl) dL_law_688 ⟨by show (cells + 1) + 0 ≤ 603072; omega, by show (slots + 6) + 0 ≤ 7174250; omega⟩) hA hP hD hS (isC := [12]) rfl [0, 1, 2, 3, 4, 5, 6, 7, 8, 9, 10, 11] [0, 1, 2, 3, 4, 5, 6, 7, 8, 9, 10, 11, 12] (br := [loC E ol lo, dbC E od dO, coC E x a a2 a3 b d k pa y w, stC E a g, stC E a2 g2, stC E a3 g3, hhC E b hs hg nx ct, diC E d co re, grC E k so gw, prC E pa q F, sbO E y v ml n, baC E v cp t]) (bs2 := fun _ => [loC E ol lo, dbC E od dO, coC E x a a2 a3 b d k pa y w, stC E a g, stC E a2 g2, stC E a3 g3, hhC E b hs hg nx ct, diC E d co re, grC E k so gw, prC E pa q F, sbO E y v ml n, baC E v cp t, moC E mb (mchZ (fMot p0 p1) 1 (aVot g (tn p0) (tn p1)) z) (if fMot p0 p1 = 0 then voteG g (tn p0) (tn p1) else g) (mchS (fMot p0 p1) (z 1) g gs) ar]) rfl (by decide) (fun _ => rfl) (by decide) (fun r u6 H locs hw6 hP hD hS => ?_)
    have hw6 : r = bI (decide (voR g p0 p1 = 1)) := hw6
    subst hw6
    rw [if_neg hf] at hP hD
    have hP : va_P E.1 vwCl ([loC E ol lo, dbC E od dO, coC E x a a2 a3 b d k pa y w, stC E a g, stC E a2 g2, stC E a3 g3, hhC E b hs hg nx ct, diC E d co re, grC E k so gw, prC E pa q F, sbO E y v ml n, baC E v cp t, moC E mb (mchZ (fMot p0 p1) 1 (aVot g (tn p0) (tn p1)) z) g (mchS (fMot p0 p1) (z 1) g gs) ar] : List va_W).flatten H := hP
    have hD : va_D A ([loC E ol lo, dbC E od dO, coC E x a a2 a3 b d k pa y w, stC E a g, stC E a2 g2, stC E a3 g3, hhC E b hs hg nx ct, diC E d co re, grC E k so gw, prC E pa q F, sbO E y v ml n, baC E v cp t, moC E mb (mchZ (fMot p0 p1) 1 (aVot g (tn p0) (tn p1)) z) g (mchS (fMot p0 p1) (z 1) g gs) ar] : List va_W).flatten := hD
    refine lv_istore (lv' := [(7, .int (bI (decide (voR g p0 p1 = 1)))), (6, .int (nI (fMot p0 p1 - 1))), (0, .ref sb), (1, .ref (x 0)), (2, .ref (mb 0)), (3, .ref ol), (4, .ref od), (5, .int (nI i))]) hx hb dL_law_691 hl (by decide) rfl (fun ls hl => ?_)
    refine lv_aload_n hx hb dL_law_693 rfl (lv_at hl 4 rfl) ?_
    refine run_i (S := Unit) (run_V (As := []) (rest := []) (bs := [loC E ol lo, dbC E od dO, coC E x a a2 a3 b d k pa y w, stC E a g, stC E a2 g2, stC E a3 g3, hhC E b hs hg nx ct, diC E d co re, grC E k so gw, prC E pa q F, sbO E y v ml n, baC E v cp t, moC E mb (mchZ (fMot p0 p1) 1 (aVot g (tn p0) (tn p1)) z) g (mchS (fMot p0 p1) (z 1) g gs) ar]) (cb := [moC E mb (mchZ (fMot p0 p1) 1 (aVot g (tn p0) (tn p1)) z) g (mchS (fMot p0 p1) (z 1) g gs) ar]) hx hb hml hown hts hK hZ hA (c_X6_thrown l E _ mb (mchZ (fMot p0 p1) 1 (aVot g (tn p0) (tn p1)) z) g (mchS (fMot p0 p1) (z 1) g gs) ar) l_L_152 rfl ⟨⟨rfl, rfl⟩, Nat.le_of_ble_eq_true rfl, Nat.le_of_ble_eq_true rfl⟩ 10 rfl [12] rfl (by decide) rfl hP hD hS hl.1 rfl (Nat.le_of_ble_eq_true rfl) dL_law_694 ⟨by show ((cells + 1) + 0) + 0 ≤ 603072; omega, by show ((slots + 6) + 0) + 0 ≤ 7174250; omega⟩) hA hP hD hS (isC := [12]) rfl [0, 1, 2, 3, 4, 5, 6, 7, 8, 9, 10, 11] [0, 1, 2, 3, 4, 5, 6, 7, 8, 9, 10, 11, 12] (br := [loC E ol lo, dbC E od dO, coC E x a a2 a3 b d k pa y w, stC E a g, stC E a2 g2, stC E a3 g3, hhC E b hs hg nx ct, diC E d co re, grC E k so gw, prC E pa q F, sbO E y v ml n, baC E v cp t]) (bs2 := fun _ => [loC E ol lo, dbC E od dO, coC E x a a2 a3 b d k pa y w, stC E a g, stC E a2 g2, stC E a3 g3, hhC E b hs hg nx ct, diC E d co re, grC E k so gw, prC E pa q F, sbO E y v ml n, baC E v cp t, moC E mb (mchZ (fMot p0 p1) 1 (aVot g (tn p0) (tn p1)) z) g (mchS (fMot p0 p1) (z 1) g gs) ar]) rfl (by decide) (fun _ => rfl) (by decide) (fun r u6 H locs hw6 hP hD hS => ?_)
    have hw6 : r = nI ((mchZ (fMot p0 p1) 1 (aVot g (tn p0) (tn p1)) z) 0) := hw6
    subst hw6
    refine lv_iload hx hb dL_law_697 (lv_at hl 1 rfl) ?_
    refine lv_icmp_eq (tgt := 704) hx hb dL_law_699 (by decide) (fun _ => ?_) (fun hc => absurd (show nI ((mchZ (fMot p0 p1) 1 (aVot g (tn p0) (tn p1)) z) 0) = nI (fMot p0 p1 - 1) from congrArg nI (mchZ_1 hf)) hc)
    refine lv_iload hx hb dL_law_704 (lv_at hl 1 rfl) ?_
    refine nv_if_ne (X := ((fMot p0 p1 - 1 : Nat) : Int)) hx hb (nI_toInt (by omega)) (tgt := 728) dL_law_706 (by decide) (fun c_5 => ?_) (fun c_5 => ?_)
    · skip
      refine lv_goto (tgt := 2541) hx hb dL_law_728 (by decide) ?_
      exact W_widen (by omega) (by omega) (kk w g g2 g3 hg nx ct co re so gw q F v ml n cp t (mchZ (fMot p0 p1) 1 (aVot g (tn p0) (tn p1)) z) (mchS (fMot p0 p1) (z 1) g gs) ar lo dO _ _ _ (rel_f hR hB4 hf) hP hD hS (lv_sub hl [2, 3, 4, 5, 6, 7] rfl))
    · exact absurd c_5 (by omega)
set_option maxHeartbeats 4000000 in
set_option maxRecDepth 100000 in
theorem st_memberCount {p : Program} {l : Launch} {e : Env} {s : State} {m : MethodId} {args : Array Value} {below : List Frame} {meth : Method} {c : Code} {E : EE} {A : Nat → Prop} {Q : State → Prop} {x a a2 a3 b d k pa y : Nat → Nat} {hs : Nat → Nat → Nat} {mb : Nat → Nat} {ol od sb : Nat} {i B cells slots L : Nat} {xs : Nat → Int32} (C : LCx p l s m args c E A sb L xs) (hL : L ≤ 2560) (hi : i + 5 ≤ L) (hB4 : B + 420 ≤ 300000) (hrc : cells + 13 ≤ 603072 ∧ slots + 414 ≤ 7174250) (kk : LGo p l e s m args below meth c E A Q x a a2 a3 b d k pa y hs mb ol od sb i (B + 420) (cells + 13) (slots + 414) 2541) : LGo p l e s m args below meth c E A Q x a a2 a3 b d k pa y hs mb ol od sb i B cells slots 731 := by
  obtain ⟨hx, hb, hml, hown, hts, hK, hZ, hDD, hA, hX, hbl, hbA, hst⟩ := C
  intro w g g2 g3 hg nx ct co re so gw q F v ml n cp t z gs ar lo dO H locs ls hR hP hD hS hl
  obtain ⟨hI, ⟨hs1, hs2, hs3⟩, ⟨hnx, hct, hz1, hh9⟩, ⟨hw1, hw2, hz5, hz6⟩, ⟨hq1, hq2, hF0, hF9⟩, ⟨hn1, hn2, hcp, ht9, htx, ho2⟩⟩ := id hR
  have hmc := hI.mc
  refine lv_aload_n hx hb dL_law_731 rfl (lv_at hl 1 rfl) ?_
  refine run_i (S := Unit) (run_V (As := []) (rest := []) (bs := [loC E ol lo, dbC E od dO, coC E x a a2 a3 b d k pa y w, stC E a g, stC E a2 g2, stC E a3 g3, hhC E b hs hg nx ct, diC E d co re, grC E k so gw, prC E pa q F, sbO E y v ml n, baC E v cp t, moC E mb z g gs ar]) (cb := [coC E x a a2 a3 b d k pa y w, stC E a g]) hx hb hml hown hts hK hZ hA (c_X5_memberCount l E _ x a a2 a3 b d k pa y w g B hI) l_L_176 rfl ⟨⟨rfl, rfl⟩, Nat.le_of_ble_eq_true rfl, Nat.le_of_ble_eq_true rfl⟩ 9 rfl [2, 3] rfl (by decide) rfl hP hD hS hl.1 rfl (Nat.le_of_ble_eq_true rfl) dL_law_732 ⟨by show cells + 0 ≤ 603072; omega, by show slots + 0 ≤ 7174250; omega⟩) hA hP hD hS (isC := [2, 3]) rfl [0, 1, 4, 5, 6, 7, 8, 9, 10, 11, 12] [0, 1, 11, 12, 2, 3, 4, 5, 6, 7, 8, 9, 10] (br := [loC E ol lo, dbC E od dO, stC E a2 g2, stC E a3 g3, hhC E b hs hg nx ct, diC E d co re, grC E k so gw, prC E pa q F, sbO E y v ml n, baC E v cp t, moC E mb z g gs ar]) (bs2 := fun _ => [loC E ol lo, dbC E od dO, coC E x a a2 a3 b d k pa y w, stC E a g, stC E a2 g2, stC E a3 g3, hhC E b hs hg nx ct, diC E d co re, grC E k so gw, prC E pa q F, sbO E y v ml n, baC E v cp t, moC E mb z g gs ar]) rfl (by decide) (fun _ => rfl) (by decide) (fun r u5 H locs hw6 hP hD hS => ?_)
  have hw6 : r = nI (g 8 0) := hw6
  subst hw6
  refine lv_aload_n hx hb dL_law_735 rfl (lv_at hl 2 rfl) ?_
  refine run_i (S := Unit) (run_V (As := []) (rest := [.int (nI (g 8 0))]) (bs := [loC E ol lo, dbC E od dO, coC E x a a2 a3 b d k pa y w, stC E a g, stC E a2 g2, stC E a3 g3, hhC E b hs hg nx ct, diC E d co re, grC E k so gw, prC E pa q F, sbO E y v ml n, baC E v cp t, moC E mb z g gs ar]) (cb := [moC E mb z g gs ar]) hx hb hml hown hts hK hZ hA (c_X6_memberCount l E _ mb z g gs ar) l_L_179 rfl ⟨⟨rfl, rfl⟩, Nat.le_of_ble_eq_true rfl, Nat.le_of_ble_eq_true rfl⟩ 10 rfl [12] rfl (by decide) rfl hP hD hS hl.1 rfl (Nat.le_of_ble_eq_true rfl) dL_law_736 ⟨by show (cells + 0) + 0 ≤ 603072; omega, by show (slots + 0) + 0 ≤ 7174250; omega⟩) hA hP hD hS (isC := [12]) rfl [0, 1, 2, 3, 4, 5, 6, 7, 8, 9, 10, 11] [0, 1, 2, 3, 4, 5, 6, 7, 8, 9, 10, 11, 12] (br := [loC E ol lo, dbC E od dO, coC E x a a2 a3 b d k pa y w, stC E a g, stC E a2 g2, stC E a3 g3, hhC E b hs hg nx ct, diC E d co re, grC E k so gw, prC E pa q F, sbO E y v ml n, baC E v cp t]) (bs2 := fun _ => [loC E ol lo, dbC E od dO, coC E x a a2 a3 b d k pa y w, stC E a g, stC E a2 g2, stC E a3 g3, hhC E b hs hg nx ct, diC E d co re, grC E k so gw, prC E pa q F, sbO E y v ml n, baC E v cp t, moC E mb (upn z 0 0) g gs ar]) rfl (by decide) (fun _ => rfl) (by decide) (fun r u6 H locs hw6 hP hD hS => ?_)
  have hw6 : r = nI (g 8 0) := hw6
  subst hw6
  refine lv_icmp_eq (tgt := 2541) hx hb dL_law_739 (by decide) (fun _ => ?_) (fun hc => absurd (show nI (g 8 0) = nI (g 8 0) from rfl) hc)
  exact W_widen (by omega) (by omega) (kk w g g2 g3 hg nx ct co re so gw q F v ml n cp t (upn z 0 0) gs ar lo dO _ _ _ (rel_q hR hB4) hP hD hS (lv_sub hl [0, 1, 2, 3, 4, 5] rfl))
set_option maxHeartbeats 4000000 in
set_option maxRecDepth 100000 in
theorem st_shares {p : Program} {l : Launch} {e : Env} {s : State} {m : MethodId} {args : Array Value} {below : List Frame} {meth : Method} {c : Code} {E : EE} {A : Nat → Prop} {Q : State → Prop} {x a a2 a3 b d k pa y : Nat → Nat} {hs : Nat → Nat → Nat} {mb : Nat → Nat} {ol od sb : Nat} {i B cells slots L : Nat} {xs : Nat → Int32} (C : LCx p l s m args c E A sb L xs) (hL : L ≤ 2560) (hi : i + 5 ≤ L) (hB4 : B + 420 ≤ 300000) (hrc : cells + 13 ≤ 603072 ∧ slots + 414 ≤ 7174250) (kk : LGo p l e s m args below meth c E A Q x a a2 a3 b d k pa y hs mb ol od sb i (B + 420) (cells + 13) (slots + 414) 2541) : LGo p l e s m args below meth c E A Q x a a2 a3 b d k pa y hs mb ol od sb i B cells slots 744 := by
  obtain ⟨hx, hb, hml, hown, hts, hK, hZ, hDD, hA, hX, hbl, hbA, hst⟩ := C
  intro w g g2 g3 hg nx ct co re so gw q F v ml n cp t z gs ar lo dO H locs ls hR hP hD hS hl
  obtain ⟨hI, ⟨hs1, hs2, hs3⟩, ⟨hnx, hct, hz1, hh9⟩, ⟨hw1, hw2, hz5, hz6⟩, ⟨hq1, hq2, hF0, hF9⟩, ⟨hn1, hn2, hcp, ht9, htx, ho2⟩⟩ := id hR
  have hmc := hI.mc
  obtain ⟨p0, hp0⟩ : ∃ y9, y9 = xs (i + 1) := ⟨_, rfl⟩
  refine lv_aload_n hx hb dL_law_744 rfl (lv_at hl 1 rfl) ?_
  refine lv_aload_n hx hb dL_law_745 rfl (lv_at hl 0 rfl) ?_
  refine lv_iload hx hb dL_law_746 (lv_at hl 5 rfl) ?_
  refine lv_iconst (v := nI 1) hx hb dL_law_748 (by decide) ?_
  refine nv_iadd hx hb dL_law_749 ?_
  refine va_sld hx hb hX hbl hbA hS (vp_in_nI (show i + 1 < L by omega) (by omega)) dL_law_750 ?_
  refine tp_i (show xs (nI (i + 1)).toNatClampNeg = p0 from by rw [nI_clamp (by omega), hp0]) ?_
  refine lv_aload_n hx hb dL_law_751 rfl (lv_at hl 3 rfl) ?_
  refine run_i (S := (Unit × Int32 × (Nat → Int64)) ⊕ Unit) (run_SW (As := [.ref (x 0), .int p0, .ref ol]) (rest := []) (bs := [loC E ol lo, dbC E od dO, coC E x a a2 a3 b d k pa y w, stC E a g, stC E a2 g2, stC E a3 g3, hhC E b hs hg nx ct, diC E d co re, grC E k so gw, prC E pa q F, sbO E y v ml n, baC E v cp t, moC E mb z g gs ar]) (cb := [loC E ol lo, coC E x a a2 a3 b d k pa y w, stC E a g]) hx hb hml hown hts hK hZ hDD hA (c_L_shares l hst E _ x a a2 a3 b d k pa y w g B hI p0 ol lo) l_L_180 rfl ⟨⟨rfl, rfl⟩, Nat.le_of_ble_eq_true rfl, Nat.le_of_ble_eq_true rfl⟩ [0, 2, 3] rfl (by decide) hP hD hS hl.1 rfl (Nat.le_of_ble_eq_true rfl) dL_law_752 ⟨by show cells + 1 ≤ 603072; omega, by show slots + 6 ≤ 7174250; omega⟩) hA hP hD hS (isC := [0, 2, 3]) rfl [1, 4, 5, 6, 7, 8, 9, 10, 11, 12] [10, 0, 11, 12, 1, 2, 3, 4, 5, 6, 7, 8, 9] (br := [dbC E od dO, stC E a2 g2, stC E a3 g3, hhC E b hs hg nx ct, diC E d co re, grC E k so gw, prC E pa q F, sbO E y v ml n, baC E v cp t, moC E mb z g gs ar]) (bs2 := fun u => Sum.elim (fun (vq : Unit × Int32 × (Nat → Int64)) => [loC E ol vq.2.2, dbC E od dO, coC E x a a2 a3 b d k pa y w, stC E a g, stC E a2 g2, stC E a3 g3, hhC E b hs hg nx ct, diC E d co re, grC E k so gw, prC E pa q F, sbO E y v ml n, baC E v cp t, moC E mb z g gs ar]) (fun (vq : Unit) => [loC E ol lo, dbC E od dO, coC E x a a2 a3 b d k pa y w, stC E a g, stC E a2 g2, stC E a3 g3, hhC E b hs hg nx ct, diC E d co re, grC E k so gw, prC E pa q F, sbO E y v ml n, baC E v cp t, moC E mb z g gs ar]) u) rfl (by decide) (fun u => by rcases u with u | u <;> rfl) (by decide) (fun r u H locs hw hP hD hS => ?_)
  rcases u with vq | vq
  · skip
    obtain ⟨u9, r9, lo9⟩ := vq
    have hw7 : r = nI 0 ∧ (hasM g p0 = true ∧ r9 = nI (g 0 (tn p0))) ∧ lo9 0 = r9.toInt64 := hw
    clear hw
    obtain ⟨rfl, hw⟩ := hw7
    have hP : va_P E.1 vwCl ([loC E ol lo9, dbC E od dO, coC E x a a2 a3 b d k pa y w, stC E a g, stC E a2 g2, stC E a3 g3, hhC E b hs hg nx ct, diC E d co re, grC E k so gw, prC E pa q F, sbO E y v ml n, baC E v cp t, moC E mb z g gs ar] : List va_W).flatten H := hP
    have hD : va_D A ([loC E ol lo9, dbC E od dO, coC E x a a2 a3 b d k pa y w, stC E a g, stC E a2 g2, stC E a3 g3, hhC E b hs hg nx ct, diC E d co re, grC E k so gw, prC E pa q F, sbO E y v ml n, baC E v cp t, moC E mb z g gs ar] : List va_W).flatten := hD
    obtain ⟨⟨hcnd, hr9⟩, hlo⟩ := hw
    subst hr9
    refine lv_istore (lv' := [(6, .int (nI 0)), (0, .ref sb), (1, .ref (x 0)), (2, .ref (mb 0)), (3, .ref ol), (4, .ref od), (5, .int (nI i))]) hx hb dL_law_755 hl (by decide) rfl (fun ls hl => ?_)
    refine lv_aload_n hx hb dL_law_757 rfl (lv_at hl 3 rfl) ?_
    refine lv_aload_n hx hb dL_law_758 rfl (lv_at hl 1 rfl) ?_
    refine lv_iload hx hb dL_law_759 (lv_at hl 6 rfl) ?_
    refine lv_iconst (v := nI 1) hx hb dL_law_761 (by decide) ?_
    refine nv_iadd hx hb dL_law_762 ?_
    refine va_sld hx hb hX hbl hbA hS (vp_in_nI (show i + 1 < L by omega) (by omega)) dL_law_763 ?_
    refine tp_i (show xs (nI (i + 1)).toNatClampNeg = p0 from by rw [nI_clamp (by omega), hp0]) ?_
    refine run_i (S := Unit) (run_V (As := [.int p0]) (rest := []) (bs := [loC E ol lo9, dbC E od dO, coC E x a a2 a3 b d k pa y w, stC E a g, stC E a2 g2, stC E a3 g3, hhC E b hs hg nx ct, diC E d co re, grC E k so gw, prC E pa q F, sbO E y v ml n, baC E v cp t, moC E mb z g gs ar]) (cb := [moC E mb z g gs ar]) hx hb hml hown hts hK hZ hA (c_X6_shares l E _ mb z g gs ar p0 hmc) l_L_182 rfl ⟨⟨rfl, rfl⟩, Nat.le_of_ble_eq_true rfl, Nat.le_of_ble_eq_true rfl⟩ 10 rfl [12] rfl (by decide) rfl hP hD hS hl.1 rfl (Nat.le_of_ble_eq_true rfl) dL_law_764 ⟨by show (cells + 1) + 0 ≤ 603072; omega, by show (slots + 6) + 0 ≤ 7174250; omega⟩) hA hP hD hS (isC := [12]) rfl [0, 1, 2, 3, 4, 5, 6, 7, 8, 9, 10, 11] [0, 1, 2, 3, 4, 5, 6, 7, 8, 9, 10, 11, 12] (br := [loC E ol lo9, dbC E od dO, coC E x a a2 a3 b d k pa y w, stC E a g, stC E a2 g2, stC E a3 g3, hhC E b hs hg nx ct, diC E d co re, grC E k so gw, prC E pa q F, sbO E y v ml n, baC E v cp t]) (bs2 := fun _ => [loC E ol lo9, dbC E od dO, coC E x a a2 a3 b d k pa y w, stC E a g, stC E a2 g2, stC E a3 g3, hhC E b hs hg nx ct, diC E d co re, grC E k so gw, prC E pa q F, sbO E y v ml n, baC E v cp t, moC E mb (upn z 0 (if hasM g p0 = true then 0 else 1)) g gs ar]) rfl (by decide) (fun _ => rfl) (by decide) (fun r u6 H locs hw6 hP hD hS => ?_)
    have hw6 : r = nI (if hasM g p0 = true then g 0 (tn p0) else 0) := hw6
    subst hw6
    refine tp_i (show nI (if hasM g p0 = true then g 0 (tn p0) else 0) = nI (g 0 (tn p0)) from congrArg nI (if_pos hcnd)) ?_
    refine lv_istore (lv' := [(7, .int (nI (g 0 (tn p0)))), (6, .int (nI 0)), (0, .ref sb), (1, .ref (x 0)), (2, .ref (mb 0)), (3, .ref ol), (4, .ref od), (5, .int (nI i))]) hx hb dL_law_767 hl (by decide) rfl (fun ls hl => ?_)
    refine lv_aload_n hx hb dL_law_769 rfl (lv_at hl 4 rfl) ?_
    refine run_i (S := Unit) (run_V (As := []) (rest := []) (bs := [loC E ol lo9, dbC E od dO, coC E x a a2 a3 b d k pa y w, stC E a g, stC E a2 g2, stC E a3 g3, hhC E b hs hg nx ct, diC E d co re, grC E k so gw, prC E pa q F, sbO E y v ml n, baC E v cp t, moC E mb (upn z 0 (if hasM g p0 = true then 0 else 1)) g gs ar]) (cb := [moC E mb (upn z 0 (if hasM g p0 = true then 0 else 1)) g gs ar]) hx hb hml hown hts hK hZ hA (c_X6_thrown l E _ mb (upn z 0 (if hasM g p0 = true then 0 else 1)) g gs ar) l_L_152 rfl ⟨⟨rfl, rfl⟩, Nat.le_of_ble_eq_true rfl, Nat.le_of_ble_eq_true rfl⟩ 10 rfl [12] rfl (by decide) rfl hP hD hS hl.1 rfl (Nat.le_of_ble_eq_true rfl) dL_law_770 ⟨by show ((cells + 1) + 0) + 0 ≤ 603072; omega, by show ((slots + 6) + 0) + 0 ≤ 7174250; omega⟩) hA hP hD hS (isC := [12]) rfl [0, 1, 2, 3, 4, 5, 6, 7, 8, 9, 10, 11] [0, 1, 2, 3, 4, 5, 6, 7, 8, 9, 10, 11, 12] (br := [loC E ol lo9, dbC E od dO, coC E x a a2 a3 b d k pa y w, stC E a g, stC E a2 g2, stC E a3 g3, hhC E b hs hg nx ct, diC E d co re, grC E k so gw, prC E pa q F, sbO E y v ml n, baC E v cp t]) (bs2 := fun _ => [loC E ol lo9, dbC E od dO, coC E x a a2 a3 b d k pa y w, stC E a g, stC E a2 g2, stC E a3 g3, hhC E b hs hg nx ct, diC E d co re, grC E k so gw, prC E pa q F, sbO E y v ml n, baC E v cp t, moC E mb (upn z 0 (if hasM g p0 = true then 0 else 1)) g gs ar]) rfl (by decide) (fun _ => rfl) (by decide) (fun r u6 H locs hw6 hP hD hS => ?_)
    have hw6 : r = nI ((upn z 0 (if hasM g p0 = true then 0 else 1)) 0) := hw6
    subst hw6
    refine lv_iload hx hb dL_law_773 (lv_at hl 1 rfl) ?_
    refine lv_icmp_eq (tgt := 780) hx hb dL_law_775 (by decide) (fun _ => ?_) (fun hc => absurd (show nI ((upn z 0 (if hasM g p0 = true then 0 else 1)) 0) = nI 0 from congrArg nI (upn_s.trans (if_pos hcnd))) hc)
    refine lv_iload hx hb dL_law_780 (lv_at hl 1 rfl) ?_
    refine nv_if_ne (X := ((0 : Nat) : Int)) hx hb (nI_toInt (by omega)) (tgt := 797) dL_law_782 (by decide) (fun c_1 => ?_) (fun c_1 => ?_)
    · exact absurd c_1 (by omega)
    · skip
      refine lv_aload_n hx hb dL_law_785 rfl (lv_at hl 5 rfl) ?_
      refine lv_iconst (v := nI 0) hx hb dL_law_786 (by decide) ?_
      refine va_lald hx hb hK hP 0 4 rfl rfl (vp_in_nI (show 0 < 1 by decide) (by decide)) dL_law_787 ?_
      rw [show lo9 (nI 0).toNatClampNeg = (nI (g 0 (tn p0))).toInt64 from by rw [nI_clamp (show 0 < 2 ^ 31 by decide)]; exact hlo]
      refine lv_iload hx hb dL_law_788 (lv_at hl 0 rfl) ?_
      refine lv_i2l hx hb dL_law_790 rfl ?_
      refine W.lcmp hx hb dL_law_791 ?_
      refine tp_i (show lg_cmp ((nI (g 0 (tn p0))).toInt64) ((nI (g 0 (tn p0))).toInt64) = nI 0 from lg_eq _) ?_
      refine nv_if_eq (X := ((0 : Nat) : Int)) hx hb (nI_toInt (by omega)) (tgt := 797) dL_law_792 (by decide) (fun c_2 => ?_) (fun c_2 => ?_)
      · skip
        refine lv_goto (tgt := 2541) hx hb dL_law_797 (by decide) ?_
        exact W_widen (by omega) (by omega) (kk w g g2 g3 hg nx ct co re so gw q F v ml n cp t (upn z 0 (if hasM g p0 = true then 0 else 1)) gs ar lo9 dO _ _ _ (rel_q hR hB4) hP hD hS (lv_sub hl [2, 3, 4, 5, 6, 7] rfl))
      · exact absurd c_2 (by omega)
  · skip
    have hw : r = nI 1 ∧ hasM g p0 = false := hw
    have hP : va_P E.1 vwCl ([loC E ol lo, dbC E od dO, coC E x a a2 a3 b d k pa y w, stC E a g, stC E a2 g2, stC E a3 g3, hhC E b hs hg nx ct, diC E d co re, grC E k so gw, prC E pa q F, sbO E y v ml n, baC E v cp t, moC E mb z g gs ar] : List va_W).flatten H := hP
    have hD : va_D A ([loC E ol lo, dbC E od dO, coC E x a a2 a3 b d k pa y w, stC E a g, stC E a2 g2, stC E a3 g3, hhC E b hs hg nx ct, diC E d co re, grC E k so gw, prC E pa q F, sbO E y v ml n, baC E v cp t, moC E mb z g gs ar] : List va_W).flatten := hD
    obtain ⟨rfl, hq⟩ := hw
    refine lv_istore (lv' := [(6, .int (nI 1)), (0, .ref sb), (1, .ref (x 0)), (2, .ref (mb 0)), (3, .ref ol), (4, .ref od), (5, .int (nI i))]) hx hb dL_law_755 hl (by decide) rfl (fun ls hl => ?_)
    refine lv_aload_n hx hb dL_law_757 rfl (lv_at hl 3 rfl) ?_
    refine lv_aload_n hx hb dL_law_758 rfl (lv_at hl 1 rfl) ?_
    refine lv_iload hx hb dL_law_759 (lv_at hl 6 rfl) ?_
    refine lv_iconst (v := nI 1) hx hb dL_law_761 (by decide) ?_
    refine nv_iadd hx hb dL_law_762 ?_
    refine va_sld hx hb hX hbl hbA hS (vp_in_nI (show i + 1 < L by omega) (by omega)) dL_law_763 ?_
    refine tp_i (show xs (nI (i + 1)).toNatClampNeg = p0 from by rw [nI_clamp (by omega), hp0]) ?_
    refine run_i (S := Unit) (run_V (As := [.int p0]) (rest := []) (bs := [loC E ol lo, dbC E od dO, coC E x a a2 a3 b d k pa y w, stC E a g, stC E a2 g2, stC E a3 g3, hhC E b hs hg nx ct, diC E d co re, grC E k so gw, prC E pa q F, sbO E y v ml n, baC E v cp t, moC E mb z g gs ar]) (cb := [moC E mb z g gs ar]) hx hb hml hown hts hK hZ hA (c_X6_shares l E _ mb z g gs ar p0 hmc) l_L_182 rfl ⟨⟨rfl, rfl⟩, Nat.le_of_ble_eq_true rfl, Nat.le_of_ble_eq_true rfl⟩ 10 rfl [12] rfl (by decide) rfl hP hD hS hl.1 rfl (Nat.le_of_ble_eq_true rfl) dL_law_764 ⟨by show (cells + 1) + 0 ≤ 603072; omega, by show (slots + 6) + 0 ≤ 7174250; omega⟩) hA hP hD hS (isC := [12]) rfl [0, 1, 2, 3, 4, 5, 6, 7, 8, 9, 10, 11] [0, 1, 2, 3, 4, 5, 6, 7, 8, 9, 10, 11, 12] (br := [loC E ol lo, dbC E od dO, coC E x a a2 a3 b d k pa y w, stC E a g, stC E a2 g2, stC E a3 g3, hhC E b hs hg nx ct, diC E d co re, grC E k so gw, prC E pa q F, sbO E y v ml n, baC E v cp t]) (bs2 := fun _ => [loC E ol lo, dbC E od dO, coC E x a a2 a3 b d k pa y w, stC E a g, stC E a2 g2, stC E a3 g3, hhC E b hs hg nx ct, diC E d co re, grC E k so gw, prC E pa q F, sbO E y v ml n, baC E v cp t, moC E mb (upn z 0 (if hasM g p0 = true then 0 else 1)) g gs ar]) rfl (by decide) (fun _ => rfl) (by decide) (fun r u6 H locs hw6 hP hD hS => ?_)
    have hw6 : r = nI (if hasM g p0 = true then g 0 (tn p0) else 0) := hw6
    subst hw6
    refine lv_istore (lv' := [(7, .int (nI (if hasM g p0 = true then g 0 (tn p0) else 0))), (6, .int (nI 1)), (0, .ref sb), (1, .ref (x 0)), (2, .ref (mb 0)), (3, .ref ol), (4, .ref od), (5, .int (nI i))]) hx hb dL_law_767 hl (by decide) rfl (fun ls hl => ?_)
    refine lv_aload_n hx hb dL_law_769 rfl (lv_at hl 4 rfl) ?_
    refine run_i (S := Unit) (run_V (As := []) (rest := []) (bs := [loC E ol lo, dbC E od dO, coC E x a a2 a3 b d k pa y w, stC E a g, stC E a2 g2, stC E a3 g3, hhC E b hs hg nx ct, diC E d co re, grC E k so gw, prC E pa q F, sbO E y v ml n, baC E v cp t, moC E mb (upn z 0 (if hasM g p0 = true then 0 else 1)) g gs ar]) (cb := [moC E mb (upn z 0 (if hasM g p0 = true then 0 else 1)) g gs ar]) hx hb hml hown hts hK hZ hA (c_X6_thrown l E _ mb (upn z 0 (if hasM g p0 = true then 0 else 1)) g gs ar) l_L_152 rfl ⟨⟨rfl, rfl⟩, Nat.le_of_ble_eq_true rfl, Nat.le_of_ble_eq_true rfl⟩ 10 rfl [12] rfl (by decide) rfl hP hD hS hl.1 rfl (Nat.le_of_ble_eq_true rfl) dL_law_770 ⟨by show ((cells + 1) + 0) + 0 ≤ 603072; omega, by show ((slots + 6) + 0) + 0 ≤ 7174250; omega⟩) hA hP hD hS (isC := [12]) rfl [0, 1, 2, 3, 4, 5, 6, 7, 8, 9, 10, 11] [0, 1, 2, 3, 4, 5, 6, 7, 8, 9, 10, 11, 12] (br := [loC E ol lo, dbC E od dO, coC E x a a2 a3 b d k pa y w, stC E a g, stC E a2 g2, stC E a3 g3, hhC E b hs hg nx ct, diC E d co re, grC E k so gw, prC E pa q F, sbO E y v ml n, baC E v cp t]) (bs2 := fun _ => [loC E ol lo, dbC E od dO, coC E x a a2 a3 b d k pa y w, stC E a g, stC E a2 g2, stC E a3 g3, hhC E b hs hg nx ct, diC E d co re, grC E k so gw, prC E pa q F, sbO E y v ml n, baC E v cp t, moC E mb (upn z 0 (if hasM g p0 = true then 0 else 1)) g gs ar]) rfl (by decide) (fun _ => rfl) (by decide) (fun r u6 H locs hw6 hP hD hS => ?_)
    have hw6 : r = nI ((upn z 0 (if hasM g p0 = true then 0 else 1)) 0) := hw6
    subst hw6
    refine lv_iload hx hb dL_law_773 (lv_at hl 1 rfl) ?_
    refine lv_icmp_eq (tgt := 780) hx hb dL_law_775 (by decide) (fun _ => ?_) (fun hc => absurd (show nI ((upn z 0 (if hasM g p0 = true then 0 else 1)) 0) = nI 1 from congrArg nI (upn_s.trans (if_neg (fun h9 => by rw [hq] at h9; cases h9)))) hc)
    refine lv_iload hx hb dL_law_780 (lv_at hl 1 rfl) ?_
    refine nv_if_ne (X := ((1 : Nat) : Int)) hx hb (nI_toInt (by omega)) (tgt := 797) dL_law_782 (by decide) (fun c_3 => ?_) (fun c_3 => ?_)
    · skip
      refine lv_goto (tgt := 2541) hx hb dL_law_797 (by decide) ?_
      exact W_widen (by omega) (by omega) (kk w g g2 g3 hg nx ct co re so gw q F v ml n cp t (upn z 0 (if hasM g p0 = true then 0 else 1)) gs ar lo dO _ _ _ (rel_q hR hB4) hP hD hS (lv_sub hl [2, 3, 4, 5, 6, 7] rfl))
    · exact absurd c_3 (by omega)
set_option maxHeartbeats 4000000 in
set_option maxRecDepth 100000 in
theorem st_spring {p : Program} {l : Launch} {e : Env} {s : State} {m : MethodId} {args : Array Value} {below : List Frame} {meth : Method} {c : Code} {E : EE} {A : Nat → Prop} {Q : State → Prop} {x a a2 a3 b d k pa y : Nat → Nat} {hs : Nat → Nat → Nat} {mb : Nat → Nat} {ol od sb : Nat} {i B cells slots L : Nat} {xs : Nat → Int32} (C : LCx p l s m args c E A sb L xs) (hL : L ≤ 2560) (hi : i + 5 ≤ L) (hB4 : B + 420 ≤ 300000) (hrc : cells + 13 ≤ 603072 ∧ slots + 414 ≤ 7174250) (kk : LGo p l e s m args below meth c E A Q x a a2 a3 b d k pa y hs mb ol od sb i (B + 420) (cells + 13) (slots + 414) 2541) : LGo p l e s m args below meth c E A Q x a a2 a3 b d k pa y hs mb ol od sb i B cells slots 800 := by
  obtain ⟨hx, hb, hml, hown, hts, hK, hZ, hDD, hA, hX, hbl, hbA, hst⟩ := C
  intro w g g2 g3 hg nx ct co re so gw q F v ml n cp t z gs ar lo dO H locs ls hR hP hD hS hl
  obtain ⟨hI, ⟨hs1, hs2, hs3⟩, ⟨hnx, hct, hz1, hh9⟩, ⟨hw1, hw2, hz5, hz6⟩, ⟨hq1, hq2, hF0, hF9⟩, ⟨hn1, hn2, hcp, ht9, htx, ho2⟩⟩ := id hR
  have hmc := hI.mc
  obtain ⟨p0, hp0⟩ : ∃ y9, y9 = xs (i + 1) := ⟨_, rfl⟩
  refine lv_aload_n hx hb dL_law_800 rfl (lv_at hl 1 rfl) ?_
  refine lv_aload_n hx hb dL_law_801 rfl (lv_at hl 0 rfl) ?_
  refine lv_iload hx hb dL_law_802 (lv_at hl 5 rfl) ?_
  refine lv_iconst (v := nI 1) hx hb dL_law_804 (by decide) ?_
  refine nv_iadd hx hb dL_law_805 ?_
  refine va_sld hx hb hX hbl hbA hS (vp_in_nI (show i + 1 < L by omega) (by omega)) dL_law_806 ?_
  refine tp_i (show xs (nI (i + 1)).toNatClampNeg = p0 from by rw [nI_clamp (by omega), hp0]) ?_
  refine lv_aload_n hx hb dL_law_807 rfl (lv_at hl 3 rfl) ?_
  refine run_i (S := (Unit × Int32 × (Nat → Int64)) ⊕ Unit) (run_SW (As := [.ref (x 0), .int p0, .ref ol]) (rest := []) (bs := [loC E ol lo, dbC E od dO, coC E x a a2 a3 b d k pa y w, stC E a g, stC E a2 g2, stC E a3 g3, hhC E b hs hg nx ct, diC E d co re, grC E k so gw, prC E pa q F, sbO E y v ml n, baC E v cp t, moC E mb z g gs ar]) (cb := [loC E ol lo, coC E x a a2 a3 b d k pa y w, stC E a g]) hx hb hml hown hts hK hZ hDD hA (c_L_spring l hst E _ x a a2 a3 b d k pa y w g B hI p0 ol lo) l_L_183 rfl ⟨⟨rfl, rfl⟩, Nat.le_of_ble_eq_true rfl, Nat.le_of_ble_eq_true rfl⟩ [0, 2, 3] rfl (by decide) hP hD hS hl.1 rfl (Nat.le_of_ble_eq_true rfl) dL_law_808 ⟨by show cells + 1 ≤ 603072; omega, by show slots + 6 ≤ 7174250; omega⟩) hA hP hD hS (isC := [0, 2, 3]) rfl [1, 4, 5, 6, 7, 8, 9, 10, 11, 12] [10, 0, 11, 12, 1, 2, 3, 4, 5, 6, 7, 8, 9] (br := [dbC E od dO, stC E a2 g2, stC E a3 g3, hhC E b hs hg nx ct, diC E d co re, grC E k so gw, prC E pa q F, sbO E y v ml n, baC E v cp t, moC E mb z g gs ar]) (bs2 := fun u => Sum.elim (fun (vq : Unit × Int32 × (Nat → Int64)) => [loC E ol vq.2.2, dbC E od dO, coC E x a a2 a3 b d k pa y w, stC E a g, stC E a2 g2, stC E a3 g3, hhC E b hs hg nx ct, diC E d co re, grC E k so gw, prC E pa q F, sbO E y v ml n, baC E v cp t, moC E mb z g gs ar]) (fun (vq : Unit) => [loC E ol lo, dbC E od dO, coC E x a a2 a3 b d k pa y w, stC E a g, stC E a2 g2, stC E a3 g3, hhC E b hs hg nx ct, diC E d co re, grC E k so gw, prC E pa q F, sbO E y v ml n, baC E v cp t, moC E mb z g gs ar]) u) rfl (by decide) (fun u => by rcases u with u | u <;> rfl) (by decide) (fun r u H locs hw hP hD hS => ?_)
  rcases u with vq | vq
  · skip
    obtain ⟨u9, r9, lo9⟩ := vq
    have hw7 : r = nI 0 ∧ (hasM g p0 = true ∧ r9 = nI (g 4 (tn p0))) ∧ lo9 0 = r9.toInt64 := hw
    clear hw
    obtain ⟨rfl, hw⟩ := hw7
    have hP : va_P E.1 vwCl ([loC E ol lo9, dbC E od dO, coC E x a a2 a3 b d k pa y w, stC E a g, stC E a2 g2, stC E a3 g3, hhC E b hs hg nx ct, diC E d co re, grC E k so gw, prC E pa q F, sbO E y v ml n, baC E v cp t, moC E mb z g gs ar] : List va_W).flatten H := hP
    have hD : va_D A ([loC E ol lo9, dbC E od dO, coC E x a a2 a3 b d k pa y w, stC E a g, stC E a2 g2, stC E a3 g3, hhC E b hs hg nx ct, diC E d co re, grC E k so gw, prC E pa q F, sbO E y v ml n, baC E v cp t, moC E mb z g gs ar] : List va_W).flatten := hD
    obtain ⟨⟨hcnd, hr9⟩, hlo⟩ := hw
    subst hr9
    refine lv_istore (lv' := [(6, .int (nI 0)), (0, .ref sb), (1, .ref (x 0)), (2, .ref (mb 0)), (3, .ref ol), (4, .ref od), (5, .int (nI i))]) hx hb dL_law_811 hl (by decide) rfl (fun ls hl => ?_)
    refine lv_aload_n hx hb dL_law_813 rfl (lv_at hl 3 rfl) ?_
    refine lv_aload_n hx hb dL_law_814 rfl (lv_at hl 1 rfl) ?_
    refine lv_iload hx hb dL_law_815 (lv_at hl 6 rfl) ?_
    refine lv_iconst (v := nI 1) hx hb dL_law_817 (by decide) ?_
    refine nv_iadd hx hb dL_law_818 ?_
    refine va_sld hx hb hX hbl hbA hS (vp_in_nI (show i + 1 < L by omega) (by omega)) dL_law_819 ?_
    refine tp_i (show xs (nI (i + 1)).toNatClampNeg = p0 from by rw [nI_clamp (by omega), hp0]) ?_
    refine run_i (S := Unit) (run_V (As := [.int p0]) (rest := []) (bs := [loC E ol lo9, dbC E od dO, coC E x a a2 a3 b d k pa y w, stC E a g, stC E a2 g2, stC E a3 g3, hhC E b hs hg nx ct, diC E d co re, grC E k so gw, prC E pa q F, sbO E y v ml n, baC E v cp t, moC E mb z g gs ar]) (cb := [moC E mb z g gs ar]) hx hb hml hown hts hK hZ hA (c_X6_spring l E _ mb z g gs ar p0 hmc) l_L_185 rfl ⟨⟨rfl, rfl⟩, Nat.le_of_ble_eq_true rfl, Nat.le_of_ble_eq_true rfl⟩ 10 rfl [12] rfl (by decide) rfl hP hD hS hl.1 rfl (Nat.le_of_ble_eq_true rfl) dL_law_820 ⟨by show (cells + 1) + 0 ≤ 603072; omega, by show (slots + 6) + 0 ≤ 7174250; omega⟩) hA hP hD hS (isC := [12]) rfl [0, 1, 2, 3, 4, 5, 6, 7, 8, 9, 10, 11] [0, 1, 2, 3, 4, 5, 6, 7, 8, 9, 10, 11, 12] (br := [loC E ol lo9, dbC E od dO, coC E x a a2 a3 b d k pa y w, stC E a g, stC E a2 g2, stC E a3 g3, hhC E b hs hg nx ct, diC E d co re, grC E k so gw, prC E pa q F, sbO E y v ml n, baC E v cp t]) (bs2 := fun _ => [loC E ol lo9, dbC E od dO, coC E x a a2 a3 b d k pa y w, stC E a g, stC E a2 g2, stC E a3 g3, hhC E b hs hg nx ct, diC E d co re, grC E k so gw, prC E pa q F, sbO E y v ml n, baC E v cp t, moC E mb (upn z 0 (if hasM g p0 = true then 0 else 1)) g gs ar]) rfl (by decide) (fun _ => rfl) (by decide) (fun r u6 H locs hw6 hP hD hS => ?_)
    have hw6 : r = nI (if hasM g p0 = true then g 4 (tn p0) else 0) := hw6
    subst hw6
    refine tp_i (show nI (if hasM g p0 = true then g 4 (tn p0) else 0) = nI (g 4 (tn p0)) from congrArg nI (if_pos hcnd)) ?_
    refine lv_istore (lv' := [(7, .int (nI (g 4 (tn p0)))), (6, .int (nI 0)), (0, .ref sb), (1, .ref (x 0)), (2, .ref (mb 0)), (3, .ref ol), (4, .ref od), (5, .int (nI i))]) hx hb dL_law_823 hl (by decide) rfl (fun ls hl => ?_)
    refine lv_aload_n hx hb dL_law_825 rfl (lv_at hl 4 rfl) ?_
    refine run_i (S := Unit) (run_V (As := []) (rest := []) (bs := [loC E ol lo9, dbC E od dO, coC E x a a2 a3 b d k pa y w, stC E a g, stC E a2 g2, stC E a3 g3, hhC E b hs hg nx ct, diC E d co re, grC E k so gw, prC E pa q F, sbO E y v ml n, baC E v cp t, moC E mb (upn z 0 (if hasM g p0 = true then 0 else 1)) g gs ar]) (cb := [moC E mb (upn z 0 (if hasM g p0 = true then 0 else 1)) g gs ar]) hx hb hml hown hts hK hZ hA (c_X6_thrown l E _ mb (upn z 0 (if hasM g p0 = true then 0 else 1)) g gs ar) l_L_152 rfl ⟨⟨rfl, rfl⟩, Nat.le_of_ble_eq_true rfl, Nat.le_of_ble_eq_true rfl⟩ 10 rfl [12] rfl (by decide) rfl hP hD hS hl.1 rfl (Nat.le_of_ble_eq_true rfl) dL_law_826 ⟨by show ((cells + 1) + 0) + 0 ≤ 603072; omega, by show ((slots + 6) + 0) + 0 ≤ 7174250; omega⟩) hA hP hD hS (isC := [12]) rfl [0, 1, 2, 3, 4, 5, 6, 7, 8, 9, 10, 11] [0, 1, 2, 3, 4, 5, 6, 7, 8, 9, 10, 11, 12] (br := [loC E ol lo9, dbC E od dO, coC E x a a2 a3 b d k pa y w, stC E a g, stC E a2 g2, stC E a3 g3, hhC E b hs hg nx ct, diC E d co re, grC E k so gw, prC E pa q F, sbO E y v ml n, baC E v cp t]) (bs2 := fun _ => [loC E ol lo9, dbC E od dO, coC E x a a2 a3 b d k pa y w, stC E a g, stC E a2 g2, stC E a3 g3, hhC E b hs hg nx ct, diC E d co re, grC E k so gw, prC E pa q F, sbO E y v ml n, baC E v cp t, moC E mb (upn z 0 (if hasM g p0 = true then 0 else 1)) g gs ar]) rfl (by decide) (fun _ => rfl) (by decide) (fun r u6 H locs hw6 hP hD hS => ?_)
    have hw6 : r = nI ((upn z 0 (if hasM g p0 = true then 0 else 1)) 0) := hw6
    subst hw6
    refine lv_iload hx hb dL_law_829 (lv_at hl 1 rfl) ?_
    refine lv_icmp_eq (tgt := 836) hx hb dL_law_831 (by decide) (fun _ => ?_) (fun hc => absurd (show nI ((upn z 0 (if hasM g p0 = true then 0 else 1)) 0) = nI 0 from congrArg nI (upn_s.trans (if_pos hcnd))) hc)
    refine lv_iload hx hb dL_law_836 (lv_at hl 1 rfl) ?_
    refine nv_if_ne (X := ((0 : Nat) : Int)) hx hb (nI_toInt (by omega)) (tgt := 853) dL_law_838 (by decide) (fun c_1 => ?_) (fun c_1 => ?_)
    · exact absurd c_1 (by omega)
    · skip
      refine lv_aload_n hx hb dL_law_841 rfl (lv_at hl 5 rfl) ?_
      refine lv_iconst (v := nI 0) hx hb dL_law_842 (by decide) ?_
      refine va_lald hx hb hK hP 0 4 rfl rfl (vp_in_nI (show 0 < 1 by decide) (by decide)) dL_law_843 ?_
      rw [show lo9 (nI 0).toNatClampNeg = (nI (g 4 (tn p0))).toInt64 from by rw [nI_clamp (show 0 < 2 ^ 31 by decide)]; exact hlo]
      refine lv_iload hx hb dL_law_844 (lv_at hl 0 rfl) ?_
      refine lv_i2l hx hb dL_law_846 rfl ?_
      refine W.lcmp hx hb dL_law_847 ?_
      refine tp_i (show lg_cmp ((nI (g 4 (tn p0))).toInt64) ((nI (g 4 (tn p0))).toInt64) = nI 0 from lg_eq _) ?_
      refine nv_if_eq (X := ((0 : Nat) : Int)) hx hb (nI_toInt (by omega)) (tgt := 853) dL_law_848 (by decide) (fun c_2 => ?_) (fun c_2 => ?_)
      · skip
        refine lv_goto (tgt := 2541) hx hb dL_law_853 (by decide) ?_
        exact W_widen (by omega) (by omega) (kk w g g2 g3 hg nx ct co re so gw q F v ml n cp t (upn z 0 (if hasM g p0 = true then 0 else 1)) gs ar lo9 dO _ _ _ (rel_q hR hB4) hP hD hS (lv_sub hl [2, 3, 4, 5, 6, 7] rfl))
      · exact absurd c_2 (by omega)
  · skip
    have hw : r = nI 1 ∧ hasM g p0 = false := hw
    have hP : va_P E.1 vwCl ([loC E ol lo, dbC E od dO, coC E x a a2 a3 b d k pa y w, stC E a g, stC E a2 g2, stC E a3 g3, hhC E b hs hg nx ct, diC E d co re, grC E k so gw, prC E pa q F, sbO E y v ml n, baC E v cp t, moC E mb z g gs ar] : List va_W).flatten H := hP
    have hD : va_D A ([loC E ol lo, dbC E od dO, coC E x a a2 a3 b d k pa y w, stC E a g, stC E a2 g2, stC E a3 g3, hhC E b hs hg nx ct, diC E d co re, grC E k so gw, prC E pa q F, sbO E y v ml n, baC E v cp t, moC E mb z g gs ar] : List va_W).flatten := hD
    obtain ⟨rfl, hq⟩ := hw
    refine lv_istore (lv' := [(6, .int (nI 1)), (0, .ref sb), (1, .ref (x 0)), (2, .ref (mb 0)), (3, .ref ol), (4, .ref od), (5, .int (nI i))]) hx hb dL_law_811 hl (by decide) rfl (fun ls hl => ?_)
    refine lv_aload_n hx hb dL_law_813 rfl (lv_at hl 3 rfl) ?_
    refine lv_aload_n hx hb dL_law_814 rfl (lv_at hl 1 rfl) ?_
    refine lv_iload hx hb dL_law_815 (lv_at hl 6 rfl) ?_
    refine lv_iconst (v := nI 1) hx hb dL_law_817 (by decide) ?_
    refine nv_iadd hx hb dL_law_818 ?_
    refine va_sld hx hb hX hbl hbA hS (vp_in_nI (show i + 1 < L by omega) (by omega)) dL_law_819 ?_
    refine tp_i (show xs (nI (i + 1)).toNatClampNeg = p0 from by rw [nI_clamp (by omega), hp0]) ?_
    refine run_i (S := Unit) (run_V (As := [.int p0]) (rest := []) (bs := [loC E ol lo, dbC E od dO, coC E x a a2 a3 b d k pa y w, stC E a g, stC E a2 g2, stC E a3 g3, hhC E b hs hg nx ct, diC E d co re, grC E k so gw, prC E pa q F, sbO E y v ml n, baC E v cp t, moC E mb z g gs ar]) (cb := [moC E mb z g gs ar]) hx hb hml hown hts hK hZ hA (c_X6_spring l E _ mb z g gs ar p0 hmc) l_L_185 rfl ⟨⟨rfl, rfl⟩, Nat.le_of_ble_eq_true rfl, Nat.le_of_ble_eq_true rfl⟩ 10 rfl [12] rfl (by decide) rfl hP hD hS hl.1 rfl (Nat.le_of_ble_eq_true rfl) dL_law_820 ⟨by show (cells + 1) + 0 ≤ 603072; omega, by show (slots + 6) + 0 ≤ 7174250; omega⟩) hA hP hD hS (isC := [12]) rfl [0, 1, 2, 3, 4, 5, 6, 7, 8, 9, 10, 11] [0, 1, 2, 3, 4, 5, 6, 7, 8, 9, 10, 11, 12] (br := [loC E ol lo, dbC E od dO, coC E x a a2 a3 b d k pa y w, stC E a g, stC E a2 g2, stC E a3 g3, hhC E b hs hg nx ct, diC E d co re, grC E k so gw, prC E pa q F, sbO E y v ml n, baC E v cp t]) (bs2 := fun _ => [loC E ol lo, dbC E od dO, coC E x a a2 a3 b d k pa y w, stC E a g, stC E a2 g2, stC E a3 g3, hhC E b hs hg nx ct, diC E d co re, grC E k so gw, prC E pa q F, sbO E y v ml n, baC E v cp t, moC E mb (upn z 0 (if hasM g p0 = true then 0 else 1)) g gs ar]) rfl (by decide) (fun _ => rfl) (by decide) (fun r u6 H locs hw6 hP hD hS => ?_)
    have hw6 : r = nI (if hasM g p0 = true then g 4 (tn p0) else 0) := hw6
    subst hw6
    refine lv_istore (lv' := [(7, .int (nI (if hasM g p0 = true then g 4 (tn p0) else 0))), (6, .int (nI 1)), (0, .ref sb), (1, .ref (x 0)), (2, .ref (mb 0)), (3, .ref ol), (4, .ref od), (5, .int (nI i))]) hx hb dL_law_823 hl (by decide) rfl (fun ls hl => ?_)
    refine lv_aload_n hx hb dL_law_825 rfl (lv_at hl 4 rfl) ?_
    refine run_i (S := Unit) (run_V (As := []) (rest := []) (bs := [loC E ol lo, dbC E od dO, coC E x a a2 a3 b d k pa y w, stC E a g, stC E a2 g2, stC E a3 g3, hhC E b hs hg nx ct, diC E d co re, grC E k so gw, prC E pa q F, sbO E y v ml n, baC E v cp t, moC E mb (upn z 0 (if hasM g p0 = true then 0 else 1)) g gs ar]) (cb := [moC E mb (upn z 0 (if hasM g p0 = true then 0 else 1)) g gs ar]) hx hb hml hown hts hK hZ hA (c_X6_thrown l E _ mb (upn z 0 (if hasM g p0 = true then 0 else 1)) g gs ar) l_L_152 rfl ⟨⟨rfl, rfl⟩, Nat.le_of_ble_eq_true rfl, Nat.le_of_ble_eq_true rfl⟩ 10 rfl [12] rfl (by decide) rfl hP hD hS hl.1 rfl (Nat.le_of_ble_eq_true rfl) dL_law_826 ⟨by show ((cells + 1) + 0) + 0 ≤ 603072; omega, by show ((slots + 6) + 0) + 0 ≤ 7174250; omega⟩) hA hP hD hS (isC := [12]) rfl [0, 1, 2, 3, 4, 5, 6, 7, 8, 9, 10, 11] [0, 1, 2, 3, 4, 5, 6, 7, 8, 9, 10, 11, 12] (br := [loC E ol lo, dbC E od dO, coC E x a a2 a3 b d k pa y w, stC E a g, stC E a2 g2, stC E a3 g3, hhC E b hs hg nx ct, diC E d co re, grC E k so gw, prC E pa q F, sbO E y v ml n, baC E v cp t]) (bs2 := fun _ => [loC E ol lo, dbC E od dO, coC E x a a2 a3 b d k pa y w, stC E a g, stC E a2 g2, stC E a3 g3, hhC E b hs hg nx ct, diC E d co re, grC E k so gw, prC E pa q F, sbO E y v ml n, baC E v cp t, moC E mb (upn z 0 (if hasM g p0 = true then 0 else 1)) g gs ar]) rfl (by decide) (fun _ => rfl) (by decide) (fun r u6 H locs hw6 hP hD hS => ?_)
    have hw6 : r = nI ((upn z 0 (if hasM g p0 = true then 0 else 1)) 0) := hw6
    subst hw6
    refine lv_iload hx hb dL_law_829 (lv_at hl 1 rfl) ?_
    refine lv_icmp_eq (tgt := 836) hx hb dL_law_831 (by decide) (fun _ => ?_) (fun hc => absurd (show nI ((upn z 0 (if hasM g p0 = true then 0 else 1)) 0) = nI 1 from congrArg nI (upn_s.trans (if_neg (fun h9 => by rw [hq] at h9; cases h9)))) hc)
    refine lv_iload hx hb dL_law_836 (lv_at hl 1 rfl) ?_
    refine nv_if_ne (X := ((1 : Nat) : Int)) hx hb (nI_toInt (by omega)) (tgt := 853) dL_law_838 (by decide) (fun c_3 => ?_) (fun c_3 => ?_)
    · skip
      refine lv_goto (tgt := 2541) hx hb dL_law_853 (by decide) ?_
      exact W_widen (by omega) (by omega) (kk w g g2 g3 hg nx ct co re so gw q F v ml n cp t (upn z 0 (if hasM g p0 = true then 0 else 1)) gs ar lo dO _ _ _ (rel_q hR hB4) hP hD hS (lv_sub hl [2, 3, 4, 5, 6, 7] rfl))
    · exact absurd c_3 (by omega)
set_option maxHeartbeats 4000000 in
set_option maxRecDepth 100000 in
theorem st_tone {p : Program} {l : Launch} {e : Env} {s : State} {m : MethodId} {args : Array Value} {below : List Frame} {meth : Method} {c : Code} {E : EE} {A : Nat → Prop} {Q : State → Prop} {x a a2 a3 b d k pa y : Nat → Nat} {hs : Nat → Nat → Nat} {mb : Nat → Nat} {ol od sb : Nat} {i B cells slots L : Nat} {xs : Nat → Int32} (C : LCx p l s m args c E A sb L xs) (hL : L ≤ 2560) (hi : i + 5 ≤ L) (hB4 : B + 420 ≤ 300000) (hrc : cells + 13 ≤ 603072 ∧ slots + 414 ≤ 7174250) (kk : LGo p l e s m args below meth c E A Q x a a2 a3 b d k pa y hs mb ol od sb i (B + 420) (cells + 13) (slots + 414) 2541) : LGo p l e s m args below meth c E A Q x a a2 a3 b d k pa y hs mb ol od sb i B cells slots 856 := by
  obtain ⟨hx, hb, hml, hown, hts, hK, hZ, hDD, hA, hX, hbl, hbA, hst⟩ := C
  intro w g g2 g3 hg nx ct co re so gw q F v ml n cp t z gs ar lo dO H locs ls hR hP hD hS hl
  obtain ⟨hI, ⟨hs1, hs2, hs3⟩, ⟨hnx, hct, hz1, hh9⟩, ⟨hw1, hw2, hz5, hz6⟩, ⟨hq1, hq2, hF0, hF9⟩, ⟨hn1, hn2, hcp, ht9, htx, ho2⟩⟩ := id hR
  have hmc := hI.mc
  obtain ⟨p0, hp0⟩ : ∃ y9, y9 = xs (i + 1) := ⟨_, rfl⟩
  refine lv_aload_n hx hb dL_law_856 rfl (lv_at hl 1 rfl) ?_
  refine lv_aload_n hx hb dL_law_857 rfl (lv_at hl 0 rfl) ?_
  refine lv_iload hx hb dL_law_858 (lv_at hl 5 rfl) ?_
  refine lv_iconst (v := nI 1) hx hb dL_law_860 (by decide) ?_
  refine nv_iadd hx hb dL_law_861 ?_
  refine va_sld hx hb hX hbl hbA hS (vp_in_nI (show i + 1 < L by omega) (by omega)) dL_law_862 ?_
  refine tp_i (show xs (nI (i + 1)).toNatClampNeg = p0 from by rw [nI_clamp (by omega), hp0]) ?_
  refine lv_aload_n hx hb dL_law_863 rfl (lv_at hl 3 rfl) ?_
  refine run_i (S := (Unit × Int32 × (Nat → Int64)) ⊕ Unit) (run_SW (As := [.ref (x 0), .int p0, .ref ol]) (rest := []) (bs := [loC E ol lo, dbC E od dO, coC E x a a2 a3 b d k pa y w, stC E a g, stC E a2 g2, stC E a3 g3, hhC E b hs hg nx ct, diC E d co re, grC E k so gw, prC E pa q F, sbO E y v ml n, baC E v cp t, moC E mb z g gs ar]) (cb := [loC E ol lo, coC E x a a2 a3 b d k pa y w, stC E a g]) hx hb hml hown hts hK hZ hDD hA (c_L_tone l hst E _ x a a2 a3 b d k pa y w g B hI p0 ol lo) l_L_186 rfl ⟨⟨rfl, rfl⟩, Nat.le_of_ble_eq_true rfl, Nat.le_of_ble_eq_true rfl⟩ [0, 2, 3] rfl (by decide) hP hD hS hl.1 rfl (Nat.le_of_ble_eq_true rfl) dL_law_864 ⟨by show cells + 1 ≤ 603072; omega, by show slots + 6 ≤ 7174250; omega⟩) hA hP hD hS (isC := [0, 2, 3]) rfl [1, 4, 5, 6, 7, 8, 9, 10, 11, 12] [10, 0, 11, 12, 1, 2, 3, 4, 5, 6, 7, 8, 9] (br := [dbC E od dO, stC E a2 g2, stC E a3 g3, hhC E b hs hg nx ct, diC E d co re, grC E k so gw, prC E pa q F, sbO E y v ml n, baC E v cp t, moC E mb z g gs ar]) (bs2 := fun u => Sum.elim (fun (vq : Unit × Int32 × (Nat → Int64)) => [loC E ol vq.2.2, dbC E od dO, coC E x a a2 a3 b d k pa y w, stC E a g, stC E a2 g2, stC E a3 g3, hhC E b hs hg nx ct, diC E d co re, grC E k so gw, prC E pa q F, sbO E y v ml n, baC E v cp t, moC E mb z g gs ar]) (fun (vq : Unit) => [loC E ol lo, dbC E od dO, coC E x a a2 a3 b d k pa y w, stC E a g, stC E a2 g2, stC E a3 g3, hhC E b hs hg nx ct, diC E d co re, grC E k so gw, prC E pa q F, sbO E y v ml n, baC E v cp t, moC E mb z g gs ar]) u) rfl (by decide) (fun u => by rcases u with u | u <;> rfl) (by decide) (fun r u H locs hw hP hD hS => ?_)
  rcases u with vq | vq
  · skip
    obtain ⟨u9, r9, lo9⟩ := vq
    have hw7 : r = nI 0 ∧ (hasM g p0 = true ∧ r9 = nI (g 3 (tn p0))) ∧ lo9 0 = r9.toInt64 := hw
    clear hw
    obtain ⟨rfl, hw⟩ := hw7
    have hP : va_P E.1 vwCl ([loC E ol lo9, dbC E od dO, coC E x a a2 a3 b d k pa y w, stC E a g, stC E a2 g2, stC E a3 g3, hhC E b hs hg nx ct, diC E d co re, grC E k so gw, prC E pa q F, sbO E y v ml n, baC E v cp t, moC E mb z g gs ar] : List va_W).flatten H := hP
    have hD : va_D A ([loC E ol lo9, dbC E od dO, coC E x a a2 a3 b d k pa y w, stC E a g, stC E a2 g2, stC E a3 g3, hhC E b hs hg nx ct, diC E d co re, grC E k so gw, prC E pa q F, sbO E y v ml n, baC E v cp t, moC E mb z g gs ar] : List va_W).flatten := hD
    obtain ⟨⟨hcnd, hr9⟩, hlo⟩ := hw
    subst hr9
    refine lv_istore (lv' := [(6, .int (nI 0)), (0, .ref sb), (1, .ref (x 0)), (2, .ref (mb 0)), (3, .ref ol), (4, .ref od), (5, .int (nI i))]) hx hb dL_law_867 hl (by decide) rfl (fun ls hl => ?_)
    refine lv_aload_n hx hb dL_law_869 rfl (lv_at hl 3 rfl) ?_
    refine lv_aload_n hx hb dL_law_870 rfl (lv_at hl 1 rfl) ?_
    refine lv_iload hx hb dL_law_871 (lv_at hl 6 rfl) ?_
    refine lv_iconst (v := nI 1) hx hb dL_law_873 (by decide) ?_
    refine nv_iadd hx hb dL_law_874 ?_
    refine va_sld hx hb hX hbl hbA hS (vp_in_nI (show i + 1 < L by omega) (by omega)) dL_law_875 ?_
    refine tp_i (show xs (nI (i + 1)).toNatClampNeg = p0 from by rw [nI_clamp (by omega), hp0]) ?_
    refine run_i (S := Unit) (run_V (As := [.int p0]) (rest := []) (bs := [loC E ol lo9, dbC E od dO, coC E x a a2 a3 b d k pa y w, stC E a g, stC E a2 g2, stC E a3 g3, hhC E b hs hg nx ct, diC E d co re, grC E k so gw, prC E pa q F, sbO E y v ml n, baC E v cp t, moC E mb z g gs ar]) (cb := [moC E mb z g gs ar]) hx hb hml hown hts hK hZ hA (c_X6_tone l E _ mb z g gs ar p0 hmc) l_L_188 rfl ⟨⟨rfl, rfl⟩, Nat.le_of_ble_eq_true rfl, Nat.le_of_ble_eq_true rfl⟩ 10 rfl [12] rfl (by decide) rfl hP hD hS hl.1 rfl (Nat.le_of_ble_eq_true rfl) dL_law_876 ⟨by show (cells + 1) + 0 ≤ 603072; omega, by show (slots + 6) + 0 ≤ 7174250; omega⟩) hA hP hD hS (isC := [12]) rfl [0, 1, 2, 3, 4, 5, 6, 7, 8, 9, 10, 11] [0, 1, 2, 3, 4, 5, 6, 7, 8, 9, 10, 11, 12] (br := [loC E ol lo9, dbC E od dO, coC E x a a2 a3 b d k pa y w, stC E a g, stC E a2 g2, stC E a3 g3, hhC E b hs hg nx ct, diC E d co re, grC E k so gw, prC E pa q F, sbO E y v ml n, baC E v cp t]) (bs2 := fun _ => [loC E ol lo9, dbC E od dO, coC E x a a2 a3 b d k pa y w, stC E a g, stC E a2 g2, stC E a3 g3, hhC E b hs hg nx ct, diC E d co re, grC E k so gw, prC E pa q F, sbO E y v ml n, baC E v cp t, moC E mb (upn z 0 (if hasM g p0 = true then 0 else 1)) g gs ar]) rfl (by decide) (fun _ => rfl) (by decide) (fun r u6 H locs hw6 hP hD hS => ?_)
    have hw6 : r = nI (if hasM g p0 = true then g 3 (tn p0) else 0) := hw6
    subst hw6
    refine tp_i (show nI (if hasM g p0 = true then g 3 (tn p0) else 0) = nI (g 3 (tn p0)) from congrArg nI (if_pos hcnd)) ?_
    refine lv_istore (lv' := [(7, .int (nI (g 3 (tn p0)))), (6, .int (nI 0)), (0, .ref sb), (1, .ref (x 0)), (2, .ref (mb 0)), (3, .ref ol), (4, .ref od), (5, .int (nI i))]) hx hb dL_law_879 hl (by decide) rfl (fun ls hl => ?_)
    refine lv_aload_n hx hb dL_law_881 rfl (lv_at hl 4 rfl) ?_
    refine run_i (S := Unit) (run_V (As := []) (rest := []) (bs := [loC E ol lo9, dbC E od dO, coC E x a a2 a3 b d k pa y w, stC E a g, stC E a2 g2, stC E a3 g3, hhC E b hs hg nx ct, diC E d co re, grC E k so gw, prC E pa q F, sbO E y v ml n, baC E v cp t, moC E mb (upn z 0 (if hasM g p0 = true then 0 else 1)) g gs ar]) (cb := [moC E mb (upn z 0 (if hasM g p0 = true then 0 else 1)) g gs ar]) hx hb hml hown hts hK hZ hA (c_X6_thrown l E _ mb (upn z 0 (if hasM g p0 = true then 0 else 1)) g gs ar) l_L_152 rfl ⟨⟨rfl, rfl⟩, Nat.le_of_ble_eq_true rfl, Nat.le_of_ble_eq_true rfl⟩ 10 rfl [12] rfl (by decide) rfl hP hD hS hl.1 rfl (Nat.le_of_ble_eq_true rfl) dL_law_882 ⟨by show ((cells + 1) + 0) + 0 ≤ 603072; omega, by show ((slots + 6) + 0) + 0 ≤ 7174250; omega⟩) hA hP hD hS (isC := [12]) rfl [0, 1, 2, 3, 4, 5, 6, 7, 8, 9, 10, 11] [0, 1, 2, 3, 4, 5, 6, 7, 8, 9, 10, 11, 12] (br := [loC E ol lo9, dbC E od dO, coC E x a a2 a3 b d k pa y w, stC E a g, stC E a2 g2, stC E a3 g3, hhC E b hs hg nx ct, diC E d co re, grC E k so gw, prC E pa q F, sbO E y v ml n, baC E v cp t]) (bs2 := fun _ => [loC E ol lo9, dbC E od dO, coC E x a a2 a3 b d k pa y w, stC E a g, stC E a2 g2, stC E a3 g3, hhC E b hs hg nx ct, diC E d co re, grC E k so gw, prC E pa q F, sbO E y v ml n, baC E v cp t, moC E mb (upn z 0 (if hasM g p0 = true then 0 else 1)) g gs ar]) rfl (by decide) (fun _ => rfl) (by decide) (fun r u6 H locs hw6 hP hD hS => ?_)
    have hw6 : r = nI ((upn z 0 (if hasM g p0 = true then 0 else 1)) 0) := hw6
    subst hw6
    refine lv_iload hx hb dL_law_885 (lv_at hl 1 rfl) ?_
    refine lv_icmp_eq (tgt := 892) hx hb dL_law_887 (by decide) (fun _ => ?_) (fun hc => absurd (show nI ((upn z 0 (if hasM g p0 = true then 0 else 1)) 0) = nI 0 from congrArg nI (upn_s.trans (if_pos hcnd))) hc)
    refine lv_iload hx hb dL_law_892 (lv_at hl 1 rfl) ?_
    refine nv_if_ne (X := ((0 : Nat) : Int)) hx hb (nI_toInt (by omega)) (tgt := 909) dL_law_894 (by decide) (fun c_1 => ?_) (fun c_1 => ?_)
    · exact absurd c_1 (by omega)
    · skip
      refine lv_aload_n hx hb dL_law_897 rfl (lv_at hl 5 rfl) ?_
      refine lv_iconst (v := nI 0) hx hb dL_law_898 (by decide) ?_
      refine va_lald hx hb hK hP 0 4 rfl rfl (vp_in_nI (show 0 < 1 by decide) (by decide)) dL_law_899 ?_
      rw [show lo9 (nI 0).toNatClampNeg = (nI (g 3 (tn p0))).toInt64 from by rw [nI_clamp (show 0 < 2 ^ 31 by decide)]; exact hlo]
      refine lv_iload hx hb dL_law_900 (lv_at hl 0 rfl) ?_
      refine lv_i2l hx hb dL_law_902 rfl ?_
      refine W.lcmp hx hb dL_law_903 ?_
      refine tp_i (show lg_cmp ((nI (g 3 (tn p0))).toInt64) ((nI (g 3 (tn p0))).toInt64) = nI 0 from lg_eq _) ?_
      refine nv_if_eq (X := ((0 : Nat) : Int)) hx hb (nI_toInt (by omega)) (tgt := 909) dL_law_904 (by decide) (fun c_2 => ?_) (fun c_2 => ?_)
      · skip
        refine lv_goto (tgt := 2541) hx hb dL_law_909 (by decide) ?_
        exact W_widen (by omega) (by omega) (kk w g g2 g3 hg nx ct co re so gw q F v ml n cp t (upn z 0 (if hasM g p0 = true then 0 else 1)) gs ar lo9 dO _ _ _ (rel_q hR hB4) hP hD hS (lv_sub hl [2, 3, 4, 5, 6, 7] rfl))
      · exact absurd c_2 (by omega)
  · skip
    have hw : r = nI 1 ∧ hasM g p0 = false := hw
    have hP : va_P E.1 vwCl ([loC E ol lo, dbC E od dO, coC E x a a2 a3 b d k pa y w, stC E a g, stC E a2 g2, stC E a3 g3, hhC E b hs hg nx ct, diC E d co re, grC E k so gw, prC E pa q F, sbO E y v ml n, baC E v cp t, moC E mb z g gs ar] : List va_W).flatten H := hP
    have hD : va_D A ([loC E ol lo, dbC E od dO, coC E x a a2 a3 b d k pa y w, stC E a g, stC E a2 g2, stC E a3 g3, hhC E b hs hg nx ct, diC E d co re, grC E k so gw, prC E pa q F, sbO E y v ml n, baC E v cp t, moC E mb z g gs ar] : List va_W).flatten := hD
    obtain ⟨rfl, hq⟩ := hw
    refine lv_istore (lv' := [(6, .int (nI 1)), (0, .ref sb), (1, .ref (x 0)), (2, .ref (mb 0)), (3, .ref ol), (4, .ref od), (5, .int (nI i))]) hx hb dL_law_867 hl (by decide) rfl (fun ls hl => ?_)
    refine lv_aload_n hx hb dL_law_869 rfl (lv_at hl 3 rfl) ?_
    refine lv_aload_n hx hb dL_law_870 rfl (lv_at hl 1 rfl) ?_
    refine lv_iload hx hb dL_law_871 (lv_at hl 6 rfl) ?_
    refine lv_iconst (v := nI 1) hx hb dL_law_873 (by decide) ?_
    refine nv_iadd hx hb dL_law_874 ?_
    refine va_sld hx hb hX hbl hbA hS (vp_in_nI (show i + 1 < L by omega) (by omega)) dL_law_875 ?_
    refine tp_i (show xs (nI (i + 1)).toNatClampNeg = p0 from by rw [nI_clamp (by omega), hp0]) ?_
    refine run_i (S := Unit) (run_V (As := [.int p0]) (rest := []) (bs := [loC E ol lo, dbC E od dO, coC E x a a2 a3 b d k pa y w, stC E a g, stC E a2 g2, stC E a3 g3, hhC E b hs hg nx ct, diC E d co re, grC E k so gw, prC E pa q F, sbO E y v ml n, baC E v cp t, moC E mb z g gs ar]) (cb := [moC E mb z g gs ar]) hx hb hml hown hts hK hZ hA (c_X6_tone l E _ mb z g gs ar p0 hmc) l_L_188 rfl ⟨⟨rfl, rfl⟩, Nat.le_of_ble_eq_true rfl, Nat.le_of_ble_eq_true rfl⟩ 10 rfl [12] rfl (by decide) rfl hP hD hS hl.1 rfl (Nat.le_of_ble_eq_true rfl) dL_law_876 ⟨by show (cells + 1) + 0 ≤ 603072; omega, by show (slots + 6) + 0 ≤ 7174250; omega⟩) hA hP hD hS (isC := [12]) rfl [0, 1, 2, 3, 4, 5, 6, 7, 8, 9, 10, 11] [0, 1, 2, 3, 4, 5, 6, 7, 8, 9, 10, 11, 12] (br := [loC E ol lo, dbC E od dO, coC E x a a2 a3 b d k pa y w, stC E a g, stC E a2 g2, stC E a3 g3, hhC E b hs hg nx ct, diC E d co re, grC E k so gw, prC E pa q F, sbO E y v ml n, baC E v cp t]) (bs2 := fun _ => [loC E ol lo, dbC E od dO, coC E x a a2 a3 b d k pa y w, stC E a g, stC E a2 g2, stC E a3 g3, hhC E b hs hg nx ct, diC E d co re, grC E k so gw, prC E pa q F, sbO E y v ml n, baC E v cp t, moC E mb (upn z 0 (if hasM g p0 = true then 0 else 1)) g gs ar]) rfl (by decide) (fun _ => rfl) (by decide) (fun r u6 H locs hw6 hP hD hS => ?_)
    have hw6 : r = nI (if hasM g p0 = true then g 3 (tn p0) else 0) := hw6
    subst hw6
    refine lv_istore (lv' := [(7, .int (nI (if hasM g p0 = true then g 3 (tn p0) else 0))), (6, .int (nI 1)), (0, .ref sb), (1, .ref (x 0)), (2, .ref (mb 0)), (3, .ref ol), (4, .ref od), (5, .int (nI i))]) hx hb dL_law_879 hl (by decide) rfl (fun ls hl => ?_)
    refine lv_aload_n hx hb dL_law_881 rfl (lv_at hl 4 rfl) ?_
    refine run_i (S := Unit) (run_V (As := []) (rest := []) (bs := [loC E ol lo, dbC E od dO, coC E x a a2 a3 b d k pa y w, stC E a g, stC E a2 g2, stC E a3 g3, hhC E b hs hg nx ct, diC E d co re, grC E k so gw, prC E pa q F, sbO E y v ml n, baC E v cp t, moC E mb (upn z 0 (if hasM g p0 = true then 0 else 1)) g gs ar]) (cb := [moC E mb (upn z 0 (if hasM g p0 = true then 0 else 1)) g gs ar]) hx hb hml hown hts hK hZ hA (c_X6_thrown l E _ mb (upn z 0 (if hasM g p0 = true then 0 else 1)) g gs ar) l_L_152 rfl ⟨⟨rfl, rfl⟩, Nat.le_of_ble_eq_true rfl, Nat.le_of_ble_eq_true rfl⟩ 10 rfl [12] rfl (by decide) rfl hP hD hS hl.1 rfl (Nat.le_of_ble_eq_true rfl) dL_law_882 ⟨by show ((cells + 1) + 0) + 0 ≤ 603072; omega, by show ((slots + 6) + 0) + 0 ≤ 7174250; omega⟩) hA hP hD hS (isC := [12]) rfl [0, 1, 2, 3, 4, 5, 6, 7, 8, 9, 10, 11] [0, 1, 2, 3, 4, 5, 6, 7, 8, 9, 10, 11, 12] (br := [loC E ol lo, dbC E od dO, coC E x a a2 a3 b d k pa y w, stC E a g, stC E a2 g2, stC E a3 g3, hhC E b hs hg nx ct, diC E d co re, grC E k so gw, prC E pa q F, sbO E y v ml n, baC E v cp t]) (bs2 := fun _ => [loC E ol lo, dbC E od dO, coC E x a a2 a3 b d k pa y w, stC E a g, stC E a2 g2, stC E a3 g3, hhC E b hs hg nx ct, diC E d co re, grC E k so gw, prC E pa q F, sbO E y v ml n, baC E v cp t, moC E mb (upn z 0 (if hasM g p0 = true then 0 else 1)) g gs ar]) rfl (by decide) (fun _ => rfl) (by decide) (fun r u6 H locs hw6 hP hD hS => ?_)
    have hw6 : r = nI ((upn z 0 (if hasM g p0 = true then 0 else 1)) 0) := hw6
    subst hw6
    refine lv_iload hx hb dL_law_885 (lv_at hl 1 rfl) ?_
    refine lv_icmp_eq (tgt := 892) hx hb dL_law_887 (by decide) (fun _ => ?_) (fun hc => absurd (show nI ((upn z 0 (if hasM g p0 = true then 0 else 1)) 0) = nI 1 from congrArg nI (upn_s.trans (if_neg (fun h9 => by rw [hq] at h9; cases h9)))) hc)
    refine lv_iload hx hb dL_law_892 (lv_at hl 1 rfl) ?_
    refine nv_if_ne (X := ((1 : Nat) : Int)) hx hb (nI_toInt (by omega)) (tgt := 909) dL_law_894 (by decide) (fun c_3 => ?_) (fun c_3 => ?_)
    · skip
      refine lv_goto (tgt := 2541) hx hb dL_law_909 (by decide) ?_
      exact W_widen (by omega) (by omega) (kk w g g2 g3 hg nx ct co re so gw q F v ml n cp t (upn z 0 (if hasM g p0 = true then 0 else 1)) gs ar lo dO _ _ _ (rel_q hR hB4) hP hD hS (lv_sub hl [2, 3, 4, 5, 6, 7] rfl))
    · exact absurd c_3 (by omega)
set_option maxHeartbeats 4000000 in
set_option maxRecDepth 100000 in
theorem st_purse {p : Program} {l : Launch} {e : Env} {s : State} {m : MethodId} {args : Array Value} {below : List Frame} {meth : Method} {c : Code} {E : EE} {A : Nat → Prop} {Q : State → Prop} {x a a2 a3 b d k pa y : Nat → Nat} {hs : Nat → Nat → Nat} {mb : Nat → Nat} {ol od sb : Nat} {i B cells slots L : Nat} {xs : Nat → Int32} (C : LCx p l s m args c E A sb L xs) (hL : L ≤ 2560) (hi : i + 5 ≤ L) (hB4 : B + 420 ≤ 300000) (hrc : cells + 13 ≤ 603072 ∧ slots + 414 ≤ 7174250) (kk : LGo p l e s m args below meth c E A Q x a a2 a3 b d k pa y hs mb ol od sb i (B + 420) (cells + 13) (slots + 414) 2541) : LGo p l e s m args below meth c E A Q x a a2 a3 b d k pa y hs mb ol od sb i B cells slots 912 := by
  obtain ⟨hx, hb, hml, hown, hts, hK, hZ, hDD, hA, hX, hbl, hbA, hst⟩ := C
  intro w g g2 g3 hg nx ct co re so gw q F v ml n cp t z gs ar lo dO H locs ls hR hP hD hS hl
  obtain ⟨hI, ⟨hs1, hs2, hs3⟩, ⟨hnx, hct, hz1, hh9⟩, ⟨hw1, hw2, hz5, hz6⟩, ⟨hq1, hq2, hF0, hF9⟩, ⟨hn1, hn2, hcp, ht9, htx, ho2⟩⟩ := id hR
  have hmc := hI.mc
  obtain ⟨p0, hp0⟩ : ∃ y9, y9 = xs (i + 1) := ⟨_, rfl⟩
  refine lv_aload_n hx hb dL_law_912 rfl (lv_at hl 1 rfl) ?_
  refine lv_aload_n hx hb dL_law_913 rfl (lv_at hl 0 rfl) ?_
  refine lv_iload hx hb dL_law_914 (lv_at hl 5 rfl) ?_
  refine lv_iconst (v := nI 1) hx hb dL_law_916 (by decide) ?_
  refine nv_iadd hx hb dL_law_917 ?_
  refine va_sld hx hb hX hbl hbA hS (vp_in_nI (show i + 1 < L by omega) (by omega)) dL_law_918 ?_
  refine tp_i (show xs (nI (i + 1)).toNatClampNeg = p0 from by rw [nI_clamp (by omega), hp0]) ?_
  refine lv_aload_n hx hb dL_law_919 rfl (lv_at hl 3 rfl) ?_
  refine run_i (S := (Unit × Int32 × (Nat → Int64)) ⊕ Unit) (run_SW (As := [.ref (x 0), .int p0, .ref ol]) (rest := []) (bs := [loC E ol lo, dbC E od dO, coC E x a a2 a3 b d k pa y w, stC E a g, stC E a2 g2, stC E a3 g3, hhC E b hs hg nx ct, diC E d co re, grC E k so gw, prC E pa q F, sbO E y v ml n, baC E v cp t, moC E mb z g gs ar]) (cb := [loC E ol lo, coC E x a a2 a3 b d k pa y w, stC E a g]) hx hb hml hown hts hK hZ hDD hA (c_L_purse l hst E _ x a a2 a3 b d k pa y w g B hI p0 ol lo) l_L_189 rfl ⟨⟨rfl, rfl⟩, Nat.le_of_ble_eq_true rfl, Nat.le_of_ble_eq_true rfl⟩ [0, 2, 3] rfl (by decide) hP hD hS hl.1 rfl (Nat.le_of_ble_eq_true rfl) dL_law_920 ⟨by show cells + 1 ≤ 603072; omega, by show slots + 6 ≤ 7174250; omega⟩) hA hP hD hS (isC := [0, 2, 3]) rfl [1, 4, 5, 6, 7, 8, 9, 10, 11, 12] [10, 0, 11, 12, 1, 2, 3, 4, 5, 6, 7, 8, 9] (br := [dbC E od dO, stC E a2 g2, stC E a3 g3, hhC E b hs hg nx ct, diC E d co re, grC E k so gw, prC E pa q F, sbO E y v ml n, baC E v cp t, moC E mb z g gs ar]) (bs2 := fun u => Sum.elim (fun (vq : Unit × Int32 × (Nat → Int64)) => [loC E ol vq.2.2, dbC E od dO, coC E x a a2 a3 b d k pa y w, stC E a g, stC E a2 g2, stC E a3 g3, hhC E b hs hg nx ct, diC E d co re, grC E k so gw, prC E pa q F, sbO E y v ml n, baC E v cp t, moC E mb z g gs ar]) (fun (vq : Unit) => [loC E ol lo, dbC E od dO, coC E x a a2 a3 b d k pa y w, stC E a g, stC E a2 g2, stC E a3 g3, hhC E b hs hg nx ct, diC E d co re, grC E k so gw, prC E pa q F, sbO E y v ml n, baC E v cp t, moC E mb z g gs ar]) u) rfl (by decide) (fun u => by rcases u with u | u <;> rfl) (by decide) (fun r u H locs hw hP hD hS => ?_)
  rcases u with vq | vq
  · skip
    obtain ⟨u9, r9, lo9⟩ := vq
    have hw7 : r = nI 0 ∧ (hasM g p0 = true ∧ r9 = nI (g 5 (tn p0))) ∧ lo9 0 = r9.toInt64 := hw
    clear hw
    obtain ⟨rfl, hw⟩ := hw7
    have hP : va_P E.1 vwCl ([loC E ol lo9, dbC E od dO, coC E x a a2 a3 b d k pa y w, stC E a g, stC E a2 g2, stC E a3 g3, hhC E b hs hg nx ct, diC E d co re, grC E k so gw, prC E pa q F, sbO E y v ml n, baC E v cp t, moC E mb z g gs ar] : List va_W).flatten H := hP
    have hD : va_D A ([loC E ol lo9, dbC E od dO, coC E x a a2 a3 b d k pa y w, stC E a g, stC E a2 g2, stC E a3 g3, hhC E b hs hg nx ct, diC E d co re, grC E k so gw, prC E pa q F, sbO E y v ml n, baC E v cp t, moC E mb z g gs ar] : List va_W).flatten := hD
    obtain ⟨⟨hcnd, hr9⟩, hlo⟩ := hw
    subst hr9
    refine lv_istore (lv' := [(6, .int (nI 0)), (0, .ref sb), (1, .ref (x 0)), (2, .ref (mb 0)), (3, .ref ol), (4, .ref od), (5, .int (nI i))]) hx hb dL_law_923 hl (by decide) rfl (fun ls hl => ?_)
    refine lv_aload_n hx hb dL_law_925 rfl (lv_at hl 3 rfl) ?_
    refine lv_aload_n hx hb dL_law_926 rfl (lv_at hl 1 rfl) ?_
    refine lv_iload hx hb dL_law_927 (lv_at hl 6 rfl) ?_
    refine lv_iconst (v := nI 1) hx hb dL_law_929 (by decide) ?_
    refine nv_iadd hx hb dL_law_930 ?_
    refine va_sld hx hb hX hbl hbA hS (vp_in_nI (show i + 1 < L by omega) (by omega)) dL_law_931 ?_
    refine tp_i (show xs (nI (i + 1)).toNatClampNeg = p0 from by rw [nI_clamp (by omega), hp0]) ?_
    refine run_i (S := Unit) (run_V (As := [.int p0]) (rest := []) (bs := [loC E ol lo9, dbC E od dO, coC E x a a2 a3 b d k pa y w, stC E a g, stC E a2 g2, stC E a3 g3, hhC E b hs hg nx ct, diC E d co re, grC E k so gw, prC E pa q F, sbO E y v ml n, baC E v cp t, moC E mb z g gs ar]) (cb := [moC E mb z g gs ar]) hx hb hml hown hts hK hZ hA (c_X6_purse l E _ mb z g gs ar p0 hmc) l_L_191 rfl ⟨⟨rfl, rfl⟩, Nat.le_of_ble_eq_true rfl, Nat.le_of_ble_eq_true rfl⟩ 10 rfl [12] rfl (by decide) rfl hP hD hS hl.1 rfl (Nat.le_of_ble_eq_true rfl) dL_law_932 ⟨by show (cells + 1) + 0 ≤ 603072; omega, by show (slots + 6) + 0 ≤ 7174250; omega⟩) hA hP hD hS (isC := [12]) rfl [0, 1, 2, 3, 4, 5, 6, 7, 8, 9, 10, 11] [0, 1, 2, 3, 4, 5, 6, 7, 8, 9, 10, 11, 12] (br := [loC E ol lo9, dbC E od dO, coC E x a a2 a3 b d k pa y w, stC E a g, stC E a2 g2, stC E a3 g3, hhC E b hs hg nx ct, diC E d co re, grC E k so gw, prC E pa q F, sbO E y v ml n, baC E v cp t]) (bs2 := fun _ => [loC E ol lo9, dbC E od dO, coC E x a a2 a3 b d k pa y w, stC E a g, stC E a2 g2, stC E a3 g3, hhC E b hs hg nx ct, diC E d co re, grC E k so gw, prC E pa q F, sbO E y v ml n, baC E v cp t, moC E mb (upn z 0 (if hasM g p0 = true then 0 else 1)) g gs ar]) rfl (by decide) (fun _ => rfl) (by decide) (fun r u6 H locs hw6 hP hD hS => ?_)
    have hw6 : r = nI (if hasM g p0 = true then g 5 (tn p0) else 0) := hw6
    subst hw6
    refine tp_i (show nI (if hasM g p0 = true then g 5 (tn p0) else 0) = nI (g 5 (tn p0)) from congrArg nI (if_pos hcnd)) ?_
    refine lv_istore (lv' := [(7, .int (nI (g 5 (tn p0)))), (6, .int (nI 0)), (0, .ref sb), (1, .ref (x 0)), (2, .ref (mb 0)), (3, .ref ol), (4, .ref od), (5, .int (nI i))]) hx hb dL_law_935 hl (by decide) rfl (fun ls hl => ?_)
    refine lv_aload_n hx hb dL_law_937 rfl (lv_at hl 4 rfl) ?_
    refine run_i (S := Unit) (run_V (As := []) (rest := []) (bs := [loC E ol lo9, dbC E od dO, coC E x a a2 a3 b d k pa y w, stC E a g, stC E a2 g2, stC E a3 g3, hhC E b hs hg nx ct, diC E d co re, grC E k so gw, prC E pa q F, sbO E y v ml n, baC E v cp t, moC E mb (upn z 0 (if hasM g p0 = true then 0 else 1)) g gs ar]) (cb := [moC E mb (upn z 0 (if hasM g p0 = true then 0 else 1)) g gs ar]) hx hb hml hown hts hK hZ hA (c_X6_thrown l E _ mb (upn z 0 (if hasM g p0 = true then 0 else 1)) g gs ar) l_L_152 rfl ⟨⟨rfl, rfl⟩, Nat.le_of_ble_eq_true rfl, Nat.le_of_ble_eq_true rfl⟩ 10 rfl [12] rfl (by decide) rfl hP hD hS hl.1 rfl (Nat.le_of_ble_eq_true rfl) dL_law_938 ⟨by show ((cells + 1) + 0) + 0 ≤ 603072; omega, by show ((slots + 6) + 0) + 0 ≤ 7174250; omega⟩) hA hP hD hS (isC := [12]) rfl [0, 1, 2, 3, 4, 5, 6, 7, 8, 9, 10, 11] [0, 1, 2, 3, 4, 5, 6, 7, 8, 9, 10, 11, 12] (br := [loC E ol lo9, dbC E od dO, coC E x a a2 a3 b d k pa y w, stC E a g, stC E a2 g2, stC E a3 g3, hhC E b hs hg nx ct, diC E d co re, grC E k so gw, prC E pa q F, sbO E y v ml n, baC E v cp t]) (bs2 := fun _ => [loC E ol lo9, dbC E od dO, coC E x a a2 a3 b d k pa y w, stC E a g, stC E a2 g2, stC E a3 g3, hhC E b hs hg nx ct, diC E d co re, grC E k so gw, prC E pa q F, sbO E y v ml n, baC E v cp t, moC E mb (upn z 0 (if hasM g p0 = true then 0 else 1)) g gs ar]) rfl (by decide) (fun _ => rfl) (by decide) (fun r u6 H locs hw6 hP hD hS => ?_)
    have hw6 : r = nI ((upn z 0 (if hasM g p0 = true then 0 else 1)) 0) := hw6
    subst hw6
    refine lv_iload hx hb dL_law_941 (lv_at hl 1 rfl) ?_
    refine lv_icmp_eq (tgt := 948) hx hb dL_law_943 (by decide) (fun _ => ?_) (fun hc => absurd (show nI ((upn z 0 (if hasM g p0 = true then 0 else 1)) 0) = nI 0 from congrArg nI (upn_s.trans (if_pos hcnd))) hc)
    refine lv_iload hx hb dL_law_948 (lv_at hl 1 rfl) ?_
    refine nv_if_ne (X := ((0 : Nat) : Int)) hx hb (nI_toInt (by omega)) (tgt := 965) dL_law_950 (by decide) (fun c_1 => ?_) (fun c_1 => ?_)
    · exact absurd c_1 (by omega)
    · skip
      refine lv_aload_n hx hb dL_law_953 rfl (lv_at hl 5 rfl) ?_
      refine lv_iconst (v := nI 0) hx hb dL_law_954 (by decide) ?_
      refine va_lald hx hb hK hP 0 4 rfl rfl (vp_in_nI (show 0 < 1 by decide) (by decide)) dL_law_955 ?_
      rw [show lo9 (nI 0).toNatClampNeg = (nI (g 5 (tn p0))).toInt64 from by rw [nI_clamp (show 0 < 2 ^ 31 by decide)]; exact hlo]
      refine lv_iload hx hb dL_law_956 (lv_at hl 0 rfl) ?_
      refine lv_i2l hx hb dL_law_958 rfl ?_
      refine W.lcmp hx hb dL_law_959 ?_
      refine tp_i (show lg_cmp ((nI (g 5 (tn p0))).toInt64) ((nI (g 5 (tn p0))).toInt64) = nI 0 from lg_eq _) ?_
      refine nv_if_eq (X := ((0 : Nat) : Int)) hx hb (nI_toInt (by omega)) (tgt := 965) dL_law_960 (by decide) (fun c_2 => ?_) (fun c_2 => ?_)
      · skip
        refine lv_goto (tgt := 2541) hx hb dL_law_965 (by decide) ?_
        exact W_widen (by omega) (by omega) (kk w g g2 g3 hg nx ct co re so gw q F v ml n cp t (upn z 0 (if hasM g p0 = true then 0 else 1)) gs ar lo9 dO _ _ _ (rel_q hR hB4) hP hD hS (lv_sub hl [2, 3, 4, 5, 6, 7] rfl))
      · exact absurd c_2 (by omega)
  · skip
    have hw : r = nI 1 ∧ hasM g p0 = false := hw
    have hP : va_P E.1 vwCl ([loC E ol lo, dbC E od dO, coC E x a a2 a3 b d k pa y w, stC E a g, stC E a2 g2, stC E a3 g3, hhC E b hs hg nx ct, diC E d co re, grC E k so gw, prC E pa q F, sbO E y v ml n, baC E v cp t, moC E mb z g gs ar] : List va_W).flatten H := hP
    have hD : va_D A ([loC E ol lo, dbC E od dO, coC E x a a2 a3 b d k pa y w, stC E a g, stC E a2 g2, stC E a3 g3, hhC E b hs hg nx ct, diC E d co re, grC E k so gw, prC E pa q F, sbO E y v ml n, baC E v cp t, moC E mb z g gs ar] : List va_W).flatten := hD
    obtain ⟨rfl, hq⟩ := hw
    refine lv_istore (lv' := [(6, .int (nI 1)), (0, .ref sb), (1, .ref (x 0)), (2, .ref (mb 0)), (3, .ref ol), (4, .ref od), (5, .int (nI i))]) hx hb dL_law_923 hl (by decide) rfl (fun ls hl => ?_)
    refine lv_aload_n hx hb dL_law_925 rfl (lv_at hl 3 rfl) ?_
    refine lv_aload_n hx hb dL_law_926 rfl (lv_at hl 1 rfl) ?_
    refine lv_iload hx hb dL_law_927 (lv_at hl 6 rfl) ?_
    refine lv_iconst (v := nI 1) hx hb dL_law_929 (by decide) ?_
    refine nv_iadd hx hb dL_law_930 ?_
    refine va_sld hx hb hX hbl hbA hS (vp_in_nI (show i + 1 < L by omega) (by omega)) dL_law_931 ?_
    refine tp_i (show xs (nI (i + 1)).toNatClampNeg = p0 from by rw [nI_clamp (by omega), hp0]) ?_
    refine run_i (S := Unit) (run_V (As := [.int p0]) (rest := []) (bs := [loC E ol lo, dbC E od dO, coC E x a a2 a3 b d k pa y w, stC E a g, stC E a2 g2, stC E a3 g3, hhC E b hs hg nx ct, diC E d co re, grC E k so gw, prC E pa q F, sbO E y v ml n, baC E v cp t, moC E mb z g gs ar]) (cb := [moC E mb z g gs ar]) hx hb hml hown hts hK hZ hA (c_X6_purse l E _ mb z g gs ar p0 hmc) l_L_191 rfl ⟨⟨rfl, rfl⟩, Nat.le_of_ble_eq_true rfl, Nat.le_of_ble_eq_true rfl⟩ 10 rfl [12] rfl (by decide) rfl hP hD hS hl.1 rfl (Nat.le_of_ble_eq_true rfl) dL_law_932 ⟨by show (cells + 1) + 0 ≤ 603072; omega, by show (slots + 6) + 0 ≤ 7174250; omega⟩) hA hP hD hS (isC := [12]) rfl [0, 1, 2, 3, 4, 5, 6, 7, 8, 9, 10, 11] [0, 1, 2, 3, 4, 5, 6, 7, 8, 9, 10, 11, 12] (br := [loC E ol lo, dbC E od dO, coC E x a a2 a3 b d k pa y w, stC E a g, stC E a2 g2, stC E a3 g3, hhC E b hs hg nx ct, diC E d co re, grC E k so gw, prC E pa q F, sbO E y v ml n, baC E v cp t]) (bs2 := fun _ => [loC E ol lo, dbC E od dO, coC E x a a2 a3 b d k pa y w, stC E a g, stC E a2 g2, stC E a3 g3, hhC E b hs hg nx ct, diC E d co re, grC E k so gw, prC E pa q F, sbO E y v ml n, baC E v cp t, moC E mb (upn z 0 (if hasM g p0 = true then 0 else 1)) g gs ar]) rfl (by decide) (fun _ => rfl) (by decide) (fun r u6 H locs hw6 hP hD hS => ?_)
    have hw6 : r = nI (if hasM g p0 = true then g 5 (tn p0) else 0) := hw6
    subst hw6
    refine lv_istore (lv' := [(7, .int (nI (if hasM g p0 = true then g 5 (tn p0) else 0))), (6, .int (nI 1)), (0, .ref sb), (1, .ref (x 0)), (2, .ref (mb 0)), (3, .ref ol), (4, .ref od), (5, .int (nI i))]) hx hb dL_law_935 hl (by decide) rfl (fun ls hl => ?_)
    refine lv_aload_n hx hb dL_law_937 rfl (lv_at hl 4 rfl) ?_
    refine run_i (S := Unit) (run_V (As := []) (rest := []) (bs := [loC E ol lo, dbC E od dO, coC E x a a2 a3 b d k pa y w, stC E a g, stC E a2 g2, stC E a3 g3, hhC E b hs hg nx ct, diC E d co re, grC E k so gw, prC E pa q F, sbO E y v ml n, baC E v cp t, moC E mb (upn z 0 (if hasM g p0 = true then 0 else 1)) g gs ar]) (cb := [moC E mb (upn z 0 (if hasM g p0 = true then 0 else 1)) g gs ar]) hx hb hml hown hts hK hZ hA (c_X6_thrown l E _ mb (upn z 0 (if hasM g p0 = true then 0 else 1)) g gs ar) l_L_152 rfl ⟨⟨rfl, rfl⟩, Nat.le_of_ble_eq_true rfl, Nat.le_of_ble_eq_true rfl⟩ 10 rfl [12] rfl (by decide) rfl hP hD hS hl.1 rfl (Nat.le_of_ble_eq_true rfl) dL_law_938 ⟨by show ((cells + 1) + 0) + 0 ≤ 603072; omega, by show ((slots + 6) + 0) + 0 ≤ 7174250; omega⟩) hA hP hD hS (isC := [12]) rfl [0, 1, 2, 3, 4, 5, 6, 7, 8, 9, 10, 11] [0, 1, 2, 3, 4, 5, 6, 7, 8, 9, 10, 11, 12] (br := [loC E ol lo, dbC E od dO, coC E x a a2 a3 b d k pa y w, stC E a g, stC E a2 g2, stC E a3 g3, hhC E b hs hg nx ct, diC E d co re, grC E k so gw, prC E pa q F, sbO E y v ml n, baC E v cp t]) (bs2 := fun _ => [loC E ol lo, dbC E od dO, coC E x a a2 a3 b d k pa y w, stC E a g, stC E a2 g2, stC E a3 g3, hhC E b hs hg nx ct, diC E d co re, grC E k so gw, prC E pa q F, sbO E y v ml n, baC E v cp t, moC E mb (upn z 0 (if hasM g p0 = true then 0 else 1)) g gs ar]) rfl (by decide) (fun _ => rfl) (by decide) (fun r u6 H locs hw6 hP hD hS => ?_)
    have hw6 : r = nI ((upn z 0 (if hasM g p0 = true then 0 else 1)) 0) := hw6
    subst hw6
    refine lv_iload hx hb dL_law_941 (lv_at hl 1 rfl) ?_
    refine lv_icmp_eq (tgt := 948) hx hb dL_law_943 (by decide) (fun _ => ?_) (fun hc => absurd (show nI ((upn z 0 (if hasM g p0 = true then 0 else 1)) 0) = nI 1 from congrArg nI (upn_s.trans (if_neg (fun h9 => by rw [hq] at h9; cases h9)))) hc)
    refine lv_iload hx hb dL_law_948 (lv_at hl 1 rfl) ?_
    refine nv_if_ne (X := ((1 : Nat) : Int)) hx hb (nI_toInt (by omega)) (tgt := 965) dL_law_950 (by decide) (fun c_3 => ?_) (fun c_3 => ?_)
    · skip
      refine lv_goto (tgt := 2541) hx hb dL_law_965 (by decide) ?_
      exact W_widen (by omega) (by omega) (kk w g g2 g3 hg nx ct co re so gw q F v ml n cp t (upn z 0 (if hasM g p0 = true then 0 else 1)) gs ar lo dO _ _ _ (rel_q hR hB4) hP hD hS (lv_sub hl [2, 3, 4, 5, 6, 7] rfl))
    · exact absurd c_3 (by omega)
set_option maxHeartbeats 4000000 in
set_option maxRecDepth 100000 in
theorem st_dissents {p : Program} {l : Launch} {e : Env} {s : State} {m : MethodId} {args : Array Value} {below : List Frame} {meth : Method} {c : Code} {E : EE} {A : Nat → Prop} {Q : State → Prop} {x a a2 a3 b d k pa y : Nat → Nat} {hs : Nat → Nat → Nat} {mb : Nat → Nat} {ol od sb : Nat} {i B cells slots L : Nat} {xs : Nat → Int32} (C : LCx p l s m args c E A sb L xs) (hL : L ≤ 2560) (hi : i + 5 ≤ L) (hB4 : B + 420 ≤ 300000) (hrc : cells + 13 ≤ 603072 ∧ slots + 414 ≤ 7174250) (kk : LGo p l e s m args below meth c E A Q x a a2 a3 b d k pa y hs mb ol od sb i (B + 420) (cells + 13) (slots + 414) 2541) : LGo p l e s m args below meth c E A Q x a a2 a3 b d k pa y hs mb ol od sb i B cells slots 968 := by
  obtain ⟨hx, hb, hml, hown, hts, hK, hZ, hDD, hA, hX, hbl, hbA, hst⟩ := C
  intro w g g2 g3 hg nx ct co re so gw q F v ml n cp t z gs ar lo dO H locs ls hR hP hD hS hl
  obtain ⟨hI, ⟨hs1, hs2, hs3⟩, ⟨hnx, hct, hz1, hh9⟩, ⟨hw1, hw2, hz5, hz6⟩, ⟨hq1, hq2, hF0, hF9⟩, ⟨hn1, hn2, hcp, ht9, htx, ho2⟩⟩ := id hR
  have hmc := hI.mc
  obtain ⟨p0, hp0⟩ : ∃ y9, y9 = xs (i + 1) := ⟨_, rfl⟩
  refine lv_aload_n hx hb dL_law_968 rfl (lv_at hl 1 rfl) ?_
  refine lv_aload_n hx hb dL_law_969 rfl (lv_at hl 0 rfl) ?_
  refine lv_iload hx hb dL_law_970 (lv_at hl 5 rfl) ?_
  refine lv_iconst (v := nI 1) hx hb dL_law_972 (by decide) ?_
  refine nv_iadd hx hb dL_law_973 ?_
  refine va_sld hx hb hX hbl hbA hS (vp_in_nI (show i + 1 < L by omega) (by omega)) dL_law_974 ?_
  refine tp_i (show xs (nI (i + 1)).toNatClampNeg = p0 from by rw [nI_clamp (by omega), hp0]) ?_
  refine lv_aload_n hx hb dL_law_975 rfl (lv_at hl 3 rfl) ?_
  refine run_i (S := (Unit × Int32 × (Nat → Int64)) ⊕ Unit) (run_SW (As := [.ref (x 0), .int p0, .ref ol]) (rest := []) (bs := [loC E ol lo, dbC E od dO, coC E x a a2 a3 b d k pa y w, stC E a g, stC E a2 g2, stC E a3 g3, hhC E b hs hg nx ct, diC E d co re, grC E k so gw, prC E pa q F, sbO E y v ml n, baC E v cp t, moC E mb z g gs ar]) (cb := [loC E ol lo, coC E x a a2 a3 b d k pa y w, stC E a g]) hx hb hml hown hts hK hZ hDD hA (c_L_dissents l hst E _ x a a2 a3 b d k pa y w g B hI p0 ol lo) l_L_192 rfl ⟨⟨rfl, rfl⟩, Nat.le_of_ble_eq_true rfl, Nat.le_of_ble_eq_true rfl⟩ [0, 2, 3] rfl (by decide) hP hD hS hl.1 rfl (Nat.le_of_ble_eq_true rfl) dL_law_976 ⟨by show cells + 1 ≤ 603072; omega, by show slots + 6 ≤ 7174250; omega⟩) hA hP hD hS (isC := [0, 2, 3]) rfl [1, 4, 5, 6, 7, 8, 9, 10, 11, 12] [10, 0, 11, 12, 1, 2, 3, 4, 5, 6, 7, 8, 9] (br := [dbC E od dO, stC E a2 g2, stC E a3 g3, hhC E b hs hg nx ct, diC E d co re, grC E k so gw, prC E pa q F, sbO E y v ml n, baC E v cp t, moC E mb z g gs ar]) (bs2 := fun u => Sum.elim (fun (vq : Unit × Int32 × (Nat → Int64)) => [loC E ol vq.2.2, dbC E od dO, coC E x a a2 a3 b d k pa y w, stC E a g, stC E a2 g2, stC E a3 g3, hhC E b hs hg nx ct, diC E d co re, grC E k so gw, prC E pa q F, sbO E y v ml n, baC E v cp t, moC E mb z g gs ar]) (fun (vq : Unit) => [loC E ol lo, dbC E od dO, coC E x a a2 a3 b d k pa y w, stC E a g, stC E a2 g2, stC E a3 g3, hhC E b hs hg nx ct, diC E d co re, grC E k so gw, prC E pa q F, sbO E y v ml n, baC E v cp t, moC E mb z g gs ar]) u) rfl (by decide) (fun u => by rcases u with u | u <;> rfl) (by decide) (fun r u H locs hw hP hD hS => ?_)
  rcases u with vq | vq
  · skip
    obtain ⟨u9, r9, lo9⟩ := vq
    have hw7 : r = nI 0 ∧ (hasM g p0 = true ∧ r9 = nI (g 6 (tn p0))) ∧ lo9 0 = r9.toInt64 := hw
    clear hw
    obtain ⟨rfl, hw⟩ := hw7
    have hP : va_P E.1 vwCl ([loC E ol lo9, dbC E od dO, coC E x a a2 a3 b d k pa y w, stC E a g, stC E a2 g2, stC E a3 g3, hhC E b hs hg nx ct, diC E d co re, grC E k so gw, prC E pa q F, sbO E y v ml n, baC E v cp t, moC E mb z g gs ar] : List va_W).flatten H := hP
    have hD : va_D A ([loC E ol lo9, dbC E od dO, coC E x a a2 a3 b d k pa y w, stC E a g, stC E a2 g2, stC E a3 g3, hhC E b hs hg nx ct, diC E d co re, grC E k so gw, prC E pa q F, sbO E y v ml n, baC E v cp t, moC E mb z g gs ar] : List va_W).flatten := hD
    obtain ⟨⟨hcnd, hr9⟩, hlo⟩ := hw
    subst hr9
    refine lv_istore (lv' := [(6, .int (nI 0)), (0, .ref sb), (1, .ref (x 0)), (2, .ref (mb 0)), (3, .ref ol), (4, .ref od), (5, .int (nI i))]) hx hb dL_law_979 hl (by decide) rfl (fun ls hl => ?_)
    refine lv_aload_n hx hb dL_law_981 rfl (lv_at hl 3 rfl) ?_
    refine lv_aload_n hx hb dL_law_982 rfl (lv_at hl 1 rfl) ?_
    refine lv_iload hx hb dL_law_983 (lv_at hl 6 rfl) ?_
    refine lv_iconst (v := nI 1) hx hb dL_law_985 (by decide) ?_
    refine nv_iadd hx hb dL_law_986 ?_
    refine va_sld hx hb hX hbl hbA hS (vp_in_nI (show i + 1 < L by omega) (by omega)) dL_law_987 ?_
    refine tp_i (show xs (nI (i + 1)).toNatClampNeg = p0 from by rw [nI_clamp (by omega), hp0]) ?_
    refine run_i (S := Unit) (run_V (As := [.int p0]) (rest := []) (bs := [loC E ol lo9, dbC E od dO, coC E x a a2 a3 b d k pa y w, stC E a g, stC E a2 g2, stC E a3 g3, hhC E b hs hg nx ct, diC E d co re, grC E k so gw, prC E pa q F, sbO E y v ml n, baC E v cp t, moC E mb z g gs ar]) (cb := [moC E mb z g gs ar]) hx hb hml hown hts hK hZ hA (c_X6_dissents l E _ mb z g gs ar p0 hmc) l_L_194 rfl ⟨⟨rfl, rfl⟩, Nat.le_of_ble_eq_true rfl, Nat.le_of_ble_eq_true rfl⟩ 10 rfl [12] rfl (by decide) rfl hP hD hS hl.1 rfl (Nat.le_of_ble_eq_true rfl) dL_law_988 ⟨by show (cells + 1) + 0 ≤ 603072; omega, by show (slots + 6) + 0 ≤ 7174250; omega⟩) hA hP hD hS (isC := [12]) rfl [0, 1, 2, 3, 4, 5, 6, 7, 8, 9, 10, 11] [0, 1, 2, 3, 4, 5, 6, 7, 8, 9, 10, 11, 12] (br := [loC E ol lo9, dbC E od dO, coC E x a a2 a3 b d k pa y w, stC E a g, stC E a2 g2, stC E a3 g3, hhC E b hs hg nx ct, diC E d co re, grC E k so gw, prC E pa q F, sbO E y v ml n, baC E v cp t]) (bs2 := fun _ => [loC E ol lo9, dbC E od dO, coC E x a a2 a3 b d k pa y w, stC E a g, stC E a2 g2, stC E a3 g3, hhC E b hs hg nx ct, diC E d co re, grC E k so gw, prC E pa q F, sbO E y v ml n, baC E v cp t, moC E mb (upn z 0 (if hasM g p0 = true then 0 else 1)) g gs ar]) rfl (by decide) (fun _ => rfl) (by decide) (fun r u6 H locs hw6 hP hD hS => ?_)
    have hw6 : r = nI (if hasM g p0 = true then g 6 (tn p0) else 0) := hw6
    subst hw6
    refine tp_i (show nI (if hasM g p0 = true then g 6 (tn p0) else 0) = nI (g 6 (tn p0)) from congrArg nI (if_pos hcnd)) ?_
    refine lv_istore (lv' := [(7, .int (nI (g 6 (tn p0)))), (6, .int (nI 0)), (0, .ref sb), (1, .ref (x 0)), (2, .ref (mb 0)), (3, .ref ol), (4, .ref od), (5, .int (nI i))]) hx hb dL_law_991 hl (by decide) rfl (fun ls hl => ?_)
    refine lv_aload_n hx hb dL_law_993 rfl (lv_at hl 4 rfl) ?_
    refine run_i (S := Unit) (run_V (As := []) (rest := []) (bs := [loC E ol lo9, dbC E od dO, coC E x a a2 a3 b d k pa y w, stC E a g, stC E a2 g2, stC E a3 g3, hhC E b hs hg nx ct, diC E d co re, grC E k so gw, prC E pa q F, sbO E y v ml n, baC E v cp t, moC E mb (upn z 0 (if hasM g p0 = true then 0 else 1)) g gs ar]) (cb := [moC E mb (upn z 0 (if hasM g p0 = true then 0 else 1)) g gs ar]) hx hb hml hown hts hK hZ hA (c_X6_thrown l E _ mb (upn z 0 (if hasM g p0 = true then 0 else 1)) g gs ar) l_L_152 rfl ⟨⟨rfl, rfl⟩, Nat.le_of_ble_eq_true rfl, Nat.le_of_ble_eq_true rfl⟩ 10 rfl [12] rfl (by decide) rfl hP hD hS hl.1 rfl (Nat.le_of_ble_eq_true rfl) dL_law_994 ⟨by show ((cells + 1) + 0) + 0 ≤ 603072; omega, by show ((slots + 6) + 0) + 0 ≤ 7174250; omega⟩) hA hP hD hS (isC := [12]) rfl [0, 1, 2, 3, 4, 5, 6, 7, 8, 9, 10, 11] [0, 1, 2, 3, 4, 5, 6, 7, 8, 9, 10, 11, 12] (br := [loC E ol lo9, dbC E od dO, coC E x a a2 a3 b d k pa y w, stC E a g, stC E a2 g2, stC E a3 g3, hhC E b hs hg nx ct, diC E d co re, grC E k so gw, prC E pa q F, sbO E y v ml n, baC E v cp t]) (bs2 := fun _ => [loC E ol lo9, dbC E od dO, coC E x a a2 a3 b d k pa y w, stC E a g, stC E a2 g2, stC E a3 g3, hhC E b hs hg nx ct, diC E d co re, grC E k so gw, prC E pa q F, sbO E y v ml n, baC E v cp t, moC E mb (upn z 0 (if hasM g p0 = true then 0 else 1)) g gs ar]) rfl (by decide) (fun _ => rfl) (by decide) (fun r u6 H locs hw6 hP hD hS => ?_)
    have hw6 : r = nI ((upn z 0 (if hasM g p0 = true then 0 else 1)) 0) := hw6
    subst hw6
    refine lv_iload hx hb dL_law_997 (lv_at hl 1 rfl) ?_
    refine lv_icmp_eq (tgt := 1004) hx hb dL_law_999 (by decide) (fun _ => ?_) (fun hc => absurd (show nI ((upn z 0 (if hasM g p0 = true then 0 else 1)) 0) = nI 0 from congrArg nI (upn_s.trans (if_pos hcnd))) hc)
    refine lv_iload hx hb dL_law_1004 (lv_at hl 1 rfl) ?_
    refine nv_if_ne (X := ((0 : Nat) : Int)) hx hb (nI_toInt (by omega)) (tgt := 1021) dL_law_1006 (by decide) (fun c_1 => ?_) (fun c_1 => ?_)
    · exact absurd c_1 (by omega)
    · skip
      refine lv_aload_n hx hb dL_law_1009 rfl (lv_at hl 5 rfl) ?_
      refine lv_iconst (v := nI 0) hx hb dL_law_1010 (by decide) ?_
      refine va_lald hx hb hK hP 0 4 rfl rfl (vp_in_nI (show 0 < 1 by decide) (by decide)) dL_law_1011 ?_
      rw [show lo9 (nI 0).toNatClampNeg = (nI (g 6 (tn p0))).toInt64 from by rw [nI_clamp (show 0 < 2 ^ 31 by decide)]; exact hlo]
      refine lv_iload hx hb dL_law_1012 (lv_at hl 0 rfl) ?_
      refine lv_i2l hx hb dL_law_1014 rfl ?_
      refine W.lcmp hx hb dL_law_1015 ?_
      refine tp_i (show lg_cmp ((nI (g 6 (tn p0))).toInt64) ((nI (g 6 (tn p0))).toInt64) = nI 0 from lg_eq _) ?_
      refine nv_if_eq (X := ((0 : Nat) : Int)) hx hb (nI_toInt (by omega)) (tgt := 1021) dL_law_1016 (by decide) (fun c_2 => ?_) (fun c_2 => ?_)
      · skip
        refine lv_goto (tgt := 2541) hx hb dL_law_1021 (by decide) ?_
        exact W_widen (by omega) (by omega) (kk w g g2 g3 hg nx ct co re so gw q F v ml n cp t (upn z 0 (if hasM g p0 = true then 0 else 1)) gs ar lo9 dO _ _ _ (rel_q hR hB4) hP hD hS (lv_sub hl [2, 3, 4, 5, 6, 7] rfl))
      · exact absurd c_2 (by omega)
  · skip
    have hw : r = nI 1 ∧ hasM g p0 = false := hw
    have hP : va_P E.1 vwCl ([loC E ol lo, dbC E od dO, coC E x a a2 a3 b d k pa y w, stC E a g, stC E a2 g2, stC E a3 g3, hhC E b hs hg nx ct, diC E d co re, grC E k so gw, prC E pa q F, sbO E y v ml n, baC E v cp t, moC E mb z g gs ar] : List va_W).flatten H := hP
    have hD : va_D A ([loC E ol lo, dbC E od dO, coC E x a a2 a3 b d k pa y w, stC E a g, stC E a2 g2, stC E a3 g3, hhC E b hs hg nx ct, diC E d co re, grC E k so gw, prC E pa q F, sbO E y v ml n, baC E v cp t, moC E mb z g gs ar] : List va_W).flatten := hD
    obtain ⟨rfl, hq⟩ := hw
    refine lv_istore (lv' := [(6, .int (nI 1)), (0, .ref sb), (1, .ref (x 0)), (2, .ref (mb 0)), (3, .ref ol), (4, .ref od), (5, .int (nI i))]) hx hb dL_law_979 hl (by decide) rfl (fun ls hl => ?_)
    refine lv_aload_n hx hb dL_law_981 rfl (lv_at hl 3 rfl) ?_
    refine lv_aload_n hx hb dL_law_982 rfl (lv_at hl 1 rfl) ?_
    refine lv_iload hx hb dL_law_983 (lv_at hl 6 rfl) ?_
    refine lv_iconst (v := nI 1) hx hb dL_law_985 (by decide) ?_
    refine nv_iadd hx hb dL_law_986 ?_
    refine va_sld hx hb hX hbl hbA hS (vp_in_nI (show i + 1 < L by omega) (by omega)) dL_law_987 ?_
    refine tp_i (show xs (nI (i + 1)).toNatClampNeg = p0 from by rw [nI_clamp (by omega), hp0]) ?_
    refine run_i (S := Unit) (run_V (As := [.int p0]) (rest := []) (bs := [loC E ol lo, dbC E od dO, coC E x a a2 a3 b d k pa y w, stC E a g, stC E a2 g2, stC E a3 g3, hhC E b hs hg nx ct, diC E d co re, grC E k so gw, prC E pa q F, sbO E y v ml n, baC E v cp t, moC E mb z g gs ar]) (cb := [moC E mb z g gs ar]) hx hb hml hown hts hK hZ hA (c_X6_dissents l E _ mb z g gs ar p0 hmc) l_L_194 rfl ⟨⟨rfl, rfl⟩, Nat.le_of_ble_eq_true rfl, Nat.le_of_ble_eq_true rfl⟩ 10 rfl [12] rfl (by decide) rfl hP hD hS hl.1 rfl (Nat.le_of_ble_eq_true rfl) dL_law_988 ⟨by show (cells + 1) + 0 ≤ 603072; omega, by show (slots + 6) + 0 ≤ 7174250; omega⟩) hA hP hD hS (isC := [12]) rfl [0, 1, 2, 3, 4, 5, 6, 7, 8, 9, 10, 11] [0, 1, 2, 3, 4, 5, 6, 7, 8, 9, 10, 11, 12] (br := [loC E ol lo, dbC E od dO, coC E x a a2 a3 b d k pa y w, stC E a g, stC E a2 g2, stC E a3 g3, hhC E b hs hg nx ct, diC E d co re, grC E k so gw, prC E pa q F, sbO E y v ml n, baC E v cp t]) (bs2 := fun _ => [loC E ol lo, dbC E od dO, coC E x a a2 a3 b d k pa y w, stC E a g, stC E a2 g2, stC E a3 g3, hhC E b hs hg nx ct, diC E d co re, grC E k so gw, prC E pa q F, sbO E y v ml n, baC E v cp t, moC E mb (upn z 0 (if hasM g p0 = true then 0 else 1)) g gs ar]) rfl (by decide) (fun _ => rfl) (by decide) (fun r u6 H locs hw6 hP hD hS => ?_)
    have hw6 : r = nI (if hasM g p0 = true then g 6 (tn p0) else 0) := hw6
    subst hw6
    refine lv_istore (lv' := [(7, .int (nI (if hasM g p0 = true then g 6 (tn p0) else 0))), (6, .int (nI 1)), (0, .ref sb), (1, .ref (x 0)), (2, .ref (mb 0)), (3, .ref ol), (4, .ref od), (5, .int (nI i))]) hx hb dL_law_991 hl (by decide) rfl (fun ls hl => ?_)
    refine lv_aload_n hx hb dL_law_993 rfl (lv_at hl 4 rfl) ?_
    refine run_i (S := Unit) (run_V (As := []) (rest := []) (bs := [loC E ol lo, dbC E od dO, coC E x a a2 a3 b d k pa y w, stC E a g, stC E a2 g2, stC E a3 g3, hhC E b hs hg nx ct, diC E d co re, grC E k so gw, prC E pa q F, sbO E y v ml n, baC E v cp t, moC E mb (upn z 0 (if hasM g p0 = true then 0 else 1)) g gs ar]) (cb := [moC E mb (upn z 0 (if hasM g p0 = true then 0 else 1)) g gs ar]) hx hb hml hown hts hK hZ hA (c_X6_thrown l E _ mb (upn z 0 (if hasM g p0 = true then 0 else 1)) g gs ar) l_L_152 rfl ⟨⟨rfl, rfl⟩, Nat.le_of_ble_eq_true rfl, Nat.le_of_ble_eq_true rfl⟩ 10 rfl [12] rfl (by decide) rfl hP hD hS hl.1 rfl (Nat.le_of_ble_eq_true rfl) dL_law_994 ⟨by show ((cells + 1) + 0) + 0 ≤ 603072; omega, by show ((slots + 6) + 0) + 0 ≤ 7174250; omega⟩) hA hP hD hS (isC := [12]) rfl [0, 1, 2, 3, 4, 5, 6, 7, 8, 9, 10, 11] [0, 1, 2, 3, 4, 5, 6, 7, 8, 9, 10, 11, 12] (br := [loC E ol lo, dbC E od dO, coC E x a a2 a3 b d k pa y w, stC E a g, stC E a2 g2, stC E a3 g3, hhC E b hs hg nx ct, diC E d co re, grC E k so gw, prC E pa q F, sbO E y v ml n, baC E v cp t]) (bs2 := fun _ => [loC E ol lo, dbC E od dO, coC E x a a2 a3 b d k pa y w, stC E a g, stC E a2 g2, stC E a3 g3, hhC E b hs hg nx ct, diC E d co re, grC E k so gw, prC E pa q F, sbO E y v ml n, baC E v cp t, moC E mb (upn z 0 (if hasM g p0 = true then 0 else 1)) g gs ar]) rfl (by decide) (fun _ => rfl) (by decide) (fun r u6 H locs hw6 hP hD hS => ?_)
    have hw6 : r = nI ((upn z 0 (if hasM g p0 = true then 0 else 1)) 0) := hw6
    subst hw6
    refine lv_iload hx hb dL_law_997 (lv_at hl 1 rfl) ?_
    refine lv_icmp_eq (tgt := 1004) hx hb dL_law_999 (by decide) (fun _ => ?_) (fun hc => absurd (show nI ((upn z 0 (if hasM g p0 = true then 0 else 1)) 0) = nI 1 from congrArg nI (upn_s.trans (if_neg (fun h9 => by rw [hq] at h9; cases h9)))) hc)
    refine lv_iload hx hb dL_law_1004 (lv_at hl 1 rfl) ?_
    refine nv_if_ne (X := ((1 : Nat) : Int)) hx hb (nI_toInt (by omega)) (tgt := 1021) dL_law_1006 (by decide) (fun c_3 => ?_) (fun c_3 => ?_)
    · skip
      refine lv_goto (tgt := 2541) hx hb dL_law_1021 (by decide) ?_
      exact W_widen (by omega) (by omega) (kk w g g2 g3 hg nx ct co re so gw q F v ml n cp t (upn z 0 (if hasM g p0 = true then 0 else 1)) gs ar lo dO _ _ _ (rel_q hR hB4) hP hD hS (lv_sub hl [2, 3, 4, 5, 6, 7] rfl))
    · exact absurd c_3 (by omega)
set_option maxHeartbeats 4000000 in
set_option maxRecDepth 100000 in
theorem st_interval {p : Program} {l : Launch} {e : Env} {s : State} {m : MethodId} {args : Array Value} {below : List Frame} {meth : Method} {c : Code} {E : EE} {A : Nat → Prop} {Q : State → Prop} {x a a2 a3 b d k pa y : Nat → Nat} {hs : Nat → Nat → Nat} {mb : Nat → Nat} {ol od sb : Nat} {i B cells slots L : Nat} {xs : Nat → Int32} (C : LCx p l s m args c E A sb L xs) (hL : L ≤ 2560) (hi : i + 5 ≤ L) (hB4 : B + 420 ≤ 300000) (hrc : cells + 13 ≤ 603072 ∧ slots + 414 ≤ 7174250) (kk : LGo p l e s m args below meth c E A Q x a a2 a3 b d k pa y hs mb ol od sb i (B + 420) (cells + 13) (slots + 414) 2541) : LGo p l e s m args below meth c E A Q x a a2 a3 b d k pa y hs mb ol od sb i B cells slots 1024 := by
  obtain ⟨hx, hb, hml, hown, hts, hK, hZ, hDD, hA, hX, hbl, hbA, hst⟩ := C
  intro w g g2 g3 hg nx ct co re so gw q F v ml n cp t z gs ar lo dO H locs ls hR hP hD hS hl
  obtain ⟨hI, ⟨hs1, hs2, hs3⟩, ⟨hnx, hct, hz1, hh9⟩, ⟨hw1, hw2, hz5, hz6⟩, ⟨hq1, hq2, hF0, hF9⟩, ⟨hn1, hn2, hcp, ht9, htx, ho2⟩⟩ := id hR
  have hmc := hI.mc
  obtain ⟨p0, hp0⟩ : ∃ y9, y9 = xs (i + 1) := ⟨_, rfl⟩
  obtain ⟨p1, hp1⟩ : ∃ y9, y9 = xs (i + 2) := ⟨_, rfl⟩
  refine lv_aload_n hx hb dL_law_1024 rfl (lv_at hl 1 rfl) ?_
  refine lv_aload_n hx hb dL_law_1025 rfl (lv_at hl 0 rfl) ?_
  refine lv_iload hx hb dL_law_1026 (lv_at hl 5 rfl) ?_
  refine lv_iconst (v := nI 1) hx hb dL_law_1028 (by decide) ?_
  refine nv_iadd hx hb dL_law_1029 ?_
  refine va_sld hx hb hX hbl hbA hS (vp_in_nI (show i + 1 < L by omega) (by omega)) dL_law_1030 ?_
  refine tp_i (show xs (nI (i + 1)).toNatClampNeg = p0 from by rw [nI_clamp (by omega), hp0]) ?_
  refine lv_aload_n hx hb dL_law_1031 rfl (lv_at hl 0 rfl) ?_
  refine lv_iload hx hb dL_law_1032 (lv_at hl 5 rfl) ?_
  refine lv_iconst (v := nI 2) hx hb dL_law_1034 (by decide) ?_
  refine nv_iadd hx hb dL_law_1035 ?_
  refine va_sld hx hb hX hbl hbA hS (vp_in_nI (show i + 2 < L by omega) (by omega)) dL_law_1036 ?_
  refine tp_i (show xs (nI (i + 2)).toNatClampNeg = p1 from by rw [nI_clamp (by omega), hp1]) ?_
  refine lv_aload_n hx hb dL_law_1037 rfl (lv_at hl 3 rfl) ?_
  refine run_i (S := (Unit × Int32 × (Nat → Int64)) ⊕ Unit) (run_SW (As := [.ref (x 0), .int p0, .int p1, .ref ol]) (rest := []) (bs := [loC E ol lo, dbC E od dO, coC E x a a2 a3 b d k pa y w, stC E a g, stC E a2 g2, stC E a3 g3, hhC E b hs hg nx ct, diC E d co re, grC E k so gw, prC E pa q F, sbO E y v ml n, baC E v cp t, moC E mb z g gs ar]) (cb := [loC E ol lo, coC E x a a2 a3 b d k pa y w, stC E a g]) hx hb hml hown hts hK hZ hDD hA (c_L_interval l hst E _ x a a2 a3 b d k pa y w g B hI p0 p1 ol lo) l_L_195 rfl ⟨⟨rfl, rfl⟩, Nat.le_of_ble_eq_true rfl, Nat.le_of_ble_eq_true rfl⟩ [0, 2, 3] rfl (by decide) hP hD hS hl.1 rfl (Nat.le_of_ble_eq_true rfl) dL_law_1038 ⟨by show cells + 2 ≤ 603072; omega, by show slots + 12 ≤ 7174250; omega⟩) hA hP hD hS (isC := [0, 2, 3]) rfl [1, 4, 5, 6, 7, 8, 9, 10, 11, 12] [10, 0, 11, 12, 1, 2, 3, 4, 5, 6, 7, 8, 9] (br := [dbC E od dO, stC E a2 g2, stC E a3 g3, hhC E b hs hg nx ct, diC E d co re, grC E k so gw, prC E pa q F, sbO E y v ml n, baC E v cp t, moC E mb z g gs ar]) (bs2 := fun u => Sum.elim (fun (vq : Unit × Int32 × (Nat → Int64)) => [loC E ol vq.2.2, dbC E od dO, coC E x a a2 a3 b d k pa y w, stC E a g, stC E a2 g2, stC E a3 g3, hhC E b hs hg nx ct, diC E d co re, grC E k so gw, prC E pa q F, sbO E y v ml n, baC E v cp t, moC E mb z g gs ar]) (fun (vq : Unit) => [loC E ol lo, dbC E od dO, coC E x a a2 a3 b d k pa y w, stC E a g, stC E a2 g2, stC E a3 g3, hhC E b hs hg nx ct, diC E d co re, grC E k so gw, prC E pa q F, sbO E y v ml n, baC E v cp t, moC E mb z g gs ar]) u) rfl (by decide) (fun u => by rcases u with u | u <;> rfl) (by decide) (fun r u H locs hw hP hD hS => ?_)
  rcases u with vq | vq
  · skip
    obtain ⟨u9, r9, lo9⟩ := vq
    have hw7 : r = nI 0 ∧ ((hasM g p0 && hasM g p1) = true ∧ r9 = nI (ap (g 3 (tn p0)) (g 3 (tn p1)))) ∧ lo9 0 = r9.toInt64 := hw
    clear hw
    obtain ⟨rfl, hw⟩ := hw7
    have hP : va_P E.1 vwCl ([loC E ol lo9, dbC E od dO, coC E x a a2 a3 b d k pa y w, stC E a g, stC E a2 g2, stC E a3 g3, hhC E b hs hg nx ct, diC E d co re, grC E k so gw, prC E pa q F, sbO E y v ml n, baC E v cp t, moC E mb z g gs ar] : List va_W).flatten H := hP
    have hD : va_D A ([loC E ol lo9, dbC E od dO, coC E x a a2 a3 b d k pa y w, stC E a g, stC E a2 g2, stC E a3 g3, hhC E b hs hg nx ct, diC E d co re, grC E k so gw, prC E pa q F, sbO E y v ml n, baC E v cp t, moC E mb z g gs ar] : List va_W).flatten := hD
    obtain ⟨⟨hcnd, hr9⟩, hlo⟩ := hw
    subst hr9
    refine lv_istore (lv' := [(6, .int (nI 0)), (0, .ref sb), (1, .ref (x 0)), (2, .ref (mb 0)), (3, .ref ol), (4, .ref od), (5, .int (nI i))]) hx hb dL_law_1041 hl (by decide) rfl (fun ls hl => ?_)
    refine lv_aload_n hx hb dL_law_1043 rfl (lv_at hl 3 rfl) ?_
    refine lv_aload_n hx hb dL_law_1044 rfl (lv_at hl 1 rfl) ?_
    refine lv_iload hx hb dL_law_1045 (lv_at hl 6 rfl) ?_
    refine lv_iconst (v := nI 1) hx hb dL_law_1047 (by decide) ?_
    refine nv_iadd hx hb dL_law_1048 ?_
    refine va_sld hx hb hX hbl hbA hS (vp_in_nI (show i + 1 < L by omega) (by omega)) dL_law_1049 ?_
    refine tp_i (show xs (nI (i + 1)).toNatClampNeg = p0 from by rw [nI_clamp (by omega), hp0]) ?_
    refine lv_aload_n hx hb dL_law_1050 rfl (lv_at hl 1 rfl) ?_
    refine lv_iload hx hb dL_law_1051 (lv_at hl 6 rfl) ?_
    refine lv_iconst (v := nI 2) hx hb dL_law_1053 (by decide) ?_
    refine nv_iadd hx hb dL_law_1054 ?_
    refine va_sld hx hb hX hbl hbA hS (vp_in_nI (show i + 2 < L by omega) (by omega)) dL_law_1055 ?_
    refine tp_i (show xs (nI (i + 2)).toNatClampNeg = p1 from by rw [nI_clamp (by omega), hp1]) ?_
    refine run_i (S := Unit) (run_V (As := [.int p0, .int p1]) (rest := []) (bs := [loC E ol lo9, dbC E od dO, coC E x a a2 a3 b d k pa y w, stC E a g, stC E a2 g2, stC E a3 g3, hhC E b hs hg nx ct, diC E d co re, grC E k so gw, prC E pa q F, sbO E y v ml n, baC E v cp t, moC E mb z g gs ar]) (cb := [moC E mb z g gs ar]) hx hb hml hown hts hK hZ hA (c_X6_interval l E _ mb z g gs ar B hI p0 p1) l_L_197 rfl ⟨⟨rfl, rfl⟩, Nat.le_of_ble_eq_true rfl, Nat.le_of_ble_eq_true rfl⟩ 10 rfl [12] rfl (by decide) rfl hP hD hS hl.1 rfl (Nat.le_of_ble_eq_true rfl) dL_law_1056 ⟨by show (cells + 2) + 0 ≤ 603072; omega, by show (slots + 12) + 0 ≤ 7174250; omega⟩) hA hP hD hS (isC := [12]) rfl [0, 1, 2, 3, 4, 5, 6, 7, 8, 9, 10, 11] [0, 1, 2, 3, 4, 5, 6, 7, 8, 9, 10, 11, 12] (br := [loC E ol lo9, dbC E od dO, coC E x a a2 a3 b d k pa y w, stC E a g, stC E a2 g2, stC E a3 g3, hhC E b hs hg nx ct, diC E d co re, grC E k so gw, prC E pa q F, sbO E y v ml n, baC E v cp t]) (bs2 := fun _ => [loC E ol lo9, dbC E od dO, coC E x a a2 a3 b d k pa y w, stC E a g, stC E a2 g2, stC E a3 g3, hhC E b hs hg nx ct, diC E d co re, grC E k so gw, prC E pa q F, sbO E y v ml n, baC E v cp t, moC E mb (upn z 0 (if (hasM g p0 && hasM g p1) = true then 0 else 1)) g gs ar]) rfl (by decide) (fun _ => rfl) (by decide) (fun r u6 H locs hw6 hP hD hS => ?_)
    have hw6 : r = nI (if (hasM g p0 && hasM g p1) = true then ap (g 3 (tn p0)) (g 3 (tn p1)) else 0) := hw6
    subst hw6
    refine tp_i (show nI (if (hasM g p0 && hasM g p1) = true then ap (g 3 (tn p0)) (g 3 (tn p1)) else 0) = nI (ap (g 3 (tn p0)) (g 3 (tn p1))) from congrArg nI (if_pos hcnd)) ?_
    refine lv_istore (lv' := [(7, .int (nI (ap (g 3 (tn p0)) (g 3 (tn p1))))), (6, .int (nI 0)), (0, .ref sb), (1, .ref (x 0)), (2, .ref (mb 0)), (3, .ref ol), (4, .ref od), (5, .int (nI i))]) hx hb dL_law_1059 hl (by decide) rfl (fun ls hl => ?_)
    refine lv_aload_n hx hb dL_law_1061 rfl (lv_at hl 4 rfl) ?_
    refine run_i (S := Unit) (run_V (As := []) (rest := []) (bs := [loC E ol lo9, dbC E od dO, coC E x a a2 a3 b d k pa y w, stC E a g, stC E a2 g2, stC E a3 g3, hhC E b hs hg nx ct, diC E d co re, grC E k so gw, prC E pa q F, sbO E y v ml n, baC E v cp t, moC E mb (upn z 0 (if (hasM g p0 && hasM g p1) = true then 0 else 1)) g gs ar]) (cb := [moC E mb (upn z 0 (if (hasM g p0 && hasM g p1) = true then 0 else 1)) g gs ar]) hx hb hml hown hts hK hZ hA (c_X6_thrown l E _ mb (upn z 0 (if (hasM g p0 && hasM g p1) = true then 0 else 1)) g gs ar) l_L_152 rfl ⟨⟨rfl, rfl⟩, Nat.le_of_ble_eq_true rfl, Nat.le_of_ble_eq_true rfl⟩ 10 rfl [12] rfl (by decide) rfl hP hD hS hl.1 rfl (Nat.le_of_ble_eq_true rfl) dL_law_1062 ⟨by show ((cells + 2) + 0) + 0 ≤ 603072; omega, by show ((slots + 12) + 0) + 0 ≤ 7174250; omega⟩) hA hP hD hS (isC := [12]) rfl [0, 1, 2, 3, 4, 5, 6, 7, 8, 9, 10, 11] [0, 1, 2, 3, 4, 5, 6, 7, 8, 9, 10, 11, 12] (br := [loC E ol lo9, dbC E od dO, coC E x a a2 a3 b d k pa y w, stC E a g, stC E a2 g2, stC E a3 g3, hhC E b hs hg nx ct, diC E d co re, grC E k so gw, prC E pa q F, sbO E y v ml n, baC E v cp t]) (bs2 := fun _ => [loC E ol lo9, dbC E od dO, coC E x a a2 a3 b d k pa y w, stC E a g, stC E a2 g2, stC E a3 g3, hhC E b hs hg nx ct, diC E d co re, grC E k so gw, prC E pa q F, sbO E y v ml n, baC E v cp t, moC E mb (upn z 0 (if (hasM g p0 && hasM g p1) = true then 0 else 1)) g gs ar]) rfl (by decide) (fun _ => rfl) (by decide) (fun r u6 H locs hw6 hP hD hS => ?_)
    have hw6 : r = nI ((upn z 0 (if (hasM g p0 && hasM g p1) = true then 0 else 1)) 0) := hw6
    subst hw6
    refine lv_iload hx hb dL_law_1065 (lv_at hl 1 rfl) ?_
    refine lv_icmp_eq (tgt := 1072) hx hb dL_law_1067 (by decide) (fun _ => ?_) (fun hc => absurd (show nI ((upn z 0 (if (hasM g p0 && hasM g p1) = true then 0 else 1)) 0) = nI 0 from congrArg nI (upn_s.trans (if_pos hcnd))) hc)
    refine lv_iload hx hb dL_law_1072 (lv_at hl 1 rfl) ?_
    refine nv_if_ne (X := ((0 : Nat) : Int)) hx hb (nI_toInt (by omega)) (tgt := 1089) dL_law_1074 (by decide) (fun c_1 => ?_) (fun c_1 => ?_)
    · exact absurd c_1 (by omega)
    · skip
      refine lv_aload_n hx hb dL_law_1077 rfl (lv_at hl 5 rfl) ?_
      refine lv_iconst (v := nI 0) hx hb dL_law_1078 (by decide) ?_
      refine va_lald hx hb hK hP 0 4 rfl rfl (vp_in_nI (show 0 < 1 by decide) (by decide)) dL_law_1079 ?_
      rw [show lo9 (nI 0).toNatClampNeg = (nI (ap (g 3 (tn p0)) (g 3 (tn p1)))).toInt64 from by rw [nI_clamp (show 0 < 2 ^ 31 by decide)]; exact hlo]
      refine lv_iload hx hb dL_law_1080 (lv_at hl 0 rfl) ?_
      refine lv_i2l hx hb dL_law_1082 rfl ?_
      refine W.lcmp hx hb dL_law_1083 ?_
      refine tp_i (show lg_cmp ((nI (ap (g 3 (tn p0)) (g 3 (tn p1)))).toInt64) ((nI (ap (g 3 (tn p0)) (g 3 (tn p1)))).toInt64) = nI 0 from lg_eq _) ?_
      refine nv_if_eq (X := ((0 : Nat) : Int)) hx hb (nI_toInt (by omega)) (tgt := 1089) dL_law_1084 (by decide) (fun c_2 => ?_) (fun c_2 => ?_)
      · skip
        refine lv_goto (tgt := 2541) hx hb dL_law_1089 (by decide) ?_
        exact W_widen (by omega) (by omega) (kk w g g2 g3 hg nx ct co re so gw q F v ml n cp t (upn z 0 (if (hasM g p0 && hasM g p1) = true then 0 else 1)) gs ar lo9 dO _ _ _ (rel_q hR hB4) hP hD hS (lv_sub hl [2, 3, 4, 5, 6, 7] rfl))
      · exact absurd c_2 (by omega)
  · skip
    have hw : r = nI 1 ∧ (hasM g p0 && hasM g p1) = false := hw
    have hP : va_P E.1 vwCl ([loC E ol lo, dbC E od dO, coC E x a a2 a3 b d k pa y w, stC E a g, stC E a2 g2, stC E a3 g3, hhC E b hs hg nx ct, diC E d co re, grC E k so gw, prC E pa q F, sbO E y v ml n, baC E v cp t, moC E mb z g gs ar] : List va_W).flatten H := hP
    have hD : va_D A ([loC E ol lo, dbC E od dO, coC E x a a2 a3 b d k pa y w, stC E a g, stC E a2 g2, stC E a3 g3, hhC E b hs hg nx ct, diC E d co re, grC E k so gw, prC E pa q F, sbO E y v ml n, baC E v cp t, moC E mb z g gs ar] : List va_W).flatten := hD
    obtain ⟨rfl, hq⟩ := hw
    refine lv_istore (lv' := [(6, .int (nI 1)), (0, .ref sb), (1, .ref (x 0)), (2, .ref (mb 0)), (3, .ref ol), (4, .ref od), (5, .int (nI i))]) hx hb dL_law_1041 hl (by decide) rfl (fun ls hl => ?_)
    refine lv_aload_n hx hb dL_law_1043 rfl (lv_at hl 3 rfl) ?_
    refine lv_aload_n hx hb dL_law_1044 rfl (lv_at hl 1 rfl) ?_
    refine lv_iload hx hb dL_law_1045 (lv_at hl 6 rfl) ?_
    refine lv_iconst (v := nI 1) hx hb dL_law_1047 (by decide) ?_
    refine nv_iadd hx hb dL_law_1048 ?_
    refine va_sld hx hb hX hbl hbA hS (vp_in_nI (show i + 1 < L by omega) (by omega)) dL_law_1049 ?_
    refine tp_i (show xs (nI (i + 1)).toNatClampNeg = p0 from by rw [nI_clamp (by omega), hp0]) ?_
    refine lv_aload_n hx hb dL_law_1050 rfl (lv_at hl 1 rfl) ?_
    refine lv_iload hx hb dL_law_1051 (lv_at hl 6 rfl) ?_
    refine lv_iconst (v := nI 2) hx hb dL_law_1053 (by decide) ?_
    refine nv_iadd hx hb dL_law_1054 ?_
    refine va_sld hx hb hX hbl hbA hS (vp_in_nI (show i + 2 < L by omega) (by omega)) dL_law_1055 ?_
    refine tp_i (show xs (nI (i + 2)).toNatClampNeg = p1 from by rw [nI_clamp (by omega), hp1]) ?_
    refine run_i (S := Unit) (run_V (As := [.int p0, .int p1]) (rest := []) (bs := [loC E ol lo, dbC E od dO, coC E x a a2 a3 b d k pa y w, stC E a g, stC E a2 g2, stC E a3 g3, hhC E b hs hg nx ct, diC E d co re, grC E k so gw, prC E pa q F, sbO E y v ml n, baC E v cp t, moC E mb z g gs ar]) (cb := [moC E mb z g gs ar]) hx hb hml hown hts hK hZ hA (c_X6_interval l E _ mb z g gs ar B hI p0 p1) l_L_197 rfl ⟨⟨rfl, rfl⟩, Nat.le_of_ble_eq_true rfl, Nat.le_of_ble_eq_true rfl⟩ 10 rfl [12] rfl (by decide) rfl hP hD hS hl.1 rfl (Nat.le_of_ble_eq_true rfl) dL_law_1056 ⟨by show (cells + 2) + 0 ≤ 603072; omega, by show (slots + 12) + 0 ≤ 7174250; omega⟩) hA hP hD hS (isC := [12]) rfl [0, 1, 2, 3, 4, 5, 6, 7, 8, 9, 10, 11] [0, 1, 2, 3, 4, 5, 6, 7, 8, 9, 10, 11, 12] (br := [loC E ol lo, dbC E od dO, coC E x a a2 a3 b d k pa y w, stC E a g, stC E a2 g2, stC E a3 g3, hhC E b hs hg nx ct, diC E d co re, grC E k so gw, prC E pa q F, sbO E y v ml n, baC E v cp t]) (bs2 := fun _ => [loC E ol lo, dbC E od dO, coC E x a a2 a3 b d k pa y w, stC E a g, stC E a2 g2, stC E a3 g3, hhC E b hs hg nx ct, diC E d co re, grC E k so gw, prC E pa q F, sbO E y v ml n, baC E v cp t, moC E mb (upn z 0 (if (hasM g p0 && hasM g p1) = true then 0 else 1)) g gs ar]) rfl (by decide) (fun _ => rfl) (by decide) (fun r u6 H locs hw6 hP hD hS => ?_)
    have hw6 : r = nI (if (hasM g p0 && hasM g p1) = true then ap (g 3 (tn p0)) (g 3 (tn p1)) else 0) := hw6
    subst hw6
    refine lv_istore (lv' := [(7, .int (nI (if (hasM g p0 && hasM g p1) = true then ap (g 3 (tn p0)) (g 3 (tn p1)) else 0))), (6, .int (nI 1)), (0, .ref sb), (1, .ref (x 0)), (2, .ref (mb 0)), (3, .ref ol), (4, .ref od), (5, .int (nI i))]) hx hb dL_law_1059 hl (by decide) rfl (fun ls hl => ?_)
    refine lv_aload_n hx hb dL_law_1061 rfl (lv_at hl 4 rfl) ?_
    refine run_i (S := Unit) (run_V (As := []) (rest := []) (bs := [loC E ol lo, dbC E od dO, coC E x a a2 a3 b d k pa y w, stC E a g, stC E a2 g2, stC E a3 g3, hhC E b hs hg nx ct, diC E d co re, grC E k so gw, prC E pa q F, sbO E y v ml n, baC E v cp t, moC E mb (upn z 0 (if (hasM g p0 && hasM g p1) = true then 0 else 1)) g gs ar]) (cb := [moC E mb (upn z 0 (if (hasM g p0 && hasM g p1) = true then 0 else 1)) g gs ar]) hx hb hml hown hts hK hZ hA (c_X6_thrown l E _ mb (upn z 0 (if (hasM g p0 && hasM g p1) = true then 0 else 1)) g gs ar) l_L_152 rfl ⟨⟨rfl, rfl⟩, Nat.le_of_ble_eq_true rfl, Nat.le_of_ble_eq_true rfl⟩ 10 rfl [12] rfl (by decide) rfl hP hD hS hl.1 rfl (Nat.le_of_ble_eq_true rfl) dL_law_1062 ⟨by show ((cells + 2) + 0) + 0 ≤ 603072; omega, by show ((slots + 12) + 0) + 0 ≤ 7174250; omega⟩) hA hP hD hS (isC := [12]) rfl [0, 1, 2, 3, 4, 5, 6, 7, 8, 9, 10, 11] [0, 1, 2, 3, 4, 5, 6, 7, 8, 9, 10, 11, 12] (br := [loC E ol lo, dbC E od dO, coC E x a a2 a3 b d k pa y w, stC E a g, stC E a2 g2, stC E a3 g3, hhC E b hs hg nx ct, diC E d co re, grC E k so gw, prC E pa q F, sbO E y v ml n, baC E v cp t]) (bs2 := fun _ => [loC E ol lo, dbC E od dO, coC E x a a2 a3 b d k pa y w, stC E a g, stC E a2 g2, stC E a3 g3, hhC E b hs hg nx ct, diC E d co re, grC E k so gw, prC E pa q F, sbO E y v ml n, baC E v cp t, moC E mb (upn z 0 (if (hasM g p0 && hasM g p1) = true then 0 else 1)) g gs ar]) rfl (by decide) (fun _ => rfl) (by decide) (fun r u6 H locs hw6 hP hD hS => ?_)
    have hw6 : r = nI ((upn z 0 (if (hasM g p0 && hasM g p1) = true then 0 else 1)) 0) := hw6
    subst hw6
    refine lv_iload hx hb dL_law_1065 (lv_at hl 1 rfl) ?_
    refine lv_icmp_eq (tgt := 1072) hx hb dL_law_1067 (by decide) (fun _ => ?_) (fun hc => absurd (show nI ((upn z 0 (if (hasM g p0 && hasM g p1) = true then 0 else 1)) 0) = nI 1 from congrArg nI (upn_s.trans (if_neg (fun h9 => by rw [hq] at h9; cases h9)))) hc)
    refine lv_iload hx hb dL_law_1072 (lv_at hl 1 rfl) ?_
    refine nv_if_ne (X := ((1 : Nat) : Int)) hx hb (nI_toInt (by omega)) (tgt := 1089) dL_law_1074 (by decide) (fun c_3 => ?_) (fun c_3 => ?_)
    · skip
      refine lv_goto (tgt := 2541) hx hb dL_law_1089 (by decide) ?_
      exact W_widen (by omega) (by omega) (kk w g g2 g3 hg nx ct co re so gw q F v ml n cp t (upn z 0 (if (hasM g p0 && hasM g p1) = true then 0 else 1)) gs ar lo dO _ _ _ (rel_q hR hB4) hP hD hS (lv_sub hl [2, 3, 4, 5, 6, 7] rfl))
    · exact absurd c_3 (by omega)
set_option maxHeartbeats 4000000 in
set_option maxRecDepth 100000 in
theorem st_memberAtRank {p : Program} {l : Launch} {e : Env} {s : State} {m : MethodId} {args : Array Value} {below : List Frame} {meth : Method} {c : Code} {E : EE} {A : Nat → Prop} {Q : State → Prop} {x a a2 a3 b d k pa y : Nat → Nat} {hs : Nat → Nat → Nat} {mb : Nat → Nat} {ol od sb : Nat} {i B cells slots L : Nat} {xs : Nat → Int32} (C : LCx p l s m args c E A sb L xs) (hL : L ≤ 2560) (hi : i + 5 ≤ L) (hB4 : B + 420 ≤ 300000) (hrc : cells + 13 ≤ 603072 ∧ slots + 414 ≤ 7174250) (kk : LGo p l e s m args below meth c E A Q x a a2 a3 b d k pa y hs mb ol od sb i (B + 420) (cells + 13) (slots + 414) 2541) : LGo p l e s m args below meth c E A Q x a a2 a3 b d k pa y hs mb ol od sb i B cells slots 1092 := by
  obtain ⟨hx, hb, hml, hown, hts, hK, hZ, hDD, hA, hX, hbl, hbA, hst⟩ := C
  intro w g g2 g3 hg nx ct co re so gw q F v ml n cp t z gs ar lo dO H locs ls hR hP hD hS hl
  obtain ⟨hI, ⟨hs1, hs2, hs3⟩, ⟨hnx, hct, hz1, hh9⟩, ⟨hw1, hw2, hz5, hz6⟩, ⟨hq1, hq2, hF0, hF9⟩, ⟨hn1, hn2, hcp, ht9, htx, ho2⟩⟩ := id hR
  have hmc := hI.mc
  obtain ⟨p0, hp0⟩ : ∃ y9, y9 = xs (i + 1) := ⟨_, rfl⟩
  refine lv_aload_n hx hb dL_law_1092 rfl (lv_at hl 1 rfl) ?_
  refine lv_aload_n hx hb dL_law_1093 rfl (lv_at hl 0 rfl) ?_
  refine lv_iload hx hb dL_law_1094 (lv_at hl 5 rfl) ?_
  refine lv_iconst (v := nI 1) hx hb dL_law_1096 (by decide) ?_
  refine nv_iadd hx hb dL_law_1097 ?_
  refine va_sld hx hb hX hbl hbA hS (vp_in_nI (show i + 1 < L by omega) (by omega)) dL_law_1098 ?_
  refine tp_i (show xs (nI (i + 1)).toNatClampNeg = p0 from by rw [nI_clamp (by omega), hp0]) ?_
  refine lv_aload_n hx hb dL_law_1099 rfl (lv_at hl 3 rfl) ?_
  refine run_i (S := (Unit × Int32 × (Nat → Int64)) ⊕ Unit) (run_SW (As := [.ref (x 0), .int p0, .ref ol]) (rest := []) (bs := [loC E ol lo, dbC E od dO, coC E x a a2 a3 b d k pa y w, stC E a g, stC E a2 g2, stC E a3 g3, hhC E b hs hg nx ct, diC E d co re, grC E k so gw, prC E pa q F, sbO E y v ml n, baC E v cp t, moC E mb z g gs ar]) (cb := [loC E ol lo, coC E x a a2 a3 b d k pa y w, stC E a g]) hx hb hml hown hts hK hZ hDD hA (c_L_memberAtRank l hst E _ x a a2 a3 b d k pa y w g B hI p0 ol lo) l_L_198 rfl ⟨⟨rfl, rfl⟩, Nat.le_of_ble_eq_true rfl, Nat.le_of_ble_eq_true rfl⟩ [0, 2, 3] rfl (by decide) hP hD hS hl.1 rfl (Nat.le_of_ble_eq_true rfl) dL_law_1100 ⟨by show cells + 1 ≤ 603072; omega, by show slots + 6 ≤ 7174250; omega⟩) hA hP hD hS (isC := [0, 2, 3]) rfl [1, 4, 5, 6, 7, 8, 9, 10, 11, 12] [10, 0, 11, 12, 1, 2, 3, 4, 5, 6, 7, 8, 9] (br := [dbC E od dO, stC E a2 g2, stC E a3 g3, hhC E b hs hg nx ct, diC E d co re, grC E k so gw, prC E pa q F, sbO E y v ml n, baC E v cp t, moC E mb z g gs ar]) (bs2 := fun u => Sum.elim (fun (vq : Unit × Int32 × (Nat → Int64)) => [loC E ol vq.2.2, dbC E od dO, coC E x a a2 a3 b d k pa y w, stC E a g, stC E a2 g2, stC E a3 g3, hhC E b hs hg nx ct, diC E d co re, grC E k so gw, prC E pa q F, sbO E y v ml n, baC E v cp t, moC E mb z g gs ar]) (fun (vq : Unit) => [loC E ol lo, dbC E od dO, coC E x a a2 a3 b d k pa y w, stC E a g, stC E a2 g2, stC E a3 g3, hhC E b hs hg nx ct, diC E d co re, grC E k so gw, prC E pa q F, sbO E y v ml n, baC E v cp t, moC E mb z g gs ar]) u) rfl (by decide) (fun u => by rcases u with u | u <;> rfl) (by decide) (fun r u H locs hw hP hD hS => ?_)
  rcases u with vq | vq
  · skip
    obtain ⟨u9, r9, lo9⟩ := vq
    have hw7 : r = nI 0 ∧ (fst1 (fun a => decide ((mAh g a : Int) = p0.toInt)) (g 8 0) < g 8 0 ∧ r9 = nI (fst1 (fun a => decide ((mAh g a : Int) = p0.toInt)) (g 8 0))) ∧ lo9 0 = r9.toInt64 := hw
    clear hw
    obtain ⟨rfl, hw⟩ := hw7
    have hP : va_P E.1 vwCl ([loC E ol lo9, dbC E od dO, coC E x a a2 a3 b d k pa y w, stC E a g, stC E a2 g2, stC E a3 g3, hhC E b hs hg nx ct, diC E d co re, grC E k so gw, prC E pa q F, sbO E y v ml n, baC E v cp t, moC E mb z g gs ar] : List va_W).flatten H := hP
    have hD : va_D A ([loC E ol lo9, dbC E od dO, coC E x a a2 a3 b d k pa y w, stC E a g, stC E a2 g2, stC E a3 g3, hhC E b hs hg nx ct, diC E d co re, grC E k so gw, prC E pa q F, sbO E y v ml n, baC E v cp t, moC E mb z g gs ar] : List va_W).flatten := hD
    obtain ⟨⟨hcnd, hr9⟩, hlo⟩ := hw
    subst hr9
    refine lv_istore (lv' := [(6, .int (nI 0)), (0, .ref sb), (1, .ref (x 0)), (2, .ref (mb 0)), (3, .ref ol), (4, .ref od), (5, .int (nI i))]) hx hb dL_law_1103 hl (by decide) rfl (fun ls hl => ?_)
    refine lv_aload_n hx hb dL_law_1105 rfl (lv_at hl 3 rfl) ?_
    refine lv_aload_n hx hb dL_law_1106 rfl (lv_at hl 1 rfl) ?_
    refine lv_iload hx hb dL_law_1107 (lv_at hl 6 rfl) ?_
    refine lv_iconst (v := nI 1) hx hb dL_law_1109 (by decide) ?_
    refine nv_iadd hx hb dL_law_1110 ?_
    refine va_sld hx hb hX hbl hbA hS (vp_in_nI (show i + 1 < L by omega) (by omega)) dL_law_1111 ?_
    refine tp_i (show xs (nI (i + 1)).toNatClampNeg = p0 from by rw [nI_clamp (by omega), hp0]) ?_
    refine run_i (S := Unit) (run_V (As := [.int p0]) (rest := []) (bs := [loC E ol lo9, dbC E od dO, coC E x a a2 a3 b d k pa y w, stC E a g, stC E a2 g2, stC E a3 g3, hhC E b hs hg nx ct, diC E d co re, grC E k so gw, prC E pa q F, sbO E y v ml n, baC E v cp t, moC E mb z g gs ar]) (cb := [moC E mb z g gs ar]) hx hb hml hown hts hK hZ hA (c_X6_memberAtRank l E _ mb z g gs ar B hI p0) l_L_200 rfl ⟨⟨rfl, rfl⟩, Nat.le_of_ble_eq_true rfl, Nat.le_of_ble_eq_true rfl⟩ 10 rfl [12] rfl (by decide) rfl hP hD hS hl.1 rfl (Nat.le_of_ble_eq_true rfl) dL_law_1112 ⟨by show (cells + 1) + 0 ≤ 603072; omega, by show (slots + 6) + 0 ≤ 7174250; omega⟩) hA hP hD hS (isC := [12]) rfl [0, 1, 2, 3, 4, 5, 6, 7, 8, 9, 10, 11] [0, 1, 2, 3, 4, 5, 6, 7, 8, 9, 10, 11, 12] (br := [loC E ol lo9, dbC E od dO, coC E x a a2 a3 b d k pa y w, stC E a g, stC E a2 g2, stC E a3 g3, hhC E b hs hg nx ct, diC E d co re, grC E k so gw, prC E pa q F, sbO E y v ml n, baC E v cp t]) (bs2 := fun _ => [loC E ol lo9, dbC E od dO, coC E x a a2 a3 b d k pa y w, stC E a g, stC E a2 g2, stC E a3 g3, hhC E b hs hg nx ct, diC E d co re, grC E k so gw, prC E pa q F, sbO E y v ml n, baC E v cp t, moC E mb (upn z 0 (if fst1 (fun a => decide ((mAh g a : Int) = p0.toInt)) (g 8 0) < g 8 0 then 0 else 1)) g gs ar]) rfl (by decide) (fun _ => rfl) (by decide) (fun r u6 H locs hw6 hP hD hS => ?_)
    have hw6 : r = nI (if fst1 (fun a => decide ((mAh g a : Int) = p0.toInt)) (g 8 0) < g 8 0 then fst1 (fun a => decide ((mAh g a : Int) = p0.toInt)) (g 8 0) else 0) := hw6
    subst hw6
    refine tp_i (show nI (if fst1 (fun a => decide ((mAh g a : Int) = p0.toInt)) (g 8 0) < g 8 0 then fst1 (fun a => decide ((mAh g a : Int) = p0.toInt)) (g 8 0) else 0) = nI (fst1 (fun a => decide ((mAh g a : Int) = p0.toInt)) (g 8 0)) from congrArg nI (if_pos hcnd)) ?_
    refine lv_istore (lv' := [(7, .int (nI (fst1 (fun a => decide ((mAh g a : Int) = p0.toInt)) (g 8 0)))), (6, .int (nI 0)), (0, .ref sb), (1, .ref (x 0)), (2, .ref (mb 0)), (3, .ref ol), (4, .ref od), (5, .int (nI i))]) hx hb dL_law_1115 hl (by decide) rfl (fun ls hl => ?_)
    refine lv_aload_n hx hb dL_law_1117 rfl (lv_at hl 4 rfl) ?_
    refine run_i (S := Unit) (run_V (As := []) (rest := []) (bs := [loC E ol lo9, dbC E od dO, coC E x a a2 a3 b d k pa y w, stC E a g, stC E a2 g2, stC E a3 g3, hhC E b hs hg nx ct, diC E d co re, grC E k so gw, prC E pa q F, sbO E y v ml n, baC E v cp t, moC E mb (upn z 0 (if fst1 (fun a => decide ((mAh g a : Int) = p0.toInt)) (g 8 0) < g 8 0 then 0 else 1)) g gs ar]) (cb := [moC E mb (upn z 0 (if fst1 (fun a => decide ((mAh g a : Int) = p0.toInt)) (g 8 0) < g 8 0 then 0 else 1)) g gs ar]) hx hb hml hown hts hK hZ hA (c_X6_thrown l E _ mb (upn z 0 (if fst1 (fun a => decide ((mAh g a : Int) = p0.toInt)) (g 8 0) < g 8 0 then 0 else 1)) g gs ar) l_L_152 rfl ⟨⟨rfl, rfl⟩, Nat.le_of_ble_eq_true rfl, Nat.le_of_ble_eq_true rfl⟩ 10 rfl [12] rfl (by decide) rfl hP hD hS hl.1 rfl (Nat.le_of_ble_eq_true rfl) dL_law_1118 ⟨by show ((cells + 1) + 0) + 0 ≤ 603072; omega, by show ((slots + 6) + 0) + 0 ≤ 7174250; omega⟩) hA hP hD hS (isC := [12]) rfl [0, 1, 2, 3, 4, 5, 6, 7, 8, 9, 10, 11] [0, 1, 2, 3, 4, 5, 6, 7, 8, 9, 10, 11, 12] (br := [loC E ol lo9, dbC E od dO, coC E x a a2 a3 b d k pa y w, stC E a g, stC E a2 g2, stC E a3 g3, hhC E b hs hg nx ct, diC E d co re, grC E k so gw, prC E pa q F, sbO E y v ml n, baC E v cp t]) (bs2 := fun _ => [loC E ol lo9, dbC E od dO, coC E x a a2 a3 b d k pa y w, stC E a g, stC E a2 g2, stC E a3 g3, hhC E b hs hg nx ct, diC E d co re, grC E k so gw, prC E pa q F, sbO E y v ml n, baC E v cp t, moC E mb (upn z 0 (if fst1 (fun a => decide ((mAh g a : Int) = p0.toInt)) (g 8 0) < g 8 0 then 0 else 1)) g gs ar]) rfl (by decide) (fun _ => rfl) (by decide) (fun r u6 H locs hw6 hP hD hS => ?_)
    have hw6 : r = nI ((upn z 0 (if fst1 (fun a => decide ((mAh g a : Int) = p0.toInt)) (g 8 0) < g 8 0 then 0 else 1)) 0) := hw6
    subst hw6
    refine lv_iload hx hb dL_law_1121 (lv_at hl 1 rfl) ?_
    refine lv_icmp_eq (tgt := 1128) hx hb dL_law_1123 (by decide) (fun _ => ?_) (fun hc => absurd (show nI ((upn z 0 (if fst1 (fun a => decide ((mAh g a : Int) = p0.toInt)) (g 8 0) < g 8 0 then 0 else 1)) 0) = nI 0 from congrArg nI (upn_s.trans (if_pos hcnd))) hc)
    refine lv_iload hx hb dL_law_1128 (lv_at hl 1 rfl) ?_
    refine nv_if_ne (X := ((0 : Nat) : Int)) hx hb (nI_toInt (by omega)) (tgt := 1145) dL_law_1130 (by decide) (fun c_1 => ?_) (fun c_1 => ?_)
    · exact absurd c_1 (by omega)
    · skip
      refine lv_aload_n hx hb dL_law_1133 rfl (lv_at hl 5 rfl) ?_
      refine lv_iconst (v := nI 0) hx hb dL_law_1134 (by decide) ?_
      refine va_lald hx hb hK hP 0 4 rfl rfl (vp_in_nI (show 0 < 1 by decide) (by decide)) dL_law_1135 ?_
      rw [show lo9 (nI 0).toNatClampNeg = (nI (fst1 (fun a => decide ((mAh g a : Int) = p0.toInt)) (g 8 0))).toInt64 from by rw [nI_clamp (show 0 < 2 ^ 31 by decide)]; exact hlo]
      refine lv_iload hx hb dL_law_1136 (lv_at hl 0 rfl) ?_
      refine lv_i2l hx hb dL_law_1138 rfl ?_
      refine W.lcmp hx hb dL_law_1139 ?_
      refine tp_i (show lg_cmp ((nI (fst1 (fun a => decide ((mAh g a : Int) = p0.toInt)) (g 8 0))).toInt64) ((nI (fst1 (fun a => decide ((mAh g a : Int) = p0.toInt)) (g 8 0))).toInt64) = nI 0 from lg_eq _) ?_
      refine nv_if_eq (X := ((0 : Nat) : Int)) hx hb (nI_toInt (by omega)) (tgt := 1145) dL_law_1140 (by decide) (fun c_2 => ?_) (fun c_2 => ?_)
      · skip
        refine lv_goto (tgt := 2541) hx hb dL_law_1145 (by decide) ?_
        exact W_widen (by omega) (by omega) (kk w g g2 g3 hg nx ct co re so gw q F v ml n cp t (upn z 0 (if fst1 (fun a => decide ((mAh g a : Int) = p0.toInt)) (g 8 0) < g 8 0 then 0 else 1)) gs ar lo9 dO _ _ _ (rel_q hR hB4) hP hD hS (lv_sub hl [2, 3, 4, 5, 6, 7] rfl))
      · exact absurd c_2 (by omega)
  · skip
    have hw : r = nI 1 ∧ ¬ fst1 (fun a => decide ((mAh g a : Int) = p0.toInt)) (g 8 0) < g 8 0 := hw
    have hP : va_P E.1 vwCl ([loC E ol lo, dbC E od dO, coC E x a a2 a3 b d k pa y w, stC E a g, stC E a2 g2, stC E a3 g3, hhC E b hs hg nx ct, diC E d co re, grC E k so gw, prC E pa q F, sbO E y v ml n, baC E v cp t, moC E mb z g gs ar] : List va_W).flatten H := hP
    have hD : va_D A ([loC E ol lo, dbC E od dO, coC E x a a2 a3 b d k pa y w, stC E a g, stC E a2 g2, stC E a3 g3, hhC E b hs hg nx ct, diC E d co re, grC E k so gw, prC E pa q F, sbO E y v ml n, baC E v cp t, moC E mb z g gs ar] : List va_W).flatten := hD
    obtain ⟨rfl, hq⟩ := hw
    refine lv_istore (lv' := [(6, .int (nI 1)), (0, .ref sb), (1, .ref (x 0)), (2, .ref (mb 0)), (3, .ref ol), (4, .ref od), (5, .int (nI i))]) hx hb dL_law_1103 hl (by decide) rfl (fun ls hl => ?_)
    refine lv_aload_n hx hb dL_law_1105 rfl (lv_at hl 3 rfl) ?_
    refine lv_aload_n hx hb dL_law_1106 rfl (lv_at hl 1 rfl) ?_
    refine lv_iload hx hb dL_law_1107 (lv_at hl 6 rfl) ?_
    refine lv_iconst (v := nI 1) hx hb dL_law_1109 (by decide) ?_
    refine nv_iadd hx hb dL_law_1110 ?_
    refine va_sld hx hb hX hbl hbA hS (vp_in_nI (show i + 1 < L by omega) (by omega)) dL_law_1111 ?_
    refine tp_i (show xs (nI (i + 1)).toNatClampNeg = p0 from by rw [nI_clamp (by omega), hp0]) ?_
    refine run_i (S := Unit) (run_V (As := [.int p0]) (rest := []) (bs := [loC E ol lo, dbC E od dO, coC E x a a2 a3 b d k pa y w, stC E a g, stC E a2 g2, stC E a3 g3, hhC E b hs hg nx ct, diC E d co re, grC E k so gw, prC E pa q F, sbO E y v ml n, baC E v cp t, moC E mb z g gs ar]) (cb := [moC E mb z g gs ar]) hx hb hml hown hts hK hZ hA (c_X6_memberAtRank l E _ mb z g gs ar B hI p0) l_L_200 rfl ⟨⟨rfl, rfl⟩, Nat.le_of_ble_eq_true rfl, Nat.le_of_ble_eq_true rfl⟩ 10 rfl [12] rfl (by decide) rfl hP hD hS hl.1 rfl (Nat.le_of_ble_eq_true rfl) dL_law_1112 ⟨by show (cells + 1) + 0 ≤ 603072; omega, by show (slots + 6) + 0 ≤ 7174250; omega⟩) hA hP hD hS (isC := [12]) rfl [0, 1, 2, 3, 4, 5, 6, 7, 8, 9, 10, 11] [0, 1, 2, 3, 4, 5, 6, 7, 8, 9, 10, 11, 12] (br := [loC E ol lo, dbC E od dO, coC E x a a2 a3 b d k pa y w, stC E a g, stC E a2 g2, stC E a3 g3, hhC E b hs hg nx ct, diC E d co re, grC E k so gw, prC E pa q F, sbO E y v ml n, baC E v cp t]) (bs2 := fun _ => [loC E ol lo, dbC E od dO, coC E x a a2 a3 b d k pa y w, stC E a g, stC E a2 g2, stC E a3 g3, hhC E b hs hg nx ct, diC E d co re, grC E k so gw, prC E pa q F, sbO E y v ml n, baC E v cp t, moC E mb (upn z 0 (if fst1 (fun a => decide ((mAh g a : Int) = p0.toInt)) (g 8 0) < g 8 0 then 0 else 1)) g gs ar]) rfl (by decide) (fun _ => rfl) (by decide) (fun r u6 H locs hw6 hP hD hS => ?_)
    have hw6 : r = nI (if fst1 (fun a => decide ((mAh g a : Int) = p0.toInt)) (g 8 0) < g 8 0 then fst1 (fun a => decide ((mAh g a : Int) = p0.toInt)) (g 8 0) else 0) := hw6
    subst hw6
    refine lv_istore (lv' := [(7, .int (nI (if fst1 (fun a => decide ((mAh g a : Int) = p0.toInt)) (g 8 0) < g 8 0 then fst1 (fun a => decide ((mAh g a : Int) = p0.toInt)) (g 8 0) else 0))), (6, .int (nI 1)), (0, .ref sb), (1, .ref (x 0)), (2, .ref (mb 0)), (3, .ref ol), (4, .ref od), (5, .int (nI i))]) hx hb dL_law_1115 hl (by decide) rfl (fun ls hl => ?_)
    refine lv_aload_n hx hb dL_law_1117 rfl (lv_at hl 4 rfl) ?_
    refine run_i (S := Unit) (run_V (As := []) (rest := []) (bs := [loC E ol lo, dbC E od dO, coC E x a a2 a3 b d k pa y w, stC E a g, stC E a2 g2, stC E a3 g3, hhC E b hs hg nx ct, diC E d co re, grC E k so gw, prC E pa q F, sbO E y v ml n, baC E v cp t, moC E mb (upn z 0 (if fst1 (fun a => decide ((mAh g a : Int) = p0.toInt)) (g 8 0) < g 8 0 then 0 else 1)) g gs ar]) (cb := [moC E mb (upn z 0 (if fst1 (fun a => decide ((mAh g a : Int) = p0.toInt)) (g 8 0) < g 8 0 then 0 else 1)) g gs ar]) hx hb hml hown hts hK hZ hA (c_X6_thrown l E _ mb (upn z 0 (if fst1 (fun a => decide ((mAh g a : Int) = p0.toInt)) (g 8 0) < g 8 0 then 0 else 1)) g gs ar) l_L_152 rfl ⟨⟨rfl, rfl⟩, Nat.le_of_ble_eq_true rfl, Nat.le_of_ble_eq_true rfl⟩ 10 rfl [12] rfl (by decide) rfl hP hD hS hl.1 rfl (Nat.le_of_ble_eq_true rfl) dL_law_1118 ⟨by show ((cells + 1) + 0) + 0 ≤ 603072; omega, by show ((slots + 6) + 0) + 0 ≤ 7174250; omega⟩) hA hP hD hS (isC := [12]) rfl [0, 1, 2, 3, 4, 5, 6, 7, 8, 9, 10, 11] [0, 1, 2, 3, 4, 5, 6, 7, 8, 9, 10, 11, 12] (br := [loC E ol lo, dbC E od dO, coC E x a a2 a3 b d k pa y w, stC E a g, stC E a2 g2, stC E a3 g3, hhC E b hs hg nx ct, diC E d co re, grC E k so gw, prC E pa q F, sbO E y v ml n, baC E v cp t]) (bs2 := fun _ => [loC E ol lo, dbC E od dO, coC E x a a2 a3 b d k pa y w, stC E a g, stC E a2 g2, stC E a3 g3, hhC E b hs hg nx ct, diC E d co re, grC E k so gw, prC E pa q F, sbO E y v ml n, baC E v cp t, moC E mb (upn z 0 (if fst1 (fun a => decide ((mAh g a : Int) = p0.toInt)) (g 8 0) < g 8 0 then 0 else 1)) g gs ar]) rfl (by decide) (fun _ => rfl) (by decide) (fun r u6 H locs hw6 hP hD hS => ?_)
    have hw6 : r = nI ((upn z 0 (if fst1 (fun a => decide ((mAh g a : Int) = p0.toInt)) (g 8 0) < g 8 0 then 0 else 1)) 0) := hw6
    subst hw6
    refine lv_iload hx hb dL_law_1121 (lv_at hl 1 rfl) ?_
    refine lv_icmp_eq (tgt := 1128) hx hb dL_law_1123 (by decide) (fun _ => ?_) (fun hc => absurd (show nI ((upn z 0 (if fst1 (fun a => decide ((mAh g a : Int) = p0.toInt)) (g 8 0) < g 8 0 then 0 else 1)) 0) = nI 1 from congrArg nI (upn_s.trans (if_neg hq))) hc)
    refine lv_iload hx hb dL_law_1128 (lv_at hl 1 rfl) ?_
    refine nv_if_ne (X := ((1 : Nat) : Int)) hx hb (nI_toInt (by omega)) (tgt := 1145) dL_law_1130 (by decide) (fun c_3 => ?_) (fun c_3 => ?_)
    · skip
      refine lv_goto (tgt := 2541) hx hb dL_law_1145 (by decide) ?_
      exact W_widen (by omega) (by omega) (kk w g g2 g3 hg nx ct co re so gw q F v ml n cp t (upn z 0 (if fst1 (fun a => decide ((mAh g a : Int) = p0.toInt)) (g 8 0) < g 8 0 then 0 else 1)) gs ar lo dO _ _ _ (rel_q hR hB4) hP hD hS (lv_sub hl [2, 3, 4, 5, 6, 7] rfl))
    · exact absurd c_3 (by omega)
set_option maxHeartbeats 4000000 in
set_option maxRecDepth 100000 in
theorem st_dueBeats {p : Program} {l : Launch} {e : Env} {s : State} {m : MethodId} {args : Array Value} {below : List Frame} {meth : Method} {c : Code} {E : EE} {A : Nat → Prop} {Q : State → Prop} {x a a2 a3 b d k pa y : Nat → Nat} {hs : Nat → Nat → Nat} {mb : Nat → Nat} {ol od sb : Nat} {i B cells slots L : Nat} {xs : Nat → Int32} (C : LCx p l s m args c E A sb L xs) (hL : L ≤ 2560) (hi : i + 5 ≤ L) (hB4 : B + 420 ≤ 300000) (hrc : cells + 13 ≤ 603072 ∧ slots + 414 ≤ 7174250) (kk : LGo p l e s m args below meth c E A Q x a a2 a3 b d k pa y hs mb ol od sb i (B + 420) (cells + 13) (slots + 414) 2541) : LGo p l e s m args below meth c E A Q x a a2 a3 b d k pa y hs mb ol od sb i B cells slots 1148 := by
  obtain ⟨hx, hb, hml, hown, hts, hK, hZ, hDD, hA, hX, hbl, hbA, hst⟩ := C
  intro w g g2 g3 hg nx ct co re so gw q F v ml n cp t z gs ar lo dO H locs ls hR hP hD hS hl
  obtain ⟨hI, ⟨hs1, hs2, hs3⟩, ⟨hnx, hct, hz1, hh9⟩, ⟨hw1, hw2, hz5, hz6⟩, ⟨hq1, hq2, hF0, hF9⟩, ⟨hn1, hn2, hcp, ht9, htx, ho2⟩⟩ := id hR
  have hmc := hI.mc
  obtain ⟨p0, hp0⟩ : ∃ y9, y9 = xs (i + 1) := ⟨_, rfl⟩
  refine lv_aload_n hx hb dL_law_1148 rfl (lv_at hl 1 rfl) ?_
  refine lv_aload_n hx hb dL_law_1149 rfl (lv_at hl 0 rfl) ?_
  refine lv_iload hx hb dL_law_1150 (lv_at hl 5 rfl) ?_
  refine lv_iconst (v := nI 1) hx hb dL_law_1152 (by decide) ?_
  refine nv_iadd hx hb dL_law_1153 ?_
  refine va_sld hx hb hX hbl hbA hS (vp_in_nI (show i + 1 < L by omega) (by omega)) dL_law_1154 ?_
  refine tp_i (show xs (nI (i + 1)).toNatClampNeg = p0 from by rw [nI_clamp (by omega), hp0]) ?_
  refine lv_aload_n hx hb dL_law_1155 rfl (lv_at hl 3 rfl) ?_
  refine run_i (S := (Unit × Int64 × (Nat → Int64)) ⊕ Unit) (run_SW (As := [.ref (x 0), .int p0, .ref ol]) (rest := []) (bs := [loC E ol lo, dbC E od dO, coC E x a a2 a3 b d k pa y w, stC E a g, stC E a2 g2, stC E a3 g3, hhC E b hs hg nx ct, diC E d co re, grC E k so gw, prC E pa q F, sbO E y v ml n, baC E v cp t, moC E mb z g gs ar]) (cb := [loC E ol lo, coC E x a a2 a3 b d k pa y w, stC E a g]) hx hb hml hown hts hK hZ hDD hA (c_L_dueBeats l hst E _ x a a2 a3 b d k pa y w g B hI p0 ol lo) l_L_201 rfl ⟨⟨rfl, rfl⟩, Nat.le_of_ble_eq_true rfl, Nat.le_of_ble_eq_true rfl⟩ [0, 2, 3] rfl (by decide) hP hD hS hl.1 rfl (Nat.le_of_ble_eq_true rfl) dL_law_1156 ⟨by show cells + 1 ≤ 603072; omega, by show slots + 6 ≤ 7174250; omega⟩) hA hP hD hS (isC := [0, 2, 3]) rfl [1, 4, 5, 6, 7, 8, 9, 10, 11, 12] [10, 0, 11, 12, 1, 2, 3, 4, 5, 6, 7, 8, 9] (br := [dbC E od dO, stC E a2 g2, stC E a3 g3, hhC E b hs hg nx ct, diC E d co re, grC E k so gw, prC E pa q F, sbO E y v ml n, baC E v cp t, moC E mb z g gs ar]) (bs2 := fun u => Sum.elim (fun (vq : Unit × Int64 × (Nat → Int64)) => [loC E ol vq.2.2, dbC E od dO, coC E x a a2 a3 b d k pa y w, stC E a g, stC E a2 g2, stC E a3 g3, hhC E b hs hg nx ct, diC E d co re, grC E k so gw, prC E pa q F, sbO E y v ml n, baC E v cp t, moC E mb z g gs ar]) (fun (vq : Unit) => [loC E ol lo, dbC E od dO, coC E x a a2 a3 b d k pa y w, stC E a g, stC E a2 g2, stC E a3 g3, hhC E b hs hg nx ct, diC E d co re, grC E k so gw, prC E pa q F, sbO E y v ml n, baC E v cp t, moC E mb z g gs ar]) u) rfl (by decide) (fun u => by rcases u with u | u <;> rfl) (by decide) (fun r u H locs hw hP hD hS => ?_)
  rcases u with vq | vq
  · skip
    obtain ⟨u9, r9, lo9⟩ := vq
    have hw7 : r = nI 0 ∧ (hasM g p0 = true ∧ r9 = lN (dlk g (tn p0) 60)) ∧ lo9 0 = r9 := hw
    clear hw
    obtain ⟨rfl, hw⟩ := hw7
    have hP : va_P E.1 vwCl ([loC E ol lo9, dbC E od dO, coC E x a a2 a3 b d k pa y w, stC E a g, stC E a2 g2, stC E a3 g3, hhC E b hs hg nx ct, diC E d co re, grC E k so gw, prC E pa q F, sbO E y v ml n, baC E v cp t, moC E mb z g gs ar] : List va_W).flatten H := hP
    have hD : va_D A ([loC E ol lo9, dbC E od dO, coC E x a a2 a3 b d k pa y w, stC E a g, stC E a2 g2, stC E a3 g3, hhC E b hs hg nx ct, diC E d co re, grC E k so gw, prC E pa q F, sbO E y v ml n, baC E v cp t, moC E mb z g gs ar] : List va_W).flatten := hD
    obtain ⟨⟨hcnd, hr9⟩, hlo⟩ := hw
    subst hr9
    refine lv_istore (lv' := [(6, .int (nI 0)), (0, .ref sb), (1, .ref (x 0)), (2, .ref (mb 0)), (3, .ref ol), (4, .ref od), (5, .int (nI i))]) hx hb dL_law_1159 hl (by decide) rfl (fun ls hl => ?_)
    refine lv_aload_n hx hb dL_law_1161 rfl (lv_at hl 3 rfl) ?_
    refine lv_aload_n hx hb dL_law_1162 rfl (lv_at hl 1 rfl) ?_
    refine lv_iload hx hb dL_law_1163 (lv_at hl 6 rfl) ?_
    refine lv_iconst (v := nI 1) hx hb dL_law_1165 (by decide) ?_
    refine nv_iadd hx hb dL_law_1166 ?_
    refine va_sld hx hb hX hbl hbA hS (vp_in_nI (show i + 1 < L by omega) (by omega)) dL_law_1167 ?_
    refine tp_i (show xs (nI (i + 1)).toNatClampNeg = p0 from by rw [nI_clamp (by omega), hp0]) ?_
    refine run_l (S := Unit) (run_V (As := [.int p0]) (rest := []) (bs := [loC E ol lo9, dbC E od dO, coC E x a a2 a3 b d k pa y w, stC E a g, stC E a2 g2, stC E a3 g3, hhC E b hs hg nx ct, diC E d co re, grC E k so gw, prC E pa q F, sbO E y v ml n, baC E v cp t, moC E mb z g gs ar]) (cb := [moC E mb z g gs ar]) hx hb hml hown hts hK hZ hA (c_X6_dueBeats l E _ mb z g gs ar B hI p0) l_L_203 rfl ⟨⟨rfl, rfl⟩, Nat.le_of_ble_eq_true rfl, Nat.le_of_ble_eq_true rfl⟩ 10 rfl [12] rfl (by decide) rfl hP hD hS hl.1 rfl (Nat.le_of_ble_eq_true rfl) dL_law_1168 ⟨by show (cells + 1) + 0 ≤ 603072; omega, by show (slots + 6) + 0 ≤ 7174250; omega⟩) hA hP hD hS (isC := [12]) rfl [0, 1, 2, 3, 4, 5, 6, 7, 8, 9, 10, 11] [0, 1, 2, 3, 4, 5, 6, 7, 8, 9, 10, 11, 12] (br := [loC E ol lo9, dbC E od dO, coC E x a a2 a3 b d k pa y w, stC E a g, stC E a2 g2, stC E a3 g3, hhC E b hs hg nx ct, diC E d co re, grC E k so gw, prC E pa q F, sbO E y v ml n, baC E v cp t]) (bs2 := fun _ => [loC E ol lo9, dbC E od dO, coC E x a a2 a3 b d k pa y w, stC E a g, stC E a2 g2, stC E a3 g3, hhC E b hs hg nx ct, diC E d co re, grC E k so gw, prC E pa q F, sbO E y v ml n, baC E v cp t, moC E mb (upn z 0 (if hasM g p0 = true then 0 else 1)) g gs ar]) rfl (by decide) (fun _ => rfl) (by decide) (fun r u6 H locs hw6 hP hD hS => ?_)
    have hw6 : r = lN (if hasM g p0 = true then dlk g (tn p0) 60 else 0) := hw6
    subst hw6
    rw [show lN (if hasM g p0 = true then dlk g (tn p0) 60 else 0) = lN (dlk g (tn p0) 60) from congrArg lN (if_pos hcnd)]
    refine lv_lstore (lv' := [(7, .long (lN (dlk g (tn p0) 60))), (6, .int (nI 0)), (0, .ref sb), (1, .ref (x 0)), (2, .ref (mb 0)), (3, .ref ol), (4, .ref od), (5, .int (nI i))]) hx hb dL_law_1171 hl (by decide) rfl (fun ls hl => ?_)
    refine lv_aload_n hx hb dL_law_1173 rfl (lv_at hl 4 rfl) ?_
    refine run_i (S := Unit) (run_V (As := []) (rest := []) (bs := [loC E ol lo9, dbC E od dO, coC E x a a2 a3 b d k pa y w, stC E a g, stC E a2 g2, stC E a3 g3, hhC E b hs hg nx ct, diC E d co re, grC E k so gw, prC E pa q F, sbO E y v ml n, baC E v cp t, moC E mb (upn z 0 (if hasM g p0 = true then 0 else 1)) g gs ar]) (cb := [moC E mb (upn z 0 (if hasM g p0 = true then 0 else 1)) g gs ar]) hx hb hml hown hts hK hZ hA (c_X6_thrown l E _ mb (upn z 0 (if hasM g p0 = true then 0 else 1)) g gs ar) l_L_152 rfl ⟨⟨rfl, rfl⟩, Nat.le_of_ble_eq_true rfl, Nat.le_of_ble_eq_true rfl⟩ 10 rfl [12] rfl (by decide) rfl hP hD hS hl.1 rfl (Nat.le_of_ble_eq_true rfl) dL_law_1174 ⟨by show ((cells + 1) + 0) + 0 ≤ 603072; omega, by show ((slots + 6) + 0) + 0 ≤ 7174250; omega⟩) hA hP hD hS (isC := [12]) rfl [0, 1, 2, 3, 4, 5, 6, 7, 8, 9, 10, 11] [0, 1, 2, 3, 4, 5, 6, 7, 8, 9, 10, 11, 12] (br := [loC E ol lo9, dbC E od dO, coC E x a a2 a3 b d k pa y w, stC E a g, stC E a2 g2, stC E a3 g3, hhC E b hs hg nx ct, diC E d co re, grC E k so gw, prC E pa q F, sbO E y v ml n, baC E v cp t]) (bs2 := fun _ => [loC E ol lo9, dbC E od dO, coC E x a a2 a3 b d k pa y w, stC E a g, stC E a2 g2, stC E a3 g3, hhC E b hs hg nx ct, diC E d co re, grC E k so gw, prC E pa q F, sbO E y v ml n, baC E v cp t, moC E mb (upn z 0 (if hasM g p0 = true then 0 else 1)) g gs ar]) rfl (by decide) (fun _ => rfl) (by decide) (fun r u6 H locs hw6 hP hD hS => ?_)
    have hw6 : r = nI ((upn z 0 (if hasM g p0 = true then 0 else 1)) 0) := hw6
    subst hw6
    refine lv_iload hx hb dL_law_1177 (lv_at hl 1 rfl) ?_
    refine lv_icmp_eq (tgt := 1184) hx hb dL_law_1179 (by decide) (fun _ => ?_) (fun hc => absurd (show nI ((upn z 0 (if hasM g p0 = true then 0 else 1)) 0) = nI 0 from congrArg nI (upn_s.trans (if_pos hcnd))) hc)
    refine lv_iload hx hb dL_law_1184 (lv_at hl 1 rfl) ?_
    refine nv_if_ne (X := ((0 : Nat) : Int)) hx hb (nI_toInt (by omega)) (tgt := 1200) dL_law_1186 (by decide) (fun c_1 => ?_) (fun c_1 => ?_)
    · exact absurd c_1 (by omega)
    · skip
      refine lv_aload_n hx hb dL_law_1189 rfl (lv_at hl 5 rfl) ?_
      refine lv_iconst (v := nI 0) hx hb dL_law_1190 (by decide) ?_
      refine va_lald hx hb hK hP 0 4 rfl rfl (vp_in_nI (show 0 < 1 by decide) (by decide)) dL_law_1191 ?_
      rw [show lo9 (nI 0).toNatClampNeg = lN (dlk g (tn p0) 60) from by rw [nI_clamp (show 0 < 2 ^ 31 by decide)]; exact hlo]
      refine lv_lload hx hb dL_law_1192 (lv_at hl 0 rfl) ?_
      refine W.lcmp hx hb dL_law_1194 ?_
      refine tp_i (show lg_cmp (lN (dlk g (tn p0) 60)) (lN (dlk g (tn p0) 60)) = nI 0 from lg_eq _) ?_
      refine nv_if_eq (X := ((0 : Nat) : Int)) hx hb (nI_toInt (by omega)) (tgt := 1200) dL_law_1195 (by decide) (fun c_2 => ?_) (fun c_2 => ?_)
      · skip
        refine lv_goto (tgt := 2541) hx hb dL_law_1200 (by decide) ?_
        exact W_widen (by omega) (by omega) (kk w g g2 g3 hg nx ct co re so gw q F v ml n cp t (upn z 0 (if hasM g p0 = true then 0 else 1)) gs ar lo9 dO _ _ _ (rel_q hR hB4) hP hD hS (lv_sub hl [2, 3, 4, 5, 6, 7] rfl))
      · exact absurd c_2 (by omega)
  · skip
    have hw : r = nI 1 ∧ hasM g p0 = false := hw
    have hP : va_P E.1 vwCl ([loC E ol lo, dbC E od dO, coC E x a a2 a3 b d k pa y w, stC E a g, stC E a2 g2, stC E a3 g3, hhC E b hs hg nx ct, diC E d co re, grC E k so gw, prC E pa q F, sbO E y v ml n, baC E v cp t, moC E mb z g gs ar] : List va_W).flatten H := hP
    have hD : va_D A ([loC E ol lo, dbC E od dO, coC E x a a2 a3 b d k pa y w, stC E a g, stC E a2 g2, stC E a3 g3, hhC E b hs hg nx ct, diC E d co re, grC E k so gw, prC E pa q F, sbO E y v ml n, baC E v cp t, moC E mb z g gs ar] : List va_W).flatten := hD
    obtain ⟨rfl, hq⟩ := hw
    refine lv_istore (lv' := [(6, .int (nI 1)), (0, .ref sb), (1, .ref (x 0)), (2, .ref (mb 0)), (3, .ref ol), (4, .ref od), (5, .int (nI i))]) hx hb dL_law_1159 hl (by decide) rfl (fun ls hl => ?_)
    refine lv_aload_n hx hb dL_law_1161 rfl (lv_at hl 3 rfl) ?_
    refine lv_aload_n hx hb dL_law_1162 rfl (lv_at hl 1 rfl) ?_
    refine lv_iload hx hb dL_law_1163 (lv_at hl 6 rfl) ?_
    refine lv_iconst (v := nI 1) hx hb dL_law_1165 (by decide) ?_
    refine nv_iadd hx hb dL_law_1166 ?_
    refine va_sld hx hb hX hbl hbA hS (vp_in_nI (show i + 1 < L by omega) (by omega)) dL_law_1167 ?_
    refine tp_i (show xs (nI (i + 1)).toNatClampNeg = p0 from by rw [nI_clamp (by omega), hp0]) ?_
    refine run_l (S := Unit) (run_V (As := [.int p0]) (rest := []) (bs := [loC E ol lo, dbC E od dO, coC E x a a2 a3 b d k pa y w, stC E a g, stC E a2 g2, stC E a3 g3, hhC E b hs hg nx ct, diC E d co re, grC E k so gw, prC E pa q F, sbO E y v ml n, baC E v cp t, moC E mb z g gs ar]) (cb := [moC E mb z g gs ar]) hx hb hml hown hts hK hZ hA (c_X6_dueBeats l E _ mb z g gs ar B hI p0) l_L_203 rfl ⟨⟨rfl, rfl⟩, Nat.le_of_ble_eq_true rfl, Nat.le_of_ble_eq_true rfl⟩ 10 rfl [12] rfl (by decide) rfl hP hD hS hl.1 rfl (Nat.le_of_ble_eq_true rfl) dL_law_1168 ⟨by show (cells + 1) + 0 ≤ 603072; omega, by show (slots + 6) + 0 ≤ 7174250; omega⟩) hA hP hD hS (isC := [12]) rfl [0, 1, 2, 3, 4, 5, 6, 7, 8, 9, 10, 11] [0, 1, 2, 3, 4, 5, 6, 7, 8, 9, 10, 11, 12] (br := [loC E ol lo, dbC E od dO, coC E x a a2 a3 b d k pa y w, stC E a g, stC E a2 g2, stC E a3 g3, hhC E b hs hg nx ct, diC E d co re, grC E k so gw, prC E pa q F, sbO E y v ml n, baC E v cp t]) (bs2 := fun _ => [loC E ol lo, dbC E od dO, coC E x a a2 a3 b d k pa y w, stC E a g, stC E a2 g2, stC E a3 g3, hhC E b hs hg nx ct, diC E d co re, grC E k so gw, prC E pa q F, sbO E y v ml n, baC E v cp t, moC E mb (upn z 0 (if hasM g p0 = true then 0 else 1)) g gs ar]) rfl (by decide) (fun _ => rfl) (by decide) (fun r u6 H locs hw6 hP hD hS => ?_)
    have hw6 : r = lN (if hasM g p0 = true then dlk g (tn p0) 60 else 0) := hw6
    subst hw6
    refine lv_lstore (lv' := [(7, .long (lN (if hasM g p0 = true then dlk g (tn p0) 60 else 0))), (6, .int (nI 1)), (0, .ref sb), (1, .ref (x 0)), (2, .ref (mb 0)), (3, .ref ol), (4, .ref od), (5, .int (nI i))]) hx hb dL_law_1171 hl (by decide) rfl (fun ls hl => ?_)
    refine lv_aload_n hx hb dL_law_1173 rfl (lv_at hl 4 rfl) ?_
    refine run_i (S := Unit) (run_V (As := []) (rest := []) (bs := [loC E ol lo, dbC E od dO, coC E x a a2 a3 b d k pa y w, stC E a g, stC E a2 g2, stC E a3 g3, hhC E b hs hg nx ct, diC E d co re, grC E k so gw, prC E pa q F, sbO E y v ml n, baC E v cp t, moC E mb (upn z 0 (if hasM g p0 = true then 0 else 1)) g gs ar]) (cb := [moC E mb (upn z 0 (if hasM g p0 = true then 0 else 1)) g gs ar]) hx hb hml hown hts hK hZ hA (c_X6_thrown l E _ mb (upn z 0 (if hasM g p0 = true then 0 else 1)) g gs ar) l_L_152 rfl ⟨⟨rfl, rfl⟩, Nat.le_of_ble_eq_true rfl, Nat.le_of_ble_eq_true rfl⟩ 10 rfl [12] rfl (by decide) rfl hP hD hS hl.1 rfl (Nat.le_of_ble_eq_true rfl) dL_law_1174 ⟨by show ((cells + 1) + 0) + 0 ≤ 603072; omega, by show ((slots + 6) + 0) + 0 ≤ 7174250; omega⟩) hA hP hD hS (isC := [12]) rfl [0, 1, 2, 3, 4, 5, 6, 7, 8, 9, 10, 11] [0, 1, 2, 3, 4, 5, 6, 7, 8, 9, 10, 11, 12] (br := [loC E ol lo, dbC E od dO, coC E x a a2 a3 b d k pa y w, stC E a g, stC E a2 g2, stC E a3 g3, hhC E b hs hg nx ct, diC E d co re, grC E k so gw, prC E pa q F, sbO E y v ml n, baC E v cp t]) (bs2 := fun _ => [loC E ol lo, dbC E od dO, coC E x a a2 a3 b d k pa y w, stC E a g, stC E a2 g2, stC E a3 g3, hhC E b hs hg nx ct, diC E d co re, grC E k so gw, prC E pa q F, sbO E y v ml n, baC E v cp t, moC E mb (upn z 0 (if hasM g p0 = true then 0 else 1)) g gs ar]) rfl (by decide) (fun _ => rfl) (by decide) (fun r u6 H locs hw6 hP hD hS => ?_)
    have hw6 : r = nI ((upn z 0 (if hasM g p0 = true then 0 else 1)) 0) := hw6
    subst hw6
    refine lv_iload hx hb dL_law_1177 (lv_at hl 1 rfl) ?_
    refine lv_icmp_eq (tgt := 1184) hx hb dL_law_1179 (by decide) (fun _ => ?_) (fun hc => absurd (show nI ((upn z 0 (if hasM g p0 = true then 0 else 1)) 0) = nI 1 from congrArg nI (upn_s.trans (if_neg (fun h9 => by rw [hq] at h9; cases h9)))) hc)
    refine lv_iload hx hb dL_law_1184 (lv_at hl 1 rfl) ?_
    refine nv_if_ne (X := ((1 : Nat) : Int)) hx hb (nI_toInt (by omega)) (tgt := 1200) dL_law_1186 (by decide) (fun c_3 => ?_) (fun c_3 => ?_)
    · skip
      refine lv_goto (tgt := 2541) hx hb dL_law_1200 (by decide) ?_
      exact W_widen (by omega) (by omega) (kk w g g2 g3 hg nx ct co re so gw q F v ml n cp t (upn z 0 (if hasM g p0 = true then 0 else 1)) gs ar lo dO _ _ _ (rel_q hR hB4) hP hD hS (lv_sub hl [2, 3, 4, 5, 6, 7] rfl))
    · exact absurd c_3 (by omega)
set_option maxHeartbeats 4000000 in
set_option maxRecDepth 100000 in
theorem st_dueBeatsByDoubling {p : Program} {l : Launch} {e : Env} {s : State} {m : MethodId} {args : Array Value} {below : List Frame} {meth : Method} {c : Code} {E : EE} {A : Nat → Prop} {Q : State → Prop} {x a a2 a3 b d k pa y : Nat → Nat} {hs : Nat → Nat → Nat} {mb : Nat → Nat} {ol od sb : Nat} {i B cells slots L : Nat} {xs : Nat → Int32} (C : LCx p l s m args c E A sb L xs) (hL : L ≤ 2560) (hi : i + 5 ≤ L) (hB4 : B + 420 ≤ 300000) (hrc : cells + 13 ≤ 603072 ∧ slots + 414 ≤ 7174250) (kk : LGo p l e s m args below meth c E A Q x a a2 a3 b d k pa y hs mb ol od sb i (B + 420) (cells + 13) (slots + 414) 2541) : LGo p l e s m args below meth c E A Q x a a2 a3 b d k pa y hs mb ol od sb i B cells slots 1203 := by
  obtain ⟨hx, hb, hml, hown, hts, hK, hZ, hDD, hA, hX, hbl, hbA, hst⟩ := C
  intro w g g2 g3 hg nx ct co re so gw q F v ml n cp t z gs ar lo dO H locs ls hR hP hD hS hl
  obtain ⟨hI, ⟨hs1, hs2, hs3⟩, ⟨hnx, hct, hz1, hh9⟩, ⟨hw1, hw2, hz5, hz6⟩, ⟨hq1, hq2, hF0, hF9⟩, ⟨hn1, hn2, hcp, ht9, htx, ho2⟩⟩ := id hR
  have hmc := hI.mc
  obtain ⟨p0, hp0⟩ : ∃ y9, y9 = xs (i + 1) := ⟨_, rfl⟩
  refine lv_aload_n hx hb dL_law_1203 rfl (lv_at hl 1 rfl) ?_
  refine lv_aload_n hx hb dL_law_1204 rfl (lv_at hl 0 rfl) ?_
  refine lv_iload hx hb dL_law_1205 (lv_at hl 5 rfl) ?_
  refine lv_iconst (v := nI 1) hx hb dL_law_1207 (by decide) ?_
  refine nv_iadd hx hb dL_law_1208 ?_
  refine va_sld hx hb hX hbl hbA hS (vp_in_nI (show i + 1 < L by omega) (by omega)) dL_law_1209 ?_
  refine tp_i (show xs (nI (i + 1)).toNatClampNeg = p0 from by rw [nI_clamp (by omega), hp0]) ?_
  refine lv_aload_n hx hb dL_law_1210 rfl (lv_at hl 3 rfl) ?_
  refine run_i (S := (Unit × Int64 × (Nat → Int64)) ⊕ Unit) (run_SW (As := [.ref (x 0), .int p0, .ref ol]) (rest := []) (bs := [loC E ol lo, dbC E od dO, coC E x a a2 a3 b d k pa y w, stC E a g, stC E a2 g2, stC E a3 g3, hhC E b hs hg nx ct, diC E d co re, grC E k so gw, prC E pa q F, sbO E y v ml n, baC E v cp t, moC E mb z g gs ar]) (cb := [loC E ol lo, coC E x a a2 a3 b d k pa y w, stC E a g]) hx hb hml hown hts hK hZ hDD hA (c_L_dueBeatsByDoubling l hst E _ x a a2 a3 b d k pa y w g B hI p0 ol lo) l_L_204 rfl ⟨⟨rfl, rfl⟩, Nat.le_of_ble_eq_true rfl, Nat.le_of_ble_eq_true rfl⟩ [0, 2, 3] rfl (by decide) hP hD hS hl.1 rfl (Nat.le_of_ble_eq_true rfl) dL_law_1211 ⟨by show cells + 1 ≤ 603072; omega, by show slots + 6 ≤ 7174250; omega⟩) hA hP hD hS (isC := [0, 2, 3]) rfl [1, 4, 5, 6, 7, 8, 9, 10, 11, 12] [10, 0, 11, 12, 1, 2, 3, 4, 5, 6, 7, 8, 9] (br := [dbC E od dO, stC E a2 g2, stC E a3 g3, hhC E b hs hg nx ct, diC E d co re, grC E k so gw, prC E pa q F, sbO E y v ml n, baC E v cp t, moC E mb z g gs ar]) (bs2 := fun u => Sum.elim (fun (vq : Unit × Int64 × (Nat → Int64)) => [loC E ol vq.2.2, dbC E od dO, coC E x a a2 a3 b d k pa y w, stC E a g, stC E a2 g2, stC E a3 g3, hhC E b hs hg nx ct, diC E d co re, grC E k so gw, prC E pa q F, sbO E y v ml n, baC E v cp t, moC E mb z g gs ar]) (fun (vq : Unit) => [loC E ol lo, dbC E od dO, coC E x a a2 a3 b d k pa y w, stC E a g, stC E a2 g2, stC E a3 g3, hhC E b hs hg nx ct, diC E d co re, grC E k so gw, prC E pa q F, sbO E y v ml n, baC E v cp t, moC E mb z g gs ar]) u) rfl (by decide) (fun u => by rcases u with u | u <;> rfl) (by decide) (fun r u H locs hw hP hD hS => ?_)
  rcases u with vq | vq
  · skip
    obtain ⟨u9, r9, lo9⟩ := vq
    have hw7 : r = nI 0 ∧ (hasM g p0 = true ∧ r9 = lN (dlk g (tn p0) 60)) ∧ lo9 0 = r9 := hw
    clear hw
    obtain ⟨rfl, hw⟩ := hw7
    have hP : va_P E.1 vwCl ([loC E ol lo9, dbC E od dO, coC E x a a2 a3 b d k pa y w, stC E a g, stC E a2 g2, stC E a3 g3, hhC E b hs hg nx ct, diC E d co re, grC E k so gw, prC E pa q F, sbO E y v ml n, baC E v cp t, moC E mb z g gs ar] : List va_W).flatten H := hP
    have hD : va_D A ([loC E ol lo9, dbC E od dO, coC E x a a2 a3 b d k pa y w, stC E a g, stC E a2 g2, stC E a3 g3, hhC E b hs hg nx ct, diC E d co re, grC E k so gw, prC E pa q F, sbO E y v ml n, baC E v cp t, moC E mb z g gs ar] : List va_W).flatten := hD
    obtain ⟨⟨hcnd, hr9⟩, hlo⟩ := hw
    subst hr9
    refine lv_istore (lv' := [(6, .int (nI 0)), (0, .ref sb), (1, .ref (x 0)), (2, .ref (mb 0)), (3, .ref ol), (4, .ref od), (5, .int (nI i))]) hx hb dL_law_1214 hl (by decide) rfl (fun ls hl => ?_)
    refine lv_aload_n hx hb dL_law_1216 rfl (lv_at hl 3 rfl) ?_
    refine lv_aload_n hx hb dL_law_1217 rfl (lv_at hl 1 rfl) ?_
    refine lv_iload hx hb dL_law_1218 (lv_at hl 6 rfl) ?_
    refine lv_iconst (v := nI 1) hx hb dL_law_1220 (by decide) ?_
    refine nv_iadd hx hb dL_law_1221 ?_
    refine va_sld hx hb hX hbl hbA hS (vp_in_nI (show i + 1 < L by omega) (by omega)) dL_law_1222 ?_
    refine tp_i (show xs (nI (i + 1)).toNatClampNeg = p0 from by rw [nI_clamp (by omega), hp0]) ?_
    refine run_l (S := Unit) (run_V (As := [.int p0]) (rest := []) (bs := [loC E ol lo9, dbC E od dO, coC E x a a2 a3 b d k pa y w, stC E a g, stC E a2 g2, stC E a3 g3, hhC E b hs hg nx ct, diC E d co re, grC E k so gw, prC E pa q F, sbO E y v ml n, baC E v cp t, moC E mb z g gs ar]) (cb := [moC E mb z g gs ar]) hx hb hml hown hts hK hZ hA (c_X6_dueBeatsByDoubling l E _ mb z g gs ar B hI p0) l_L_206 rfl ⟨⟨rfl, rfl⟩, Nat.le_of_ble_eq_true rfl, Nat.le_of_ble_eq_true rfl⟩ 10 rfl [12] rfl (by decide) rfl hP hD hS hl.1 rfl (Nat.le_of_ble_eq_true rfl) dL_law_1223 ⟨by show (cells + 1) + 0 ≤ 603072; omega, by show (slots + 6) + 0 ≤ 7174250; omega⟩) hA hP hD hS (isC := [12]) rfl [0, 1, 2, 3, 4, 5, 6, 7, 8, 9, 10, 11] [0, 1, 2, 3, 4, 5, 6, 7, 8, 9, 10, 11, 12] (br := [loC E ol lo9, dbC E od dO, coC E x a a2 a3 b d k pa y w, stC E a g, stC E a2 g2, stC E a3 g3, hhC E b hs hg nx ct, diC E d co re, grC E k so gw, prC E pa q F, sbO E y v ml n, baC E v cp t]) (bs2 := fun _ => [loC E ol lo9, dbC E od dO, coC E x a a2 a3 b d k pa y w, stC E a g, stC E a2 g2, stC E a3 g3, hhC E b hs hg nx ct, diC E d co re, grC E k so gw, prC E pa q F, sbO E y v ml n, baC E v cp t, moC E mb (upn z 0 (if hasM g p0 = true then 0 else 1)) g gs ar]) rfl (by decide) (fun _ => rfl) (by decide) (fun r u6 H locs hw6 hP hD hS => ?_)
    have hw6 : r = lN (if hasM g p0 = true then dlk g (tn p0) 60 else 0) := hw6
    subst hw6
    rw [show lN (if hasM g p0 = true then dlk g (tn p0) 60 else 0) = lN (dlk g (tn p0) 60) from congrArg lN (if_pos hcnd)]
    refine lv_lstore (lv' := [(7, .long (lN (dlk g (tn p0) 60))), (6, .int (nI 0)), (0, .ref sb), (1, .ref (x 0)), (2, .ref (mb 0)), (3, .ref ol), (4, .ref od), (5, .int (nI i))]) hx hb dL_law_1226 hl (by decide) rfl (fun ls hl => ?_)
    refine lv_aload_n hx hb dL_law_1228 rfl (lv_at hl 4 rfl) ?_
    refine run_i (S := Unit) (run_V (As := []) (rest := []) (bs := [loC E ol lo9, dbC E od dO, coC E x a a2 a3 b d k pa y w, stC E a g, stC E a2 g2, stC E a3 g3, hhC E b hs hg nx ct, diC E d co re, grC E k so gw, prC E pa q F, sbO E y v ml n, baC E v cp t, moC E mb (upn z 0 (if hasM g p0 = true then 0 else 1)) g gs ar]) (cb := [moC E mb (upn z 0 (if hasM g p0 = true then 0 else 1)) g gs ar]) hx hb hml hown hts hK hZ hA (c_X6_thrown l E _ mb (upn z 0 (if hasM g p0 = true then 0 else 1)) g gs ar) l_L_152 rfl ⟨⟨rfl, rfl⟩, Nat.le_of_ble_eq_true rfl, Nat.le_of_ble_eq_true rfl⟩ 10 rfl [12] rfl (by decide) rfl hP hD hS hl.1 rfl (Nat.le_of_ble_eq_true rfl) dL_law_1229 ⟨by show ((cells + 1) + 0) + 0 ≤ 603072; omega, by show ((slots + 6) + 0) + 0 ≤ 7174250; omega⟩) hA hP hD hS (isC := [12]) rfl [0, 1, 2, 3, 4, 5, 6, 7, 8, 9, 10, 11] [0, 1, 2, 3, 4, 5, 6, 7, 8, 9, 10, 11, 12] (br := [loC E ol lo9, dbC E od dO, coC E x a a2 a3 b d k pa y w, stC E a g, stC E a2 g2, stC E a3 g3, hhC E b hs hg nx ct, diC E d co re, grC E k so gw, prC E pa q F, sbO E y v ml n, baC E v cp t]) (bs2 := fun _ => [loC E ol lo9, dbC E od dO, coC E x a a2 a3 b d k pa y w, stC E a g, stC E a2 g2, stC E a3 g3, hhC E b hs hg nx ct, diC E d co re, grC E k so gw, prC E pa q F, sbO E y v ml n, baC E v cp t, moC E mb (upn z 0 (if hasM g p0 = true then 0 else 1)) g gs ar]) rfl (by decide) (fun _ => rfl) (by decide) (fun r u6 H locs hw6 hP hD hS => ?_)
    have hw6 : r = nI ((upn z 0 (if hasM g p0 = true then 0 else 1)) 0) := hw6
    subst hw6
    refine lv_iload hx hb dL_law_1232 (lv_at hl 1 rfl) ?_
    refine lv_icmp_eq (tgt := 1239) hx hb dL_law_1234 (by decide) (fun _ => ?_) (fun hc => absurd (show nI ((upn z 0 (if hasM g p0 = true then 0 else 1)) 0) = nI 0 from congrArg nI (upn_s.trans (if_pos hcnd))) hc)
    refine lv_iload hx hb dL_law_1239 (lv_at hl 1 rfl) ?_
    refine nv_if_ne (X := ((0 : Nat) : Int)) hx hb (nI_toInt (by omega)) (tgt := 1255) dL_law_1241 (by decide) (fun c_1 => ?_) (fun c_1 => ?_)
    · exact absurd c_1 (by omega)
    · skip
      refine lv_aload_n hx hb dL_law_1244 rfl (lv_at hl 5 rfl) ?_
      refine lv_iconst (v := nI 0) hx hb dL_law_1245 (by decide) ?_
      refine va_lald hx hb hK hP 0 4 rfl rfl (vp_in_nI (show 0 < 1 by decide) (by decide)) dL_law_1246 ?_
      rw [show lo9 (nI 0).toNatClampNeg = lN (dlk g (tn p0) 60) from by rw [nI_clamp (show 0 < 2 ^ 31 by decide)]; exact hlo]
      refine lv_lload hx hb dL_law_1247 (lv_at hl 0 rfl) ?_
      refine W.lcmp hx hb dL_law_1249 ?_
      refine tp_i (show lg_cmp (lN (dlk g (tn p0) 60)) (lN (dlk g (tn p0) 60)) = nI 0 from lg_eq _) ?_
      refine nv_if_eq (X := ((0 : Nat) : Int)) hx hb (nI_toInt (by omega)) (tgt := 1255) dL_law_1250 (by decide) (fun c_2 => ?_) (fun c_2 => ?_)
      · skip
        refine lv_goto (tgt := 2541) hx hb dL_law_1255 (by decide) ?_
        exact W_widen (by omega) (by omega) (kk w g g2 g3 hg nx ct co re so gw q F v ml n cp t (upn z 0 (if hasM g p0 = true then 0 else 1)) gs ar lo9 dO _ _ _ (rel_q hR hB4) hP hD hS (lv_sub hl [2, 3, 4, 5, 6, 7] rfl))
      · exact absurd c_2 (by omega)
  · skip
    have hw : r = nI 1 ∧ hasM g p0 = false := hw
    have hP : va_P E.1 vwCl ([loC E ol lo, dbC E od dO, coC E x a a2 a3 b d k pa y w, stC E a g, stC E a2 g2, stC E a3 g3, hhC E b hs hg nx ct, diC E d co re, grC E k so gw, prC E pa q F, sbO E y v ml n, baC E v cp t, moC E mb z g gs ar] : List va_W).flatten H := hP
    have hD : va_D A ([loC E ol lo, dbC E od dO, coC E x a a2 a3 b d k pa y w, stC E a g, stC E a2 g2, stC E a3 g3, hhC E b hs hg nx ct, diC E d co re, grC E k so gw, prC E pa q F, sbO E y v ml n, baC E v cp t, moC E mb z g gs ar] : List va_W).flatten := hD
    obtain ⟨rfl, hq⟩ := hw
    refine lv_istore (lv' := [(6, .int (nI 1)), (0, .ref sb), (1, .ref (x 0)), (2, .ref (mb 0)), (3, .ref ol), (4, .ref od), (5, .int (nI i))]) hx hb dL_law_1214 hl (by decide) rfl (fun ls hl => ?_)
    refine lv_aload_n hx hb dL_law_1216 rfl (lv_at hl 3 rfl) ?_
    refine lv_aload_n hx hb dL_law_1217 rfl (lv_at hl 1 rfl) ?_
    refine lv_iload hx hb dL_law_1218 (lv_at hl 6 rfl) ?_
    refine lv_iconst (v := nI 1) hx hb dL_law_1220 (by decide) ?_
    refine nv_iadd hx hb dL_law_1221 ?_
    refine va_sld hx hb hX hbl hbA hS (vp_in_nI (show i + 1 < L by omega) (by omega)) dL_law_1222 ?_
    refine tp_i (show xs (nI (i + 1)).toNatClampNeg = p0 from by rw [nI_clamp (by omega), hp0]) ?_
    refine run_l (S := Unit) (run_V (As := [.int p0]) (rest := []) (bs := [loC E ol lo, dbC E od dO, coC E x a a2 a3 b d k pa y w, stC E a g, stC E a2 g2, stC E a3 g3, hhC E b hs hg nx ct, diC E d co re, grC E k so gw, prC E pa q F, sbO E y v ml n, baC E v cp t, moC E mb z g gs ar]) (cb := [moC E mb z g gs ar]) hx hb hml hown hts hK hZ hA (c_X6_dueBeatsByDoubling l E _ mb z g gs ar B hI p0) l_L_206 rfl ⟨⟨rfl, rfl⟩, Nat.le_of_ble_eq_true rfl, Nat.le_of_ble_eq_true rfl⟩ 10 rfl [12] rfl (by decide) rfl hP hD hS hl.1 rfl (Nat.le_of_ble_eq_true rfl) dL_law_1223 ⟨by show (cells + 1) + 0 ≤ 603072; omega, by show (slots + 6) + 0 ≤ 7174250; omega⟩) hA hP hD hS (isC := [12]) rfl [0, 1, 2, 3, 4, 5, 6, 7, 8, 9, 10, 11] [0, 1, 2, 3, 4, 5, 6, 7, 8, 9, 10, 11, 12] (br := [loC E ol lo, dbC E od dO, coC E x a a2 a3 b d k pa y w, stC E a g, stC E a2 g2, stC E a3 g3, hhC E b hs hg nx ct, diC E d co re, grC E k so gw, prC E pa q F, sbO E y v ml n, baC E v cp t]) (bs2 := fun _ => [loC E ol lo, dbC E od dO, coC E x a a2 a3 b d k pa y w, stC E a g, stC E a2 g2, stC E a3 g3, hhC E b hs hg nx ct, diC E d co re, grC E k so gw, prC E pa q F, sbO E y v ml n, baC E v cp t, moC E mb (upn z 0 (if hasM g p0 = true then 0 else 1)) g gs ar]) rfl (by decide) (fun _ => rfl) (by decide) (fun r u6 H locs hw6 hP hD hS => ?_)
    have hw6 : r = lN (if hasM g p0 = true then dlk g (tn p0) 60 else 0) := hw6
    subst hw6
    refine lv_lstore (lv' := [(7, .long (lN (if hasM g p0 = true then dlk g (tn p0) 60 else 0))), (6, .int (nI 1)), (0, .ref sb), (1, .ref (x 0)), (2, .ref (mb 0)), (3, .ref ol), (4, .ref od), (5, .int (nI i))]) hx hb dL_law_1226 hl (by decide) rfl (fun ls hl => ?_)
    refine lv_aload_n hx hb dL_law_1228 rfl (lv_at hl 4 rfl) ?_
    refine run_i (S := Unit) (run_V (As := []) (rest := []) (bs := [loC E ol lo, dbC E od dO, coC E x a a2 a3 b d k pa y w, stC E a g, stC E a2 g2, stC E a3 g3, hhC E b hs hg nx ct, diC E d co re, grC E k so gw, prC E pa q F, sbO E y v ml n, baC E v cp t, moC E mb (upn z 0 (if hasM g p0 = true then 0 else 1)) g gs ar]) (cb := [moC E mb (upn z 0 (if hasM g p0 = true then 0 else 1)) g gs ar]) hx hb hml hown hts hK hZ hA (c_X6_thrown l E _ mb (upn z 0 (if hasM g p0 = true then 0 else 1)) g gs ar) l_L_152 rfl ⟨⟨rfl, rfl⟩, Nat.le_of_ble_eq_true rfl, Nat.le_of_ble_eq_true rfl⟩ 10 rfl [12] rfl (by decide) rfl hP hD hS hl.1 rfl (Nat.le_of_ble_eq_true rfl) dL_law_1229 ⟨by show ((cells + 1) + 0) + 0 ≤ 603072; omega, by show ((slots + 6) + 0) + 0 ≤ 7174250; omega⟩) hA hP hD hS (isC := [12]) rfl [0, 1, 2, 3, 4, 5, 6, 7, 8, 9, 10, 11] [0, 1, 2, 3, 4, 5, 6, 7, 8, 9, 10, 11, 12] (br := [loC E ol lo, dbC E od dO, coC E x a a2 a3 b d k pa y w, stC E a g, stC E a2 g2, stC E a3 g3, hhC E b hs hg nx ct, diC E d co re, grC E k so gw, prC E pa q F, sbO E y v ml n, baC E v cp t]) (bs2 := fun _ => [loC E ol lo, dbC E od dO, coC E x a a2 a3 b d k pa y w, stC E a g, stC E a2 g2, stC E a3 g3, hhC E b hs hg nx ct, diC E d co re, grC E k so gw, prC E pa q F, sbO E y v ml n, baC E v cp t, moC E mb (upn z 0 (if hasM g p0 = true then 0 else 1)) g gs ar]) rfl (by decide) (fun _ => rfl) (by decide) (fun r u6 H locs hw6 hP hD hS => ?_)
    have hw6 : r = nI ((upn z 0 (if hasM g p0 = true then 0 else 1)) 0) := hw6
    subst hw6
    refine lv_iload hx hb dL_law_1232 (lv_at hl 1 rfl) ?_
    refine lv_icmp_eq (tgt := 1239) hx hb dL_law_1234 (by decide) (fun _ => ?_) (fun hc => absurd (show nI ((upn z 0 (if hasM g p0 = true then 0 else 1)) 0) = nI 1 from congrArg nI (upn_s.trans (if_neg (fun h9 => by rw [hq] at h9; cases h9)))) hc)
    refine lv_iload hx hb dL_law_1239 (lv_at hl 1 rfl) ?_
    refine nv_if_ne (X := ((1 : Nat) : Int)) hx hb (nI_toInt (by omega)) (tgt := 1255) dL_law_1241 (by decide) (fun c_3 => ?_) (fun c_3 => ?_)
    · skip
      refine lv_goto (tgt := 2541) hx hb dL_law_1255 (by decide) ?_
      exact W_widen (by omega) (by omega) (kk w g g2 g3 hg nx ct co re so gw q F v ml n cp t (upn z 0 (if hasM g p0 = true then 0 else 1)) gs ar lo dO _ _ _ (rel_q hR hB4) hP hD hS (lv_sub hl [2, 3, 4, 5, 6, 7] rfl))
    · exact absurd c_3 (by omega)
set_option maxHeartbeats 4000000 in
set_option maxRecDepth 100000 in
theorem st_commonBeats {p : Program} {l : Launch} {e : Env} {s : State} {m : MethodId} {args : Array Value} {below : List Frame} {meth : Method} {c : Code} {E : EE} {A : Nat → Prop} {Q : State → Prop} {x a a2 a3 b d k pa y : Nat → Nat} {hs : Nat → Nat → Nat} {mb : Nat → Nat} {ol od sb : Nat} {i B cells slots L : Nat} {xs : Nat → Int32} (C : LCx p l s m args c E A sb L xs) (hL : L ≤ 2560) (hi : i + 5 ≤ L) (hB4 : B + 420 ≤ 300000) (hrc : cells + 13 ≤ 603072 ∧ slots + 414 ≤ 7174250) (kk : LGo p l e s m args below meth c E A Q x a a2 a3 b d k pa y hs mb ol od sb i (B + 420) (cells + 13) (slots + 414) 2541) : LGo p l e s m args below meth c E A Q x a a2 a3 b d k pa y hs mb ol od sb i B cells slots 1258 := by
  obtain ⟨hx, hb, hml, hown, hts, hK, hZ, hDD, hA, hX, hbl, hbA, hst⟩ := C
  intro w g g2 g3 hg nx ct co re so gw q F v ml n cp t z gs ar lo dO H locs ls hR hP hD hS hl
  obtain ⟨hI, ⟨hs1, hs2, hs3⟩, ⟨hnx, hct, hz1, hh9⟩, ⟨hw1, hw2, hz5, hz6⟩, ⟨hq1, hq2, hF0, hF9⟩, ⟨hn1, hn2, hcp, ht9, htx, ho2⟩⟩ := id hR
  have hmc := hI.mc
  obtain ⟨p0, hp0⟩ : ∃ y9, y9 = xs (i + 1) := ⟨_, rfl⟩
  obtain ⟨p1, hp1⟩ : ∃ y9, y9 = xs (i + 2) := ⟨_, rfl⟩
  refine lv_aload_n hx hb dL_law_1258 rfl (lv_at hl 1 rfl) ?_
  refine lv_aload_n hx hb dL_law_1259 rfl (lv_at hl 0 rfl) ?_
  refine lv_iload hx hb dL_law_1260 (lv_at hl 5 rfl) ?_
  refine lv_iconst (v := nI 1) hx hb dL_law_1262 (by decide) ?_
  refine nv_iadd hx hb dL_law_1263 ?_
  refine va_sld hx hb hX hbl hbA hS (vp_in_nI (show i + 1 < L by omega) (by omega)) dL_law_1264 ?_
  refine tp_i (show xs (nI (i + 1)).toNatClampNeg = p0 from by rw [nI_clamp (by omega), hp0]) ?_
  refine lv_aload_n hx hb dL_law_1265 rfl (lv_at hl 0 rfl) ?_
  refine lv_iload hx hb dL_law_1266 (lv_at hl 5 rfl) ?_
  refine lv_iconst (v := nI 2) hx hb dL_law_1268 (by decide) ?_
  refine nv_iadd hx hb dL_law_1269 ?_
  refine va_sld hx hb hX hbl hbA hS (vp_in_nI (show i + 2 < L by omega) (by omega)) dL_law_1270 ?_
  refine tp_i (show xs (nI (i + 2)).toNatClampNeg = p1 from by rw [nI_clamp (by omega), hp1]) ?_
  refine lv_aload_n hx hb dL_law_1271 rfl (lv_at hl 3 rfl) ?_
  refine run_i (S := (Unit × Int32 × (Nat → Int64)) ⊕ Unit) (run_SW (As := [.ref (x 0), .int p0, .int p1, .ref ol]) (rest := []) (bs := [loC E ol lo, dbC E od dO, coC E x a a2 a3 b d k pa y w, stC E a g, stC E a2 g2, stC E a3 g3, hhC E b hs hg nx ct, diC E d co re, grC E k so gw, prC E pa q F, sbO E y v ml n, baC E v cp t, moC E mb z g gs ar]) (cb := [loC E ol lo, coC E x a a2 a3 b d k pa y w, stC E a g]) hx hb hml hown hts hK hZ hDD hA (c_L_commonBeats l hst E _ x a a2 a3 b d k pa y w g B hI p0 p1 ol lo) l_L_207 rfl ⟨⟨rfl, rfl⟩, Nat.le_of_ble_eq_true rfl, Nat.le_of_ble_eq_true rfl⟩ [0, 2, 3] rfl (by decide) hP hD hS hl.1 rfl (Nat.le_of_ble_eq_true rfl) dL_law_1272 ⟨by show cells + 2 ≤ 603072; omega, by show slots + 12 ≤ 7174250; omega⟩) hA hP hD hS (isC := [0, 2, 3]) rfl [1, 4, 5, 6, 7, 8, 9, 10, 11, 12] [10, 0, 11, 12, 1, 2, 3, 4, 5, 6, 7, 8, 9] (br := [dbC E od dO, stC E a2 g2, stC E a3 g3, hhC E b hs hg nx ct, diC E d co re, grC E k so gw, prC E pa q F, sbO E y v ml n, baC E v cp t, moC E mb z g gs ar]) (bs2 := fun u => Sum.elim (fun (vq : Unit × Int32 × (Nat → Int64)) => [loC E ol vq.2.2, dbC E od dO, coC E x a a2 a3 b d k pa y w, stC E a g, stC E a2 g2, stC E a3 g3, hhC E b hs hg nx ct, diC E d co re, grC E k so gw, prC E pa q F, sbO E y v ml n, baC E v cp t, moC E mb z g gs ar]) (fun (vq : Unit) => [loC E ol lo, dbC E od dO, coC E x a a2 a3 b d k pa y w, stC E a g, stC E a2 g2, stC E a3 g3, hhC E b hs hg nx ct, diC E d co re, grC E k so gw, prC E pa q F, sbO E y v ml n, baC E v cp t, moC E mb z g gs ar]) u) rfl (by decide) (fun u => by rcases u with u | u <;> rfl) (by decide) (fun r u H locs hw hP hD hS => ?_)
  rcases u with vq | vq
  · skip
    obtain ⟨u9, r9, lo9⟩ := vq
    have hw7 : r = nI 0 ∧ ((hasM g p0 && hasM g p1) = true ∧ r9 = nI (cmC g (tn p0) (tn p1))) ∧ lo9 0 = r9.toInt64 := hw
    clear hw
    obtain ⟨rfl, hw⟩ := hw7
    have hP : va_P E.1 vwCl ([loC E ol lo9, dbC E od dO, coC E x a a2 a3 b d k pa y w, stC E a g, stC E a2 g2, stC E a3 g3, hhC E b hs hg nx ct, diC E d co re, grC E k so gw, prC E pa q F, sbO E y v ml n, baC E v cp t, moC E mb z g gs ar] : List va_W).flatten H := hP
    have hD : va_D A ([loC E ol lo9, dbC E od dO, coC E x a a2 a3 b d k pa y w, stC E a g, stC E a2 g2, stC E a3 g3, hhC E b hs hg nx ct, diC E d co re, grC E k so gw, prC E pa q F, sbO E y v ml n, baC E v cp t, moC E mb z g gs ar] : List va_W).flatten := hD
    obtain ⟨⟨hcnd, hr9⟩, hlo⟩ := hw
    subst hr9
    refine lv_istore (lv' := [(6, .int (nI 0)), (0, .ref sb), (1, .ref (x 0)), (2, .ref (mb 0)), (3, .ref ol), (4, .ref od), (5, .int (nI i))]) hx hb dL_law_1275 hl (by decide) rfl (fun ls hl => ?_)
    refine lv_aload_n hx hb dL_law_1277 rfl (lv_at hl 3 rfl) ?_
    refine lv_aload_n hx hb dL_law_1278 rfl (lv_at hl 1 rfl) ?_
    refine lv_iload hx hb dL_law_1279 (lv_at hl 6 rfl) ?_
    refine lv_iconst (v := nI 1) hx hb dL_law_1281 (by decide) ?_
    refine nv_iadd hx hb dL_law_1282 ?_
    refine va_sld hx hb hX hbl hbA hS (vp_in_nI (show i + 1 < L by omega) (by omega)) dL_law_1283 ?_
    refine tp_i (show xs (nI (i + 1)).toNatClampNeg = p0 from by rw [nI_clamp (by omega), hp0]) ?_
    refine lv_aload_n hx hb dL_law_1284 rfl (lv_at hl 1 rfl) ?_
    refine lv_iload hx hb dL_law_1285 (lv_at hl 6 rfl) ?_
    refine lv_iconst (v := nI 2) hx hb dL_law_1287 (by decide) ?_
    refine nv_iadd hx hb dL_law_1288 ?_
    refine va_sld hx hb hX hbl hbA hS (vp_in_nI (show i + 2 < L by omega) (by omega)) dL_law_1289 ?_
    refine tp_i (show xs (nI (i + 2)).toNatClampNeg = p1 from by rw [nI_clamp (by omega), hp1]) ?_
    refine run_i (S := Unit) (run_V (As := [.int p0, .int p1]) (rest := []) (bs := [loC E ol lo9, dbC E od dO, coC E x a a2 a3 b d k pa y w, stC E a g, stC E a2 g2, stC E a3 g3, hhC E b hs hg nx ct, diC E d co re, grC E k so gw, prC E pa q F, sbO E y v ml n, baC E v cp t, moC E mb z g gs ar]) (cb := [moC E mb z g gs ar]) hx hb hml hown hts hK hZ hA (c_X6_commonBeats l E _ mb z g gs ar B hI p0 p1) l_L_209 rfl ⟨⟨rfl, rfl⟩, Nat.le_of_ble_eq_true rfl, Nat.le_of_ble_eq_true rfl⟩ 10 rfl [12] rfl (by decide) rfl hP hD hS hl.1 rfl (Nat.le_of_ble_eq_true rfl) dL_law_1290 ⟨by show (cells + 2) + 0 ≤ 603072; omega, by show (slots + 12) + 0 ≤ 7174250; omega⟩) hA hP hD hS (isC := [12]) rfl [0, 1, 2, 3, 4, 5, 6, 7, 8, 9, 10, 11] [0, 1, 2, 3, 4, 5, 6, 7, 8, 9, 10, 11, 12] (br := [loC E ol lo9, dbC E od dO, coC E x a a2 a3 b d k pa y w, stC E a g, stC E a2 g2, stC E a3 g3, hhC E b hs hg nx ct, diC E d co re, grC E k so gw, prC E pa q F, sbO E y v ml n, baC E v cp t]) (bs2 := fun _ => [loC E ol lo9, dbC E od dO, coC E x a a2 a3 b d k pa y w, stC E a g, stC E a2 g2, stC E a3 g3, hhC E b hs hg nx ct, diC E d co re, grC E k so gw, prC E pa q F, sbO E y v ml n, baC E v cp t, moC E mb (upn z 0 (if (hasM g p0 && hasM g p1) = true then 0 else 1)) g gs ar]) rfl (by decide) (fun _ => rfl) (by decide) (fun r u6 H locs hw6 hP hD hS => ?_)
    have hw6 : r = nI (if (hasM g p0 && hasM g p1) = true then cmN g (tn p0) (tn p1) 60 else 0) := hw6
    subst hw6
    refine tp_i (show nI (if (hasM g p0 && hasM g p1) = true then cmN g (tn p0) (tn p1) 60 else 0) = nI (cmC g (tn p0) (tn p1)) from congrArg nI (if_pos hcnd)) ?_
    refine lv_istore (lv' := [(7, .int (nI (cmC g (tn p0) (tn p1)))), (6, .int (nI 0)), (0, .ref sb), (1, .ref (x 0)), (2, .ref (mb 0)), (3, .ref ol), (4, .ref od), (5, .int (nI i))]) hx hb dL_law_1293 hl (by decide) rfl (fun ls hl => ?_)
    refine lv_aload_n hx hb dL_law_1295 rfl (lv_at hl 4 rfl) ?_
    refine run_i (S := Unit) (run_V (As := []) (rest := []) (bs := [loC E ol lo9, dbC E od dO, coC E x a a2 a3 b d k pa y w, stC E a g, stC E a2 g2, stC E a3 g3, hhC E b hs hg nx ct, diC E d co re, grC E k so gw, prC E pa q F, sbO E y v ml n, baC E v cp t, moC E mb (upn z 0 (if (hasM g p0 && hasM g p1) = true then 0 else 1)) g gs ar]) (cb := [moC E mb (upn z 0 (if (hasM g p0 && hasM g p1) = true then 0 else 1)) g gs ar]) hx hb hml hown hts hK hZ hA (c_X6_thrown l E _ mb (upn z 0 (if (hasM g p0 && hasM g p1) = true then 0 else 1)) g gs ar) l_L_152 rfl ⟨⟨rfl, rfl⟩, Nat.le_of_ble_eq_true rfl, Nat.le_of_ble_eq_true rfl⟩ 10 rfl [12] rfl (by decide) rfl hP hD hS hl.1 rfl (Nat.le_of_ble_eq_true rfl) dL_law_1296 ⟨by show ((cells + 2) + 0) + 0 ≤ 603072; omega, by show ((slots + 12) + 0) + 0 ≤ 7174250; omega⟩) hA hP hD hS (isC := [12]) rfl [0, 1, 2, 3, 4, 5, 6, 7, 8, 9, 10, 11] [0, 1, 2, 3, 4, 5, 6, 7, 8, 9, 10, 11, 12] (br := [loC E ol lo9, dbC E od dO, coC E x a a2 a3 b d k pa y w, stC E a g, stC E a2 g2, stC E a3 g3, hhC E b hs hg nx ct, diC E d co re, grC E k so gw, prC E pa q F, sbO E y v ml n, baC E v cp t]) (bs2 := fun _ => [loC E ol lo9, dbC E od dO, coC E x a a2 a3 b d k pa y w, stC E a g, stC E a2 g2, stC E a3 g3, hhC E b hs hg nx ct, diC E d co re, grC E k so gw, prC E pa q F, sbO E y v ml n, baC E v cp t, moC E mb (upn z 0 (if (hasM g p0 && hasM g p1) = true then 0 else 1)) g gs ar]) rfl (by decide) (fun _ => rfl) (by decide) (fun r u6 H locs hw6 hP hD hS => ?_)
    have hw6 : r = nI ((upn z 0 (if (hasM g p0 && hasM g p1) = true then 0 else 1)) 0) := hw6
    subst hw6
    refine lv_iload hx hb dL_law_1299 (lv_at hl 1 rfl) ?_
    refine lv_icmp_eq (tgt := 1306) hx hb dL_law_1301 (by decide) (fun _ => ?_) (fun hc => absurd (show nI ((upn z 0 (if (hasM g p0 && hasM g p1) = true then 0 else 1)) 0) = nI 0 from congrArg nI (upn_s.trans (if_pos hcnd))) hc)
    refine lv_iload hx hb dL_law_1306 (lv_at hl 1 rfl) ?_
    refine nv_if_ne (X := ((0 : Nat) : Int)) hx hb (nI_toInt (by omega)) (tgt := 1323) dL_law_1308 (by decide) (fun c_1 => ?_) (fun c_1 => ?_)
    · exact absurd c_1 (by omega)
    · skip
      refine lv_aload_n hx hb dL_law_1311 rfl (lv_at hl 5 rfl) ?_
      refine lv_iconst (v := nI 0) hx hb dL_law_1312 (by decide) ?_
      refine va_lald hx hb hK hP 0 4 rfl rfl (vp_in_nI (show 0 < 1 by decide) (by decide)) dL_law_1313 ?_
      rw [show lo9 (nI 0).toNatClampNeg = (nI (cmC g (tn p0) (tn p1))).toInt64 from by rw [nI_clamp (show 0 < 2 ^ 31 by decide)]; exact hlo]
      refine lv_iload hx hb dL_law_1314 (lv_at hl 0 rfl) ?_
      refine lv_i2l hx hb dL_law_1316 rfl ?_
      refine W.lcmp hx hb dL_law_1317 ?_
      refine tp_i (show lg_cmp ((nI (cmC g (tn p0) (tn p1))).toInt64) ((nI (cmC g (tn p0) (tn p1))).toInt64) = nI 0 from lg_eq _) ?_
      refine nv_if_eq (X := ((0 : Nat) : Int)) hx hb (nI_toInt (by omega)) (tgt := 1323) dL_law_1318 (by decide) (fun c_2 => ?_) (fun c_2 => ?_)
      · skip
        refine lv_goto (tgt := 2541) hx hb dL_law_1323 (by decide) ?_
        exact W_widen (by omega) (by omega) (kk w g g2 g3 hg nx ct co re so gw q F v ml n cp t (upn z 0 (if (hasM g p0 && hasM g p1) = true then 0 else 1)) gs ar lo9 dO _ _ _ (rel_q hR hB4) hP hD hS (lv_sub hl [2, 3, 4, 5, 6, 7] rfl))
      · exact absurd c_2 (by omega)
  · skip
    have hw : r = nI 1 ∧ (hasM g p0 && hasM g p1) = false := hw
    have hP : va_P E.1 vwCl ([loC E ol lo, dbC E od dO, coC E x a a2 a3 b d k pa y w, stC E a g, stC E a2 g2, stC E a3 g3, hhC E b hs hg nx ct, diC E d co re, grC E k so gw, prC E pa q F, sbO E y v ml n, baC E v cp t, moC E mb z g gs ar] : List va_W).flatten H := hP
    have hD : va_D A ([loC E ol lo, dbC E od dO, coC E x a a2 a3 b d k pa y w, stC E a g, stC E a2 g2, stC E a3 g3, hhC E b hs hg nx ct, diC E d co re, grC E k so gw, prC E pa q F, sbO E y v ml n, baC E v cp t, moC E mb z g gs ar] : List va_W).flatten := hD
    obtain ⟨rfl, hq⟩ := hw
    refine lv_istore (lv' := [(6, .int (nI 1)), (0, .ref sb), (1, .ref (x 0)), (2, .ref (mb 0)), (3, .ref ol), (4, .ref od), (5, .int (nI i))]) hx hb dL_law_1275 hl (by decide) rfl (fun ls hl => ?_)
    refine lv_aload_n hx hb dL_law_1277 rfl (lv_at hl 3 rfl) ?_
    refine lv_aload_n hx hb dL_law_1278 rfl (lv_at hl 1 rfl) ?_
    refine lv_iload hx hb dL_law_1279 (lv_at hl 6 rfl) ?_
    refine lv_iconst (v := nI 1) hx hb dL_law_1281 (by decide) ?_
    refine nv_iadd hx hb dL_law_1282 ?_
    refine va_sld hx hb hX hbl hbA hS (vp_in_nI (show i + 1 < L by omega) (by omega)) dL_law_1283 ?_
    refine tp_i (show xs (nI (i + 1)).toNatClampNeg = p0 from by rw [nI_clamp (by omega), hp0]) ?_
    refine lv_aload_n hx hb dL_law_1284 rfl (lv_at hl 1 rfl) ?_
    refine lv_iload hx hb dL_law_1285 (lv_at hl 6 rfl) ?_
    refine lv_iconst (v := nI 2) hx hb dL_law_1287 (by decide) ?_
    refine nv_iadd hx hb dL_law_1288 ?_
    refine va_sld hx hb hX hbl hbA hS (vp_in_nI (show i + 2 < L by omega) (by omega)) dL_law_1289 ?_
    refine tp_i (show xs (nI (i + 2)).toNatClampNeg = p1 from by rw [nI_clamp (by omega), hp1]) ?_
    refine run_i (S := Unit) (run_V (As := [.int p0, .int p1]) (rest := []) (bs := [loC E ol lo, dbC E od dO, coC E x a a2 a3 b d k pa y w, stC E a g, stC E a2 g2, stC E a3 g3, hhC E b hs hg nx ct, diC E d co re, grC E k so gw, prC E pa q F, sbO E y v ml n, baC E v cp t, moC E mb z g gs ar]) (cb := [moC E mb z g gs ar]) hx hb hml hown hts hK hZ hA (c_X6_commonBeats l E _ mb z g gs ar B hI p0 p1) l_L_209 rfl ⟨⟨rfl, rfl⟩, Nat.le_of_ble_eq_true rfl, Nat.le_of_ble_eq_true rfl⟩ 10 rfl [12] rfl (by decide) rfl hP hD hS hl.1 rfl (Nat.le_of_ble_eq_true rfl) dL_law_1290 ⟨by show (cells + 2) + 0 ≤ 603072; omega, by show (slots + 12) + 0 ≤ 7174250; omega⟩) hA hP hD hS (isC := [12]) rfl [0, 1, 2, 3, 4, 5, 6, 7, 8, 9, 10, 11] [0, 1, 2, 3, 4, 5, 6, 7, 8, 9, 10, 11, 12] (br := [loC E ol lo, dbC E od dO, coC E x a a2 a3 b d k pa y w, stC E a g, stC E a2 g2, stC E a3 g3, hhC E b hs hg nx ct, diC E d co re, grC E k so gw, prC E pa q F, sbO E y v ml n, baC E v cp t]) (bs2 := fun _ => [loC E ol lo, dbC E od dO, coC E x a a2 a3 b d k pa y w, stC E a g, stC E a2 g2, stC E a3 g3, hhC E b hs hg nx ct, diC E d co re, grC E k so gw, prC E pa q F, sbO E y v ml n, baC E v cp t, moC E mb (upn z 0 (if (hasM g p0 && hasM g p1) = true then 0 else 1)) g gs ar]) rfl (by decide) (fun _ => rfl) (by decide) (fun r u6 H locs hw6 hP hD hS => ?_)
    have hw6 : r = nI (if (hasM g p0 && hasM g p1) = true then cmN g (tn p0) (tn p1) 60 else 0) := hw6
    subst hw6
    refine lv_istore (lv' := [(7, .int (nI (if (hasM g p0 && hasM g p1) = true then cmN g (tn p0) (tn p1) 60 else 0))), (6, .int (nI 1)), (0, .ref sb), (1, .ref (x 0)), (2, .ref (mb 0)), (3, .ref ol), (4, .ref od), (5, .int (nI i))]) hx hb dL_law_1293 hl (by decide) rfl (fun ls hl => ?_)
    refine lv_aload_n hx hb dL_law_1295 rfl (lv_at hl 4 rfl) ?_
    refine run_i (S := Unit) (run_V (As := []) (rest := []) (bs := [loC E ol lo, dbC E od dO, coC E x a a2 a3 b d k pa y w, stC E a g, stC E a2 g2, stC E a3 g3, hhC E b hs hg nx ct, diC E d co re, grC E k so gw, prC E pa q F, sbO E y v ml n, baC E v cp t, moC E mb (upn z 0 (if (hasM g p0 && hasM g p1) = true then 0 else 1)) g gs ar]) (cb := [moC E mb (upn z 0 (if (hasM g p0 && hasM g p1) = true then 0 else 1)) g gs ar]) hx hb hml hown hts hK hZ hA (c_X6_thrown l E _ mb (upn z 0 (if (hasM g p0 && hasM g p1) = true then 0 else 1)) g gs ar) l_L_152 rfl ⟨⟨rfl, rfl⟩, Nat.le_of_ble_eq_true rfl, Nat.le_of_ble_eq_true rfl⟩ 10 rfl [12] rfl (by decide) rfl hP hD hS hl.1 rfl (Nat.le_of_ble_eq_true rfl) dL_law_1296 ⟨by show ((cells + 2) + 0) + 0 ≤ 603072; omega, by show ((slots + 12) + 0) + 0 ≤ 7174250; omega⟩) hA hP hD hS (isC := [12]) rfl [0, 1, 2, 3, 4, 5, 6, 7, 8, 9, 10, 11] [0, 1, 2, 3, 4, 5, 6, 7, 8, 9, 10, 11, 12] (br := [loC E ol lo, dbC E od dO, coC E x a a2 a3 b d k pa y w, stC E a g, stC E a2 g2, stC E a3 g3, hhC E b hs hg nx ct, diC E d co re, grC E k so gw, prC E pa q F, sbO E y v ml n, baC E v cp t]) (bs2 := fun _ => [loC E ol lo, dbC E od dO, coC E x a a2 a3 b d k pa y w, stC E a g, stC E a2 g2, stC E a3 g3, hhC E b hs hg nx ct, diC E d co re, grC E k so gw, prC E pa q F, sbO E y v ml n, baC E v cp t, moC E mb (upn z 0 (if (hasM g p0 && hasM g p1) = true then 0 else 1)) g gs ar]) rfl (by decide) (fun _ => rfl) (by decide) (fun r u6 H locs hw6 hP hD hS => ?_)
    have hw6 : r = nI ((upn z 0 (if (hasM g p0 && hasM g p1) = true then 0 else 1)) 0) := hw6
    subst hw6
    refine lv_iload hx hb dL_law_1299 (lv_at hl 1 rfl) ?_
    refine lv_icmp_eq (tgt := 1306) hx hb dL_law_1301 (by decide) (fun _ => ?_) (fun hc => absurd (show nI ((upn z 0 (if (hasM g p0 && hasM g p1) = true then 0 else 1)) 0) = nI 1 from congrArg nI (upn_s.trans (if_neg (fun h9 => by rw [hq] at h9; cases h9)))) hc)
    refine lv_iload hx hb dL_law_1306 (lv_at hl 1 rfl) ?_
    refine nv_if_ne (X := ((1 : Nat) : Int)) hx hb (nI_toInt (by omega)) (tgt := 1323) dL_law_1308 (by decide) (fun c_3 => ?_) (fun c_3 => ?_)
    · skip
      refine lv_goto (tgt := 2541) hx hb dL_law_1323 (by decide) ?_
      exact W_widen (by omega) (by omega) (kk w g g2 g3 hg nx ct co re so gw q F v ml n cp t (upn z 0 (if (hasM g p0 && hasM g p1) = true then 0 else 1)) gs ar lo dO _ _ _ (rel_q hR hB4) hP hD hS (lv_sub hl [2, 3, 4, 5, 6, 7] rfl))
    · exact absurd c_3 (by omega)
set_option maxHeartbeats 4000000 in
set_option maxRecDepth 100000 in
theorem st_beatsUntilChorus {p : Program} {l : Launch} {e : Env} {s : State} {m : MethodId} {args : Array Value} {below : List Frame} {meth : Method} {c : Code} {E : EE} {A : Nat → Prop} {Q : State → Prop} {x a a2 a3 b d k pa y : Nat → Nat} {hs : Nat → Nat → Nat} {mb : Nat → Nat} {ol od sb : Nat} {i B cells slots L : Nat} {xs : Nat → Int32} (C : LCx p l s m args c E A sb L xs) (hL : L ≤ 2560) (hi : i + 5 ≤ L) (hB4 : B + 420 ≤ 300000) (hrc : cells + 13 ≤ 603072 ∧ slots + 414 ≤ 7174250) (kk : LGo p l e s m args below meth c E A Q x a a2 a3 b d k pa y hs mb ol od sb i (B + 420) (cells + 13) (slots + 414) 2541) : LGo p l e s m args below meth c E A Q x a a2 a3 b d k pa y hs mb ol od sb i B cells slots 1326 := by
  obtain ⟨hx, hb, hml, hown, hts, hK, hZ, hDD, hA, hX, hbl, hbA, hst⟩ := C
  intro w g g2 g3 hg nx ct co re so gw q F v ml n cp t z gs ar lo dO H locs ls hR hP hD hS hl
  obtain ⟨hI, ⟨hs1, hs2, hs3⟩, ⟨hnx, hct, hz1, hh9⟩, ⟨hw1, hw2, hz5, hz6⟩, ⟨hq1, hq2, hF0, hF9⟩, ⟨hn1, hn2, hcp, ht9, htx, ho2⟩⟩ := id hR
  have hmc := hI.mc
  refine lv_aload_n hx hb dL_law_1326 rfl (lv_at hl 1 rfl) ?_
  refine lv_aload_n hx hb dL_law_1327 rfl (lv_at hl 3 rfl) ?_
  refine run_i (S := (Unit × Int32 × (Nat → Int64)) ⊕ Unit) (run_SW (As := [.ref (x 0), .ref ol]) (rest := []) (bs := [loC E ol lo, dbC E od dO, coC E x a a2 a3 b d k pa y w, stC E a g, stC E a2 g2, stC E a3 g3, hhC E b hs hg nx ct, diC E d co re, grC E k so gw, prC E pa q F, sbO E y v ml n, baC E v cp t, moC E mb z g gs ar]) (cb := [loC E ol lo, coC E x a a2 a3 b d k pa y w, stC E a g]) hx hb hml hown hts hK hZ hDD hA (c_L_beatsUntilChorus l hst E _ x a a2 a3 b d k pa y w g B hI ol lo) l_L_210 rfl ⟨⟨rfl, rfl⟩, Nat.le_of_ble_eq_true rfl, Nat.le_of_ble_eq_true rfl⟩ [0, 2, 3] rfl (by decide) hP hD hS hl.1 rfl (Nat.le_of_ble_eq_true rfl) dL_law_1328 ⟨by show cells + 1 ≤ 603072; omega, by show slots + 6 ≤ 7174250; omega⟩) hA hP hD hS (isC := [0, 2, 3]) rfl [1, 4, 5, 6, 7, 8, 9, 10, 11, 12] [10, 0, 11, 12, 1, 2, 3, 4, 5, 6, 7, 8, 9] (br := [dbC E od dO, stC E a2 g2, stC E a3 g3, hhC E b hs hg nx ct, diC E d co re, grC E k so gw, prC E pa q F, sbO E y v ml n, baC E v cp t, moC E mb z g gs ar]) (bs2 := fun u => Sum.elim (fun (vq : Unit × Int32 × (Nat → Int64)) => [loC E ol vq.2.2, dbC E od dO, coC E x a a2 a3 b d k pa y w, stC E a g, stC E a2 g2, stC E a3 g3, hhC E b hs hg nx ct, diC E d co re, grC E k so gw, prC E pa q F, sbO E y v ml n, baC E v cp t, moC E mb z g gs ar]) (fun (vq : Unit) => [loC E ol lo, dbC E od dO, coC E x a a2 a3 b d k pa y w, stC E a g, stC E a2 g2, stC E a3 g3, hhC E b hs hg nx ct, diC E d co re, grC E k so gw, prC E pa q F, sbO E y v ml n, baC E v cp t, moC E mb z g gs ar]) u) rfl (by decide) (fun u => by rcases u with u | u <;> rfl) (by decide) (fun r u H locs hw hP hD hS => ?_)
  rcases u with vq | vq
  · skip
    obtain ⟨u9, r9, lo9⟩ := vq
    have hw7 : r = nI 0 ∧ (fsC g < 60 ∧ r9 = nI (fsC g + 1)) ∧ lo9 0 = r9.toInt64 := hw
    clear hw
    obtain ⟨rfl, hw⟩ := hw7
    have hP : va_P E.1 vwCl ([loC E ol lo9, dbC E od dO, coC E x a a2 a3 b d k pa y w, stC E a g, stC E a2 g2, stC E a3 g3, hhC E b hs hg nx ct, diC E d co re, grC E k so gw, prC E pa q F, sbO E y v ml n, baC E v cp t, moC E mb z g gs ar] : List va_W).flatten H := hP
    have hD : va_D A ([loC E ol lo9, dbC E od dO, coC E x a a2 a3 b d k pa y w, stC E a g, stC E a2 g2, stC E a3 g3, hhC E b hs hg nx ct, diC E d co re, grC E k so gw, prC E pa q F, sbO E y v ml n, baC E v cp t, moC E mb z g gs ar] : List va_W).flatten := hD
    obtain ⟨⟨hcnd, hr9⟩, hlo⟩ := hw
    subst hr9
    refine lv_istore (lv' := [(6, .int (nI 0)), (0, .ref sb), (1, .ref (x 0)), (2, .ref (mb 0)), (3, .ref ol), (4, .ref od), (5, .int (nI i))]) hx hb dL_law_1331 hl (by decide) rfl (fun ls hl => ?_)
    refine lv_aload_n hx hb dL_law_1333 rfl (lv_at hl 3 rfl) ?_
    refine run_i (S := Unit) (run_V (As := []) (rest := []) (bs := [loC E ol lo9, dbC E od dO, coC E x a a2 a3 b d k pa y w, stC E a g, stC E a2 g2, stC E a3 g3, hhC E b hs hg nx ct, diC E d co re, grC E k so gw, prC E pa q F, sbO E y v ml n, baC E v cp t, moC E mb z g gs ar]) (cb := [moC E mb z g gs ar]) hx hb hml hown hts hK hZ hA (c_X6_beatsUntilChorus l E _ mb z g gs ar B hI) l_L_212 rfl ⟨⟨rfl, rfl⟩, Nat.le_of_ble_eq_true rfl, Nat.le_of_ble_eq_true rfl⟩ 10 rfl [12] rfl (by decide) rfl hP hD hS hl.1 rfl (Nat.le_of_ble_eq_true rfl) dL_law_1334 ⟨by show (cells + 1) + 0 ≤ 603072; omega, by show (slots + 6) + 0 ≤ 7174250; omega⟩) hA hP hD hS (isC := [12]) rfl [0, 1, 2, 3, 4, 5, 6, 7, 8, 9, 10, 11] [0, 1, 2, 3, 4, 5, 6, 7, 8, 9, 10, 11, 12] (br := [loC E ol lo9, dbC E od dO, coC E x a a2 a3 b d k pa y w, stC E a g, stC E a2 g2, stC E a3 g3, hhC E b hs hg nx ct, diC E d co re, grC E k so gw, prC E pa q F, sbO E y v ml n, baC E v cp t]) (bs2 := fun _ => [loC E ol lo9, dbC E od dO, coC E x a a2 a3 b d k pa y w, stC E a g, stC E a2 g2, stC E a3 g3, hhC E b hs hg nx ct, diC E d co re, grC E k so gw, prC E pa q F, sbO E y v ml n, baC E v cp t, moC E mb (upn z 0 (if fsC g < 60 then 0 else 1)) g gs ar]) rfl (by decide) (fun _ => rfl) (by decide) (fun r u6 H locs hw6 hP hD hS => ?_)
    have hw6 : r = nI (if fsC g < 60 then fsC g + 1 else 0) := hw6
    subst hw6
    refine tp_i (show nI (if fsC g < 60 then fsC g + 1 else 0) = nI (fsC g + 1) from congrArg nI (if_pos hcnd)) ?_
    refine lv_istore (lv' := [(7, .int (nI (fsC g + 1))), (6, .int (nI 0)), (0, .ref sb), (1, .ref (x 0)), (2, .ref (mb 0)), (3, .ref ol), (4, .ref od), (5, .int (nI i))]) hx hb dL_law_1337 hl (by decide) rfl (fun ls hl => ?_)
    refine lv_aload_n hx hb dL_law_1339 rfl (lv_at hl 4 rfl) ?_
    refine run_i (S := Unit) (run_V (As := []) (rest := []) (bs := [loC E ol lo9, dbC E od dO, coC E x a a2 a3 b d k pa y w, stC E a g, stC E a2 g2, stC E a3 g3, hhC E b hs hg nx ct, diC E d co re, grC E k so gw, prC E pa q F, sbO E y v ml n, baC E v cp t, moC E mb (upn z 0 (if fsC g < 60 then 0 else 1)) g gs ar]) (cb := [moC E mb (upn z 0 (if fsC g < 60 then 0 else 1)) g gs ar]) hx hb hml hown hts hK hZ hA (c_X6_thrown l E _ mb (upn z 0 (if fsC g < 60 then 0 else 1)) g gs ar) l_L_152 rfl ⟨⟨rfl, rfl⟩, Nat.le_of_ble_eq_true rfl, Nat.le_of_ble_eq_true rfl⟩ 10 rfl [12] rfl (by decide) rfl hP hD hS hl.1 rfl (Nat.le_of_ble_eq_true rfl) dL_law_1340 ⟨by show ((cells + 1) + 0) + 0 ≤ 603072; omega, by show ((slots + 6) + 0) + 0 ≤ 7174250; omega⟩) hA hP hD hS (isC := [12]) rfl [0, 1, 2, 3, 4, 5, 6, 7, 8, 9, 10, 11] [0, 1, 2, 3, 4, 5, 6, 7, 8, 9, 10, 11, 12] (br := [loC E ol lo9, dbC E od dO, coC E x a a2 a3 b d k pa y w, stC E a g, stC E a2 g2, stC E a3 g3, hhC E b hs hg nx ct, diC E d co re, grC E k so gw, prC E pa q F, sbO E y v ml n, baC E v cp t]) (bs2 := fun _ => [loC E ol lo9, dbC E od dO, coC E x a a2 a3 b d k pa y w, stC E a g, stC E a2 g2, stC E a3 g3, hhC E b hs hg nx ct, diC E d co re, grC E k so gw, prC E pa q F, sbO E y v ml n, baC E v cp t, moC E mb (upn z 0 (if fsC g < 60 then 0 else 1)) g gs ar]) rfl (by decide) (fun _ => rfl) (by decide) (fun r u6 H locs hw6 hP hD hS => ?_)
    have hw6 : r = nI ((upn z 0 (if fsC g < 60 then 0 else 1)) 0) := hw6
    subst hw6
    refine lv_iload hx hb dL_law_1343 (lv_at hl 1 rfl) ?_
    refine lv_icmp_eq (tgt := 1350) hx hb dL_law_1345 (by decide) (fun _ => ?_) (fun hc => absurd (show nI ((upn z 0 (if fsC g < 60 then 0 else 1)) 0) = nI 0 from congrArg nI (upn_s.trans (if_pos hcnd))) hc)
    refine lv_iload hx hb dL_law_1350 (lv_at hl 1 rfl) ?_
    refine nv_if_ne (X := ((0 : Nat) : Int)) hx hb (nI_toInt (by omega)) (tgt := 1367) dL_law_1352 (by decide) (fun c_1 => ?_) (fun c_1 => ?_)
    · exact absurd c_1 (by omega)
    · skip
      refine lv_aload_n hx hb dL_law_1355 rfl (lv_at hl 5 rfl) ?_
      refine lv_iconst (v := nI 0) hx hb dL_law_1356 (by decide) ?_
      refine va_lald hx hb hK hP 0 4 rfl rfl (vp_in_nI (show 0 < 1 by decide) (by decide)) dL_law_1357 ?_
      rw [show lo9 (nI 0).toNatClampNeg = (nI (fsC g + 1)).toInt64 from by rw [nI_clamp (show 0 < 2 ^ 31 by decide)]; exact hlo]
      refine lv_iload hx hb dL_law_1358 (lv_at hl 0 rfl) ?_
      refine lv_i2l hx hb dL_law_1360 rfl ?_
      refine W.lcmp hx hb dL_law_1361 ?_
      refine tp_i (show lg_cmp ((nI (fsC g + 1)).toInt64) ((nI (fsC g + 1)).toInt64) = nI 0 from lg_eq _) ?_
      refine nv_if_eq (X := ((0 : Nat) : Int)) hx hb (nI_toInt (by omega)) (tgt := 1367) dL_law_1362 (by decide) (fun c_2 => ?_) (fun c_2 => ?_)
      · skip
        refine lv_goto (tgt := 2541) hx hb dL_law_1367 (by decide) ?_
        exact W_widen (by omega) (by omega) (kk w g g2 g3 hg nx ct co re so gw q F v ml n cp t (upn z 0 (if fsC g < 60 then 0 else 1)) gs ar lo9 dO _ _ _ (rel_q hR hB4) hP hD hS (lv_sub hl [2, 3, 4, 5, 6, 7] rfl))
      · exact absurd c_2 (by omega)
  · skip
    have hw : r = nI 1 ∧ ¬ fsC g < 60 := hw
    have hP : va_P E.1 vwCl ([loC E ol lo, dbC E od dO, coC E x a a2 a3 b d k pa y w, stC E a g, stC E a2 g2, stC E a3 g3, hhC E b hs hg nx ct, diC E d co re, grC E k so gw, prC E pa q F, sbO E y v ml n, baC E v cp t, moC E mb z g gs ar] : List va_W).flatten H := hP
    have hD : va_D A ([loC E ol lo, dbC E od dO, coC E x a a2 a3 b d k pa y w, stC E a g, stC E a2 g2, stC E a3 g3, hhC E b hs hg nx ct, diC E d co re, grC E k so gw, prC E pa q F, sbO E y v ml n, baC E v cp t, moC E mb z g gs ar] : List va_W).flatten := hD
    obtain ⟨rfl, hq⟩ := hw
    refine lv_istore (lv' := [(6, .int (nI 1)), (0, .ref sb), (1, .ref (x 0)), (2, .ref (mb 0)), (3, .ref ol), (4, .ref od), (5, .int (nI i))]) hx hb dL_law_1331 hl (by decide) rfl (fun ls hl => ?_)
    refine lv_aload_n hx hb dL_law_1333 rfl (lv_at hl 3 rfl) ?_
    refine run_i (S := Unit) (run_V (As := []) (rest := []) (bs := [loC E ol lo, dbC E od dO, coC E x a a2 a3 b d k pa y w, stC E a g, stC E a2 g2, stC E a3 g3, hhC E b hs hg nx ct, diC E d co re, grC E k so gw, prC E pa q F, sbO E y v ml n, baC E v cp t, moC E mb z g gs ar]) (cb := [moC E mb z g gs ar]) hx hb hml hown hts hK hZ hA (c_X6_beatsUntilChorus l E _ mb z g gs ar B hI) l_L_212 rfl ⟨⟨rfl, rfl⟩, Nat.le_of_ble_eq_true rfl, Nat.le_of_ble_eq_true rfl⟩ 10 rfl [12] rfl (by decide) rfl hP hD hS hl.1 rfl (Nat.le_of_ble_eq_true rfl) dL_law_1334 ⟨by show (cells + 1) + 0 ≤ 603072; omega, by show (slots + 6) + 0 ≤ 7174250; omega⟩) hA hP hD hS (isC := [12]) rfl [0, 1, 2, 3, 4, 5, 6, 7, 8, 9, 10, 11] [0, 1, 2, 3, 4, 5, 6, 7, 8, 9, 10, 11, 12] (br := [loC E ol lo, dbC E od dO, coC E x a a2 a3 b d k pa y w, stC E a g, stC E a2 g2, stC E a3 g3, hhC E b hs hg nx ct, diC E d co re, grC E k so gw, prC E pa q F, sbO E y v ml n, baC E v cp t]) (bs2 := fun _ => [loC E ol lo, dbC E od dO, coC E x a a2 a3 b d k pa y w, stC E a g, stC E a2 g2, stC E a3 g3, hhC E b hs hg nx ct, diC E d co re, grC E k so gw, prC E pa q F, sbO E y v ml n, baC E v cp t, moC E mb (upn z 0 (if fsC g < 60 then 0 else 1)) g gs ar]) rfl (by decide) (fun _ => rfl) (by decide) (fun r u6 H locs hw6 hP hD hS => ?_)
    have hw6 : r = nI (if fsC g < 60 then fsC g + 1 else 0) := hw6
    subst hw6
    refine lv_istore (lv' := [(7, .int (nI (if fsC g < 60 then fsC g + 1 else 0))), (6, .int (nI 1)), (0, .ref sb), (1, .ref (x 0)), (2, .ref (mb 0)), (3, .ref ol), (4, .ref od), (5, .int (nI i))]) hx hb dL_law_1337 hl (by decide) rfl (fun ls hl => ?_)
    refine lv_aload_n hx hb dL_law_1339 rfl (lv_at hl 4 rfl) ?_
    refine run_i (S := Unit) (run_V (As := []) (rest := []) (bs := [loC E ol lo, dbC E od dO, coC E x a a2 a3 b d k pa y w, stC E a g, stC E a2 g2, stC E a3 g3, hhC E b hs hg nx ct, diC E d co re, grC E k so gw, prC E pa q F, sbO E y v ml n, baC E v cp t, moC E mb (upn z 0 (if fsC g < 60 then 0 else 1)) g gs ar]) (cb := [moC E mb (upn z 0 (if fsC g < 60 then 0 else 1)) g gs ar]) hx hb hml hown hts hK hZ hA (c_X6_thrown l E _ mb (upn z 0 (if fsC g < 60 then 0 else 1)) g gs ar) l_L_152 rfl ⟨⟨rfl, rfl⟩, Nat.le_of_ble_eq_true rfl, Nat.le_of_ble_eq_true rfl⟩ 10 rfl [12] rfl (by decide) rfl hP hD hS hl.1 rfl (Nat.le_of_ble_eq_true rfl) dL_law_1340 ⟨by show ((cells + 1) + 0) + 0 ≤ 603072; omega, by show ((slots + 6) + 0) + 0 ≤ 7174250; omega⟩) hA hP hD hS (isC := [12]) rfl [0, 1, 2, 3, 4, 5, 6, 7, 8, 9, 10, 11] [0, 1, 2, 3, 4, 5, 6, 7, 8, 9, 10, 11, 12] (br := [loC E ol lo, dbC E od dO, coC E x a a2 a3 b d k pa y w, stC E a g, stC E a2 g2, stC E a3 g3, hhC E b hs hg nx ct, diC E d co re, grC E k so gw, prC E pa q F, sbO E y v ml n, baC E v cp t]) (bs2 := fun _ => [loC E ol lo, dbC E od dO, coC E x a a2 a3 b d k pa y w, stC E a g, stC E a2 g2, stC E a3 g3, hhC E b hs hg nx ct, diC E d co re, grC E k so gw, prC E pa q F, sbO E y v ml n, baC E v cp t, moC E mb (upn z 0 (if fsC g < 60 then 0 else 1)) g gs ar]) rfl (by decide) (fun _ => rfl) (by decide) (fun r u6 H locs hw6 hP hD hS => ?_)
    have hw6 : r = nI ((upn z 0 (if fsC g < 60 then 0 else 1)) 0) := hw6
    subst hw6
    refine lv_iload hx hb dL_law_1343 (lv_at hl 1 rfl) ?_
    refine lv_icmp_eq (tgt := 1350) hx hb dL_law_1345 (by decide) (fun _ => ?_) (fun hc => absurd (show nI ((upn z 0 (if fsC g < 60 then 0 else 1)) 0) = nI 1 from congrArg nI (upn_s.trans (if_neg hq))) hc)
    refine lv_iload hx hb dL_law_1350 (lv_at hl 1 rfl) ?_
    refine nv_if_ne (X := ((1 : Nat) : Int)) hx hb (nI_toInt (by omega)) (tgt := 1367) dL_law_1352 (by decide) (fun c_3 => ?_) (fun c_3 => ?_)
    · skip
      refine lv_goto (tgt := 2541) hx hb dL_law_1367 (by decide) ?_
      exact W_widen (by omega) (by omega) (kk w g g2 g3 hg nx ct co re so gw q F v ml n cp t (upn z 0 (if fsC g < 60 then 0 else 1)) gs ar lo dO _ _ _ (rel_q hR hB4) hP hD hS (lv_sub hl [2, 3, 4, 5, 6, 7] rfl))
    · exact absurd c_3 (by omega)
set_option maxHeartbeats 4000000 in
set_option maxRecDepth 100000 in
theorem st_earningsIn {p : Program} {l : Launch} {e : Env} {s : State} {m : MethodId} {args : Array Value} {below : List Frame} {meth : Method} {c : Code} {E : EE} {A : Nat → Prop} {Q : State → Prop} {x a a2 a3 b d k pa y : Nat → Nat} {hs : Nat → Nat → Nat} {mb : Nat → Nat} {ol od sb : Nat} {i B cells slots L : Nat} {xs : Nat → Int32} (C : LCx p l s m args c E A sb L xs) (hL : L ≤ 2560) (hi : i + 5 ≤ L) (hB4 : B + 420 ≤ 300000) (hrc : cells + 13 ≤ 603072 ∧ slots + 414 ≤ 7174250) (kk : LGo p l e s m args below meth c E A Q x a a2 a3 b d k pa y hs mb ol od sb i (B + 420) (cells + 13) (slots + 414) 2541) : LGo p l e s m args below meth c E A Q x a a2 a3 b d k pa y hs mb ol od sb i B cells slots 1370 := by
  obtain ⟨hx, hb, hml, hown, hts, hK, hZ, hDD, hA, hX, hbl, hbA, hst⟩ := C
  intro w g g2 g3 hg nx ct co re so gw q F v ml n cp t z gs ar lo dO H locs ls hR hP hD hS hl
  obtain ⟨hI, ⟨hs1, hs2, hs3⟩, ⟨hnx, hct, hz1, hh9⟩, ⟨hw1, hw2, hz5, hz6⟩, ⟨hq1, hq2, hF0, hF9⟩, ⟨hn1, hn2, hcp, ht9, htx, ho2⟩⟩ := id hR
  have hmc := hI.mc
  obtain ⟨p0, hp0⟩ : ∃ y9, y9 = xs (i + 1) := ⟨_, rfl⟩
  refine lv_aload_n hx hb dL_law_1370 rfl (lv_at hl 1 rfl) ?_
  refine lv_aload_n hx hb dL_law_1371 rfl (lv_at hl 0 rfl) ?_
  refine lv_iload hx hb dL_law_1372 (lv_at hl 5 rfl) ?_
  refine lv_iconst (v := nI 1) hx hb dL_law_1374 (by decide) ?_
  refine nv_iadd hx hb dL_law_1375 ?_
  refine va_sld hx hb hX hbl hbA hS (vp_in_nI (show i + 1 < L by omega) (by omega)) dL_law_1376 ?_
  refine tp_i (show xs (nI (i + 1)).toNatClampNeg = p0 from by rw [nI_clamp (by omega), hp0]) ?_
  refine lv_aload_n hx hb dL_law_1377 rfl (lv_at hl 3 rfl) ?_
  refine run_i (S := (GG × Int32 × (Nat → Int64)) ⊕ Unit) (run_SW (As := [.ref (x 0), .int p0, .ref ol]) (rest := []) (bs := [loC E ol lo, dbC E od dO, coC E x a a2 a3 b d k pa y w, stC E a g, stC E a2 g2, stC E a3 g3, hhC E b hs hg nx ct, diC E d co re, grC E k so gw, prC E pa q F, sbO E y v ml n, baC E v cp t, moC E mb z g gs ar]) (cb := [loC E ol lo, coC E x a a2 a3 b d k pa y w, stC E a g, stC E a3 g3]) hx hb hml hown hts hK hZ hDD hA (c_L_earningsIn l hst E _ x a a2 a3 b d k pa y w g B hI g3 (by omega) p0 ol lo) l_L_213 rfl ⟨⟨rfl, rfl⟩, Nat.le_of_ble_eq_true rfl, Nat.le_of_ble_eq_true rfl⟩ [0, 2, 3, 5] rfl (by decide) hP hD hS hl.1 rfl (Nat.le_of_ble_eq_true rfl) dL_law_1378 ⟨by show cells + 1 ≤ 603072; omega, by show slots + 6 ≤ 7174250; omega⟩) hA hP hD hS (isC := [0, 2, 3, 5]) rfl [1, 4, 6, 7, 8, 9, 10, 11, 12] [9, 0, 10, 11, 1, 12, 2, 3, 4, 5, 6, 7, 8] (br := [dbC E od dO, stC E a2 g2, hhC E b hs hg nx ct, diC E d co re, grC E k so gw, prC E pa q F, sbO E y v ml n, baC E v cp t, moC E mb z g gs ar]) (bs2 := fun u => Sum.elim (fun (vq : GG × Int32 × (Nat → Int64)) => [loC E ol vq.2.2, dbC E od dO, coC E x a a2 a3 b d k pa y w, stC E a g, stC E a2 g2, stC E a3 vq.1, hhC E b hs hg nx ct, diC E d co re, grC E k so gw, prC E pa q F, sbO E y v ml n, baC E v cp t, moC E mb z g gs ar]) (fun (vq : Unit) => [loC E ol lo, dbC E od dO, coC E x a a2 a3 b d k pa y w, stC E a g, stC E a2 g2, stC E a3 g3, hhC E b hs hg nx ct, diC E d co re, grC E k so gw, prC E pa q F, sbO E y v ml n, baC E v cp t, moC E mb z g gs ar]) u) rfl (by decide) (fun u => by rcases u with u | u <;> rfl) (by decide) (fun r u H locs hw hP hD hS => ?_)
  rcases u with vq | vq
  · skip
    obtain ⟨u9, r9, lo9⟩ := vq
    have hw7 : r = nI 0 ∧ ((0 ≤ p0.toInt ∧ p0.toInt ≤ 60) ∧ r9 = nI (passN g (tn p0))) ∧ lo9 0 = r9.toInt64 := hw
    clear hw
    obtain ⟨rfl, hw⟩ := hw7
    have hP : va_P E.1 vwCl ([loC E ol lo9, dbC E od dO, coC E x a a2 a3 b d k pa y w, stC E a g, stC E a2 g2, stC E a3 u9, hhC E b hs hg nx ct, diC E d co re, grC E k so gw, prC E pa q F, sbO E y v ml n, baC E v cp t, moC E mb z g gs ar] : List va_W).flatten H := hP
    have hD : va_D A ([loC E ol lo9, dbC E od dO, coC E x a a2 a3 b d k pa y w, stC E a g, stC E a2 g2, stC E a3 u9, hhC E b hs hg nx ct, diC E d co re, grC E k so gw, prC E pa q F, sbO E y v ml n, baC E v cp t, moC E mb z g gs ar] : List va_W).flatten := hD
    obtain ⟨⟨hcnd, hr9⟩, hlo⟩ := hw
    subst hr9
    refine lv_istore (lv' := [(6, .int (nI 0)), (0, .ref sb), (1, .ref (x 0)), (2, .ref (mb 0)), (3, .ref ol), (4, .ref od), (5, .int (nI i))]) hx hb dL_law_1381 hl (by decide) rfl (fun ls hl => ?_)
    refine lv_aload_n hx hb dL_law_1383 rfl (lv_at hl 3 rfl) ?_
    refine lv_aload_n hx hb dL_law_1384 rfl (lv_at hl 1 rfl) ?_
    refine lv_iload hx hb dL_law_1385 (lv_at hl 6 rfl) ?_
    refine lv_iconst (v := nI 1) hx hb dL_law_1387 (by decide) ?_
    refine nv_iadd hx hb dL_law_1388 ?_
    refine va_sld hx hb hX hbl hbA hS (vp_in_nI (show i + 1 < L by omega) (by omega)) dL_law_1389 ?_
    refine tp_i (show xs (nI (i + 1)).toNatClampNeg = p0 from by rw [nI_clamp (by omega), hp0]) ?_
    refine run_i (S := Unit) (run_V (As := [.int p0]) (rest := []) (bs := [loC E ol lo9, dbC E od dO, coC E x a a2 a3 b d k pa y w, stC E a g, stC E a2 g2, stC E a3 u9, hhC E b hs hg nx ct, diC E d co re, grC E k so gw, prC E pa q F, sbO E y v ml n, baC E v cp t, moC E mb z g gs ar]) (cb := [moC E mb z g gs ar]) hx hb hml hown hts hK hZ hA (c_X6_earningsIn l E _ mb z g gs ar B hI (by omega) p0) l_L_215 rfl ⟨⟨rfl, rfl⟩, Nat.le_of_ble_eq_true rfl, Nat.le_of_ble_eq_true rfl⟩ 10 rfl [12] rfl (by decide) rfl hP hD hS hl.1 rfl (Nat.le_of_ble_eq_true rfl) dL_law_1390 ⟨by show (cells + 1) + 0 ≤ 603072; omega, by show (slots + 6) + 0 ≤ 7174250; omega⟩) hA hP hD hS (isC := [12]) rfl [0, 1, 2, 3, 4, 5, 6, 7, 8, 9, 10, 11] [0, 1, 2, 3, 4, 5, 6, 7, 8, 9, 10, 11, 12] (br := [loC E ol lo9, dbC E od dO, coC E x a a2 a3 b d k pa y w, stC E a g, stC E a2 g2, stC E a3 u9, hhC E b hs hg nx ct, diC E d co re, grC E k so gw, prC E pa q F, sbO E y v ml n, baC E v cp t]) (bs2 := fun _ => [loC E ol lo9, dbC E od dO, coC E x a a2 a3 b d k pa y w, stC E a g, stC E a2 g2, stC E a3 u9, hhC E b hs hg nx ct, diC E d co re, grC E k so gw, prC E pa q F, sbO E y v ml n, baC E v cp t, moC E mb (upn z 0 (if 0 ≤ p0.toInt ∧ p0.toInt ≤ 60 then 0 else 1)) g (if 0 ≤ p0.toInt ∧ p0.toInt ≤ 60 then upa gs 2 g else gs) ar]) rfl (by decide) (fun _ => rfl) (by decide) (fun r u6 H locs hw6 hP hD hS => ?_)
    have hw6 : r = nI (if 0 ≤ p0.toInt ∧ p0.toInt ≤ 60 then passN g (tn p0) else 0) := hw6
    subst hw6
    refine tp_i (show nI (if 0 ≤ p0.toInt ∧ p0.toInt ≤ 60 then passN g (tn p0) else 0) = nI (passN g (tn p0)) from congrArg nI (if_pos hcnd)) ?_
    refine lv_istore (lv' := [(7, .int (nI (passN g (tn p0)))), (6, .int (nI 0)), (0, .ref sb), (1, .ref (x 0)), (2, .ref (mb 0)), (3, .ref ol), (4, .ref od), (5, .int (nI i))]) hx hb dL_law_1393 hl (by decide) rfl (fun ls hl => ?_)
    refine lv_aload_n hx hb dL_law_1395 rfl (lv_at hl 4 rfl) ?_
    refine run_i (S := Unit) (run_V (As := []) (rest := []) (bs := [loC E ol lo9, dbC E od dO, coC E x a a2 a3 b d k pa y w, stC E a g, stC E a2 g2, stC E a3 u9, hhC E b hs hg nx ct, diC E d co re, grC E k so gw, prC E pa q F, sbO E y v ml n, baC E v cp t, moC E mb (upn z 0 (if 0 ≤ p0.toInt ∧ p0.toInt ≤ 60 then 0 else 1)) g (if 0 ≤ p0.toInt ∧ p0.toInt ≤ 60 then upa gs 2 g else gs) ar]) (cb := [moC E mb (upn z 0 (if 0 ≤ p0.toInt ∧ p0.toInt ≤ 60 then 0 else 1)) g (if 0 ≤ p0.toInt ∧ p0.toInt ≤ 60 then upa gs 2 g else gs) ar]) hx hb hml hown hts hK hZ hA (c_X6_thrown l E _ mb (upn z 0 (if 0 ≤ p0.toInt ∧ p0.toInt ≤ 60 then 0 else 1)) g (if 0 ≤ p0.toInt ∧ p0.toInt ≤ 60 then upa gs 2 g else gs) ar) l_L_152 rfl ⟨⟨rfl, rfl⟩, Nat.le_of_ble_eq_true rfl, Nat.le_of_ble_eq_true rfl⟩ 10 rfl [12] rfl (by decide) rfl hP hD hS hl.1 rfl (Nat.le_of_ble_eq_true rfl) dL_law_1396 ⟨by show ((cells + 1) + 0) + 0 ≤ 603072; omega, by show ((slots + 6) + 0) + 0 ≤ 7174250; omega⟩) hA hP hD hS (isC := [12]) rfl [0, 1, 2, 3, 4, 5, 6, 7, 8, 9, 10, 11] [0, 1, 2, 3, 4, 5, 6, 7, 8, 9, 10, 11, 12] (br := [loC E ol lo9, dbC E od dO, coC E x a a2 a3 b d k pa y w, stC E a g, stC E a2 g2, stC E a3 u9, hhC E b hs hg nx ct, diC E d co re, grC E k so gw, prC E pa q F, sbO E y v ml n, baC E v cp t]) (bs2 := fun _ => [loC E ol lo9, dbC E od dO, coC E x a a2 a3 b d k pa y w, stC E a g, stC E a2 g2, stC E a3 u9, hhC E b hs hg nx ct, diC E d co re, grC E k so gw, prC E pa q F, sbO E y v ml n, baC E v cp t, moC E mb (upn z 0 (if 0 ≤ p0.toInt ∧ p0.toInt ≤ 60 then 0 else 1)) g (if 0 ≤ p0.toInt ∧ p0.toInt ≤ 60 then upa gs 2 g else gs) ar]) rfl (by decide) (fun _ => rfl) (by decide) (fun r u6 H locs hw6 hP hD hS => ?_)
    have hw6 : r = nI ((upn z 0 (if 0 ≤ p0.toInt ∧ p0.toInt ≤ 60 then 0 else 1)) 0) := hw6
    subst hw6
    refine lv_iload hx hb dL_law_1399 (lv_at hl 1 rfl) ?_
    refine lv_icmp_eq (tgt := 1406) hx hb dL_law_1401 (by decide) (fun _ => ?_) (fun hc => absurd (show nI ((upn z 0 (if 0 ≤ p0.toInt ∧ p0.toInt ≤ 60 then 0 else 1)) 0) = nI 0 from congrArg nI (upn_s.trans (if_pos hcnd))) hc)
    refine lv_iload hx hb dL_law_1406 (lv_at hl 1 rfl) ?_
    refine nv_if_ne (X := ((0 : Nat) : Int)) hx hb (nI_toInt (by omega)) (tgt := 1423) dL_law_1408 (by decide) (fun c_1 => ?_) (fun c_1 => ?_)
    · exact absurd c_1 (by omega)
    · skip
      refine lv_aload_n hx hb dL_law_1411 rfl (lv_at hl 5 rfl) ?_
      refine lv_iconst (v := nI 0) hx hb dL_law_1412 (by decide) ?_
      refine va_lald hx hb hK hP 0 4 rfl rfl (vp_in_nI (show 0 < 1 by decide) (by decide)) dL_law_1413 ?_
      rw [show lo9 (nI 0).toNatClampNeg = (nI (passN g (tn p0))).toInt64 from by rw [nI_clamp (show 0 < 2 ^ 31 by decide)]; exact hlo]
      refine lv_iload hx hb dL_law_1414 (lv_at hl 0 rfl) ?_
      refine lv_i2l hx hb dL_law_1416 rfl ?_
      refine W.lcmp hx hb dL_law_1417 ?_
      refine tp_i (show lg_cmp ((nI (passN g (tn p0))).toInt64) ((nI (passN g (tn p0))).toInt64) = nI 0 from lg_eq _) ?_
      refine nv_if_eq (X := ((0 : Nat) : Int)) hx hb (nI_toInt (by omega)) (tgt := 1423) dL_law_1418 (by decide) (fun c_2 => ?_) (fun c_2 => ?_)
      · skip
        refine lv_goto (tgt := 2541) hx hb dL_law_1423 (by decide) ?_
        exact W_widen (by omega) (by omega) (kk w g g2 u9 hg nx ct co re so gw q F v ml n cp t (upn z 0 (if 0 ≤ p0.toInt ∧ p0.toInt ≤ 60 then 0 else 1)) (if 0 ≤ p0.toInt ∧ p0.toInt ≤ 60 then upa gs 2 g else gs) ar lo9 dO _ _ _ (rel_qg hR hB4) hP hD hS (lv_sub hl [2, 3, 4, 5, 6, 7] rfl))
      · exact absurd c_2 (by omega)
  · skip
    have hw : r = nI 1 ∧ ¬ (0 ≤ p0.toInt ∧ p0.toInt ≤ 60) := hw
    have hP : va_P E.1 vwCl ([loC E ol lo, dbC E od dO, coC E x a a2 a3 b d k pa y w, stC E a g, stC E a2 g2, stC E a3 g3, hhC E b hs hg nx ct, diC E d co re, grC E k so gw, prC E pa q F, sbO E y v ml n, baC E v cp t, moC E mb z g gs ar] : List va_W).flatten H := hP
    have hD : va_D A ([loC E ol lo, dbC E od dO, coC E x a a2 a3 b d k pa y w, stC E a g, stC E a2 g2, stC E a3 g3, hhC E b hs hg nx ct, diC E d co re, grC E k so gw, prC E pa q F, sbO E y v ml n, baC E v cp t, moC E mb z g gs ar] : List va_W).flatten := hD
    obtain ⟨rfl, hq⟩ := hw
    refine lv_istore (lv' := [(6, .int (nI 1)), (0, .ref sb), (1, .ref (x 0)), (2, .ref (mb 0)), (3, .ref ol), (4, .ref od), (5, .int (nI i))]) hx hb dL_law_1381 hl (by decide) rfl (fun ls hl => ?_)
    refine lv_aload_n hx hb dL_law_1383 rfl (lv_at hl 3 rfl) ?_
    refine lv_aload_n hx hb dL_law_1384 rfl (lv_at hl 1 rfl) ?_
    refine lv_iload hx hb dL_law_1385 (lv_at hl 6 rfl) ?_
    refine lv_iconst (v := nI 1) hx hb dL_law_1387 (by decide) ?_
    refine nv_iadd hx hb dL_law_1388 ?_
    refine va_sld hx hb hX hbl hbA hS (vp_in_nI (show i + 1 < L by omega) (by omega)) dL_law_1389 ?_
    refine tp_i (show xs (nI (i + 1)).toNatClampNeg = p0 from by rw [nI_clamp (by omega), hp0]) ?_
    refine run_i (S := Unit) (run_V (As := [.int p0]) (rest := []) (bs := [loC E ol lo, dbC E od dO, coC E x a a2 a3 b d k pa y w, stC E a g, stC E a2 g2, stC E a3 g3, hhC E b hs hg nx ct, diC E d co re, grC E k so gw, prC E pa q F, sbO E y v ml n, baC E v cp t, moC E mb z g gs ar]) (cb := [moC E mb z g gs ar]) hx hb hml hown hts hK hZ hA (c_X6_earningsIn l E _ mb z g gs ar B hI (by omega) p0) l_L_215 rfl ⟨⟨rfl, rfl⟩, Nat.le_of_ble_eq_true rfl, Nat.le_of_ble_eq_true rfl⟩ 10 rfl [12] rfl (by decide) rfl hP hD hS hl.1 rfl (Nat.le_of_ble_eq_true rfl) dL_law_1390 ⟨by show (cells + 1) + 0 ≤ 603072; omega, by show (slots + 6) + 0 ≤ 7174250; omega⟩) hA hP hD hS (isC := [12]) rfl [0, 1, 2, 3, 4, 5, 6, 7, 8, 9, 10, 11] [0, 1, 2, 3, 4, 5, 6, 7, 8, 9, 10, 11, 12] (br := [loC E ol lo, dbC E od dO, coC E x a a2 a3 b d k pa y w, stC E a g, stC E a2 g2, stC E a3 g3, hhC E b hs hg nx ct, diC E d co re, grC E k so gw, prC E pa q F, sbO E y v ml n, baC E v cp t]) (bs2 := fun _ => [loC E ol lo, dbC E od dO, coC E x a a2 a3 b d k pa y w, stC E a g, stC E a2 g2, stC E a3 g3, hhC E b hs hg nx ct, diC E d co re, grC E k so gw, prC E pa q F, sbO E y v ml n, baC E v cp t, moC E mb (upn z 0 (if 0 ≤ p0.toInt ∧ p0.toInt ≤ 60 then 0 else 1)) g (if 0 ≤ p0.toInt ∧ p0.toInt ≤ 60 then upa gs 2 g else gs) ar]) rfl (by decide) (fun _ => rfl) (by decide) (fun r u6 H locs hw6 hP hD hS => ?_)
    have hw6 : r = nI (if 0 ≤ p0.toInt ∧ p0.toInt ≤ 60 then passN g (tn p0) else 0) := hw6
    subst hw6
    refine lv_istore (lv' := [(7, .int (nI (if 0 ≤ p0.toInt ∧ p0.toInt ≤ 60 then passN g (tn p0) else 0))), (6, .int (nI 1)), (0, .ref sb), (1, .ref (x 0)), (2, .ref (mb 0)), (3, .ref ol), (4, .ref od), (5, .int (nI i))]) hx hb dL_law_1393 hl (by decide) rfl (fun ls hl => ?_)
    refine lv_aload_n hx hb dL_law_1395 rfl (lv_at hl 4 rfl) ?_
    refine run_i (S := Unit) (run_V (As := []) (rest := []) (bs := [loC E ol lo, dbC E od dO, coC E x a a2 a3 b d k pa y w, stC E a g, stC E a2 g2, stC E a3 g3, hhC E b hs hg nx ct, diC E d co re, grC E k so gw, prC E pa q F, sbO E y v ml n, baC E v cp t, moC E mb (upn z 0 (if 0 ≤ p0.toInt ∧ p0.toInt ≤ 60 then 0 else 1)) g (if 0 ≤ p0.toInt ∧ p0.toInt ≤ 60 then upa gs 2 g else gs) ar]) (cb := [moC E mb (upn z 0 (if 0 ≤ p0.toInt ∧ p0.toInt ≤ 60 then 0 else 1)) g (if 0 ≤ p0.toInt ∧ p0.toInt ≤ 60 then upa gs 2 g else gs) ar]) hx hb hml hown hts hK hZ hA (c_X6_thrown l E _ mb (upn z 0 (if 0 ≤ p0.toInt ∧ p0.toInt ≤ 60 then 0 else 1)) g (if 0 ≤ p0.toInt ∧ p0.toInt ≤ 60 then upa gs 2 g else gs) ar) l_L_152 rfl ⟨⟨rfl, rfl⟩, Nat.le_of_ble_eq_true rfl, Nat.le_of_ble_eq_true rfl⟩ 10 rfl [12] rfl (by decide) rfl hP hD hS hl.1 rfl (Nat.le_of_ble_eq_true rfl) dL_law_1396 ⟨by show ((cells + 1) + 0) + 0 ≤ 603072; omega, by show ((slots + 6) + 0) + 0 ≤ 7174250; omega⟩) hA hP hD hS (isC := [12]) rfl [0, 1, 2, 3, 4, 5, 6, 7, 8, 9, 10, 11] [0, 1, 2, 3, 4, 5, 6, 7, 8, 9, 10, 11, 12] (br := [loC E ol lo, dbC E od dO, coC E x a a2 a3 b d k pa y w, stC E a g, stC E a2 g2, stC E a3 g3, hhC E b hs hg nx ct, diC E d co re, grC E k so gw, prC E pa q F, sbO E y v ml n, baC E v cp t]) (bs2 := fun _ => [loC E ol lo, dbC E od dO, coC E x a a2 a3 b d k pa y w, stC E a g, stC E a2 g2, stC E a3 g3, hhC E b hs hg nx ct, diC E d co re, grC E k so gw, prC E pa q F, sbO E y v ml n, baC E v cp t, moC E mb (upn z 0 (if 0 ≤ p0.toInt ∧ p0.toInt ≤ 60 then 0 else 1)) g (if 0 ≤ p0.toInt ∧ p0.toInt ≤ 60 then upa gs 2 g else gs) ar]) rfl (by decide) (fun _ => rfl) (by decide) (fun r u6 H locs hw6 hP hD hS => ?_)
    have hw6 : r = nI ((upn z 0 (if 0 ≤ p0.toInt ∧ p0.toInt ≤ 60 then 0 else 1)) 0) := hw6
    subst hw6
    refine lv_iload hx hb dL_law_1399 (lv_at hl 1 rfl) ?_
    refine lv_icmp_eq (tgt := 1406) hx hb dL_law_1401 (by decide) (fun _ => ?_) (fun hc => absurd (show nI ((upn z 0 (if 0 ≤ p0.toInt ∧ p0.toInt ≤ 60 then 0 else 1)) 0) = nI 1 from congrArg nI (upn_s.trans (if_neg hq))) hc)
    refine lv_iload hx hb dL_law_1406 (lv_at hl 1 rfl) ?_
    refine nv_if_ne (X := ((1 : Nat) : Int)) hx hb (nI_toInt (by omega)) (tgt := 1423) dL_law_1408 (by decide) (fun c_3 => ?_) (fun c_3 => ?_)
    · skip
      refine lv_goto (tgt := 2541) hx hb dL_law_1423 (by decide) ?_
      exact W_widen (by omega) (by omega) (kk w g g2 g3 hg nx ct co re so gw q F v ml n cp t (upn z 0 (if 0 ≤ p0.toInt ∧ p0.toInt ≤ 60 then 0 else 1)) (if 0 ≤ p0.toInt ∧ p0.toInt ≤ 60 then upa gs 2 g else gs) ar lo dO _ _ _ (rel_qg hR hB4) hP hD hS (lv_sub hl [2, 3, 4, 5, 6, 7] rfl))
    · exact absurd c_3 (by omega)
