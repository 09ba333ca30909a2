/-! THE CLAIM OUT OF ONE WALK OF THE LAW'S BODY. Your part is whole_start (and what it stands on); all else here is the same for every law, but numbers. -/
def R_law : String := "CricketCooperativeLaw"
def lw_P (b : Addr) (xs : List Int32) (args : Array Value) (s : State) : Prop := args = #[.ref b] ∧ s.IntsAt b xs ∧ xs.length ≤ 260 ∧ (Jvm.Cond.and given_1 narrow_1).before args s = true
/-- what a walk over the start with the record d0 says of its end, said of the start itself -/
theorem lw_closed {s t : State} {o : Outcome} {d0 : Drawn} {L : List Loc} {k n : Nat} (hd0 : s.drawn.sameBut d0 lw_cs) (hv : ∃ v, o = .returned v) (hW : (s.setDrawn d0).WarmedH t.vm) (hs : (s.setDrawn d0).sameButNew ({ t with vm := s.vm } : State) L k n) : State.butDraws s t lw_cs (fun t1 => Framed s o t1 L k n) := by
  have h2 : t.drawn = d0 := congrArg State.drawn hs.1
  refine ⟨⟨hv, hW, State.sameButNew.setDrawn hs s.drawn⟩, ?_, by decide⟩
  rw [h2]
  exact hd0
def lw_Q (_ : Array Value) (s : State) (o : Outcome) (t : State) : Prop := o = .returned (some (.int 1)) ∧ State.butDraws s t lw_cs (fun t1 => Framed s o t1 [] 800891 6687511)
def lw_Z (below : List Frame) (a : Array Value) (s : State) : State → Prop := fun t => ∃ o, t.status = .running ∧ Ended t below o ∧ lw_Q a s o t
/-- the law's own end, with 1 on the stack, nothing written that was there before, its room as the claim has it; d0: the record of draws at this point (at the entry s.drawn: begin with 'refine W.base ?_' and 'have hd0 := Drawn.sameBut.refl s.drawn lw_cs') -/
theorem lw_ret {p : Program} {l : Launch} {e : Env} {s : State} {m : MethodId} {below : List Frame} {meth : Method} {c : Code} {b : Nat} {d0 : Drawn} (hd0 : s.drawn.sameBut d0 lw_cs) (hx : p.tables.exec = Jvm.exec) (hb : c.code = code) (hr : meth.sig.returnType = ret) (hlocks : meth.locks = false) {pc : Nat} {H : Heap} {ls : Array Slot} (hdg : decode code pc = .ok (.ireturn, 1)) : W p l e room_1 (s.setDrawn d0) m #[Value.ref b] below meth c H [] 800891 6687511 (lw_Z below #[Value.ref b] s) (F0 m pc ls [.int 1]) := by
  intro T hT X
  obtain ⟨fs, hret, hrun, hended, hW, hframe⟩ := X.leave (v := some (.int 1)) (hlocks := hlocks) (fun h => by rw [hr] at h; cases h)
  have hmeth' : T.vm.method? m = some meth := X.method'
  refine ⟨T.setFrames fs, ?_, .returned (some (.int 1)), hrun, hended, rfl, lw_closed hd0 ⟨_, rfl⟩ hW hframe⟩
  jvm_step X.here [X.here.top, hx, hb, hdg, hmeth', hr, ret, narrow_b1]
  (try refine ⟨rfl, ?_⟩); (try refine ⟨rfl, ?_⟩)
  first | (intro acts; rw [hret _ acts rfl rfl rfl]) | rw [hret _ _ rfl rfl rfl]
  exact Steps.refl _
/-- what holds at the law's entry: the machine, the code, the tables' words (any of lw_tbl by 'hts w (by decide +kernel)'), the script of L ints xs at the cell b, what the Statement gives of the start (any of its parts by flat_of_before) -/
def lw_At (p : Program) (s : State) (m : MethodId) (meth : Method) (c : Code) (b L : Nat) (xs : Nat → Int32) : Prop :=
  p.tables.exec = Jvm.exec ∧ c.code = code ∧ meth.sig.returnType = ret ∧ c.maxLocals = 32 ∧ s.vm.findClass R_law = some m.cls ∧ (∀ w ∈ lw_tbl, w.before #[Value.ref b] s = true) ∧ va_X b L xs s s.heap ∧ b < s.heap.size ∧ meth.locks = false ∧ (Jvm.Cond.and given_1 narrow_1).before #[Value.ref b] s = true
theorem l_L_171 : (Cond.methodLink RL 171 yX5_init ∈ TG ∧ Cond.instanceMethod yX5_init ∈ TG ∧ Cond.initialized yX5_init.cls ∈ TG ∧ Cond.code yX5_init cX5_init 1 none ∈ TG) ∧ yX5_init.name = "<init>" ∧ (yX5_init.cls ≠ "java/lang/invoke/MethodHandle" ∧ yX5_init.cls ≠ "java/lang/invoke/VarHandle" ∧ (parseMethodDescriptor yX5_init.desc).map (fun d => d.parameters.length) = some 0) := ⟨⟨q54, q55, q22, q56⟩, by decide +kernel⟩
set_option maxHeartbeats 4000000 in
set_option maxRecDepth 100000 in
theorem whole_start {p : Program} {e : Env} {s : State} {m : MethodId} {below : List Frame} {meth : Method} {c : Code} (l : Launch) (hflags : l.flags = flags0) {b L : Nat} {xs : Nat → Int32} (hL : L ≤ 260) (C0 : lw_At p s m meth c b L xs) : W p l e room_1 s m #[Value.ref b] below meth c s.heap [] 0 0 (lw_Z below #[Value.ref b] s) (entryFrame m ([Value.ref b] : List Value).toArray 32) := by
  obtain ⟨hx, hb, hr, hml, hown, hts0, hX9, hbl, hlocks, hgv⟩ := id C0
  have hst : l.stackTraces = false := by unfold Launch.stackTraces; rw [hflags]; decide +kernel
  obtain ⟨E, hK, hZ, hDD, hE2, hE3⟩ := st_env hX9 hbl hts0 hgv
  have hts := tg_lw hts0
  obtain ⟨A, hAd⟩ : ∃ A : Nat → Prop, A = fun q => s.heap.size ≤ q := ⟨_, rfl⟩
  rw [← hAd] at hZ
  have hA : ∀ q : Nat, s.heap.size ≤ q → A q := fun _ h => by rw [hAd]; exact h
  have hS : va_S A s.heap s.heap [] := va_S.rf
  have hP : va_P E.1 vwCl ([] : List va_W).flatten s.heap := fun k q h => by simp at h
  have hD : va_D A ([] : List va_W).flatten := ⟨fun i j p q h => by simp at h, fun k q h => by simp at h⟩
  have hl := lv_entry ([.ref b]) (n := 32) (Nat.le_of_ble_eq_true rfl)
  rw [lg_entry_eq]
  generalize (lg_sl ([.ref b]) ++ List.replicate (32 - (lg_sl ([.ref b])).length) Slot.unset).toArray = ls at hl ⊢
  have hl : lv_has ls 32 [(0, .ref b)] := hl
  have hl : lv_has ls 32 [(0, .ref (E.2.2 202))] := by rw [hE2]; exact hl
  have hown : s.vm.findClass RL = some m.cls := hown
  refine va_new (D := E.1) (ci := 9) (C := RX5) (T := TX5) (N := 11) hx hb hts inX5 tyX5 tyX5_ok hown (hts _ q52) (hts _ q53) (hts _ q22) hK hP hD hS hA rfl (fs := [.null, .null, .null, .null, .null, .null, .null, .null, .int (nI 0), .int (nI 0), .int (nI 0)]) dfX5 (Nat.le_of_ble_eq_true rfl) (Nat.le_of_ble_eq_true rfl) dL_law_0 (fun q_1 H hP hD hS => ?_)
  rw [flat_app] at hP hD
  have hP : va_P E.1 vwCl ([([(q_1, .inr (9, [.null, .null, .null, .null, .null, .null, .null, .null, .int (nI 0), .int (nI 0), .int (nI 0)]))] : va_W)] : List va_W).flatten H := hP
  have hD : va_D A ([([(q_1, .inr (9, [.null, .null, .null, .null, .null, .null, .null, .null, .int (nI 0), .int (nI 0), .int (nI 0)]))] : va_W)] : List va_W).flatten := hD
  refine lv_dup hx hb dL_law_3 rfl ?_
  refine run_v (S := (Nat → Nat → Nat) × (Nat → Nat → Nat) × Nat) (run_Ix (As := []) (rest := [.ref q_1]) (bs := [([(q_1, .inr (9, [.null, .null, .null, .null, .null, .null, .null, .null, .int (nI 0), .int (nI 0), .int (nI 0)]))] : va_W)]) (cb := [([(q_1, .inr (9, [.null, .null, .null, .null, .null, .null, .null, .null, .int (nI 0), .int (nI 0), .int (nI 0)]))] : va_W)]) hx hb hml hown hts hK hZ hDD hA (c_X5_init l E _ q_1) l_L_171 rfl ⟨⟨rfl, rfl⟩, Nat.le_of_ble_eq_true rfl, Nat.le_of_ble_eq_true rfl⟩ [0] rfl (by decide) hP hD hS hl.1 rfl (Nat.le_of_ble_eq_true rfl) dL_law_4 ⟨Nat.le_of_ble_eq_true rfl, Nat.le_of_ble_eq_true rfl⟩) hA hP hD hS (isC := [0]) rfl [] [0, 1, 2, 3, 4, 5, 6, 7, 8, 9] (br := []) (bs2 := fun u => [coC E (u.1 0) (u.1 1) (u.1 2) (u.1 3) (u.1 4) (u.1 5) (u.1 6) (u.1 7) (u.1 8) (fun _ => 0), stC E (u.1 1) (fun _ _ => 0), stC E (u.1 2) (fun _ _ => 0), stC E (u.1 3) (fun _ _ => 0), hhC E (u.1 4) u.2.1 (fun _ => (fun _ _ => 0)) 0 0, diC E (u.1 5) (fun _ => 0) (fun _ => 1), grC E (u.1 6) (fun _ => 0) (fun _ => 0), prC E (u.1 7) (fun _ => 0) (fun _ _ => 0), sbO E (u.1 8) u.2.2 0 0, baC E u.2.2 16 (fun _ => 0)]) rfl (by decide) (fun _ => rfl) (by decide) (fun u5 H locs hw hP9 hD9 hS => ?_)
  have hw : u5.1 0 0 = q_1 := hw
  subst hw
  have hP : va_P E.1 vwCl ([coC E (u5.1 0) (u5.1 1) (u5.1 2) (u5.1 3) (u5.1 4) (u5.1 5) (u5.1 6) (u5.1 7) (u5.1 8) (fun _ => 0), stC E (u5.1 1) (fun _ _ => 0), stC E (u5.1 2) (fun _ _ => 0), stC E (u5.1 3) (fun _ _ => 0), hhC E (u5.1 4) u5.2.1 (fun _ => (fun _ _ => 0)) 0 0, diC E (u5.1 5) (fun _ => 0) (fun _ => 1), grC E (u5.1 6) (fun _ => 0) (fun _ => 0), prC E (u5.1 7) (fun _ => 0) (fun _ _ => 0), sbO E (u5.1 8) u5.2.2 0 0, baC E u5.2.2 16 (fun _ => 0)] : List va_W).flatten H := hP9
  have hD : va_D A ([coC E (u5.1 0) (u5.1 1) (u5.1 2) (u5.1 3) (u5.1 4) (u5.1 5) (u5.1 6) (u5.1 7) (u5.1 8) (fun _ => 0), stC E (u5.1 1) (fun _ _ => 0), stC E (u5.1 2) (fun _ _ => 0), stC E (u5.1 3) (fun _ _ => 0), hhC E (u5.1 4) u5.2.1 (fun _ => (fun _ _ => 0)) 0 0, diC E (u5.1 5) (fun _ => 0) (fun _ => 1), grC E (u5.1 6) (fun _ => 0) (fun _ => 0), prC E (u5.1 7) (fun _ => 0) (fun _ _ => 0), sbO E (u5.1 8) u5.2.2 0 0, baC E u5.2.2 16 (fun _ => 0)] : List va_W).flatten := hD9
  refine lv_astore_n (lv' := [(1, .ref (u5.1 0 0)), (0, .ref (E.2.2 202))]) hx hb dL_law_7 rfl hl (by decide) rfl (fun ls hl => ?_)
  have hj0 : JV ((fun _ _ => 0), (fun _ => 0), (fun _ => 1), (fun _ => 0), (fun _ => 0), (fun _ => 0), (fun _ _ => 0), u5.2.2, 0, 0, 16, (fun _ => 0)) := ⟨⟨(by decide : (0 : Nat) ≤ 60), fun _ => (by decide : (0 : Nat) < 65536)⟩, (by decide : (0 : Nat) ≤ 16), Or.inl rfl, fun _ => (by decide : (0 : Nat) < 128)⟩
  have hP : va_P E.1 vwCl (OB E u5.1 u5.2.1 (fun _ => 0) (fun _ _ => 0) (fun _ _ => 0) (fun _ => (fun _ _ => 0)) 0 0 ((fun _ _ => 0), (fun _ => 0), (fun _ => 1), (fun _ => 0), (fun _ => 0), (fun _ => 0), (fun _ _ => 0), u5.2.2, 0, 0, 16, (fun _ => 0)) : List va_W).flatten H := hP
  have hD : va_D A (OB E u5.1 u5.2.1 (fun _ => 0) (fun _ _ => 0) (fun _ _ => 0) (fun _ => (fun _ _ => 0)) 0 0 ((fun _ _ => 0), (fun _ => 0), (fun _ => 1), (fun _ => 0), (fun _ => 0), (fun _ => 0), (fun _ _ => 0), u5.2.2, 0, 0, 16, (fun _ => 0)) : List va_W).flatten := hD
  generalize (((fun _ _ => 0), (fun _ => 0), (fun _ => 1), (fun _ => 0), (fun _ => 0), (fun _ => 0), (fun _ _ => 0), u5.2.2, 0, 0, 16, (fun _ => 0)) : JT) = j at hP hD hj0
  obtain ⟨X, hXe⟩ : ∃ z, z = u5.1 := ⟨_, rfl⟩
  obtain ⟨hs, hhe⟩ : ∃ z, z = u5.2.1 := ⟨_, rfl⟩
  rw [← hXe, ← hhe] at hP hD
  have hI0 : IB 0 (fun _ _ => 0) := (TRN_0 hj0 (f := fun _ => sumF (fun _ _ => 0)) rfl).1
  have hl : lv_has ls 32 [(1, .ref (X 0 0)), (0, .ref (E.2.2 202))] := by rw [hXe]; exact hl
  refine lv_bipush (v := nI 70) hx hb dL_law_8 (by decide) ?_
  refine va_newa (atype := .long) hx hb (hts _ q1411) rfl hK hP hD hS hA (a0 := (70, .inr (.inl (fun _ => 0)))) (fun _ => rfl) (nI_pos (by decide)) (nI_clamp (by decide)) (Nat.le_of_ble_eq_true rfl) (Nat.le_of_ble_eq_true rfl) (Nat.le_of_ble_eq_true rfl) dL_law_10 (fun os cA H hK1 hP hD hS => ?_)
  have hcA : cA = E.2.1 4 := Option.some.inj ((show s.vm.findClass ("[" ++ FieldType.toString .long) = some cA from (hK1.2 5 (cA, .long) rfl).2).symm.trans (show s.vm.findClass ("[" ++ FieldType.toString .long) = some (E.2.1 4) from (hK.2 4 _ rfl).2))
  subst hcA
  rw [flat_app] at hP hD
  have hP : va_P E.1 vwCl (OB E X hs (fun _ => 0) (fun _ _ => 0) (fun _ _ => 0) (fun _ => (fun _ _ => 0)) 0 0 j ++ [smC E os (fun _ => 0)] : List va_W).flatten H := hP
  have hD : va_D A (OB E X hs (fun _ => 0) (fun _ _ => 0) (fun _ _ => 0) (fun _ => (fun _ _ => 0)) 0 0 j ++ [smC E os (fun _ => 0)] : List va_W).flatten := hD
  refine lv_astore_n (lv' := [(2, .ref os), (1, .ref (X 0 0)), (0, .ref (E.2.2 202))]) hx hb dL_law_12 rfl hl (by decide) rfl (fun ls hl => ?_)
  refine lv_iconst (v := nI 0) hx hb dL_law_13 (by decide) ?_
  refine lv_istore_n (lv' := [(3, .int (nI 0)), (2, .ref os), (1, .ref (X 0 0)), (0, .ref (E.2.2 202))]) hx hb dL_law_14 rfl hl (by decide) rfl (fun ls hl => ?_)
  refine lv_aload_n hx hb dL_law_15 rfl (lv_at hl 1 rfl) ?_
  refine lv_iload_n hx hb dL_law_16 rfl (lv_at hl 0 rfl) ?_
  refine lv_aload_n hx hb dL_law_17 rfl (lv_at hl 2 rfl) ?_
  refine run_l (S := JT) (run_Sx (As := [.ref (X 0 0)]) (rest := [.int (nI 0), .ref os]) (bs := OB E X hs (fun _ => 0) (fun _ _ => 0) (fun _ _ => 0) (fun _ => (fun _ _ => 0)) 0 0 j ++ [smC E os (fun _ => 0)]) (cb := OB E X hs (fun _ => 0) (fun _ _ => 0) (fun _ _ => 0) (fun _ => (fun _ _ => 0)) 0 0 j) hx hb hml hown hts hK hZ hDD hA (c_L_sum l hst E _ X hs (fun _ => 0) (fun _ _ => 0) (fun _ _ => 0) 0 hI0 (fun _ => (fun _ _ => 0)) 0 0 (by decide) (by decide) j hj0) l_L_172 rfl ⟨⟨rfl, rfl⟩, Nat.le_of_ble_eq_true rfl, Nat.le_of_ble_eq_true rfl⟩ [0, 1, 2, 3, 4, 5, 6, 7, 8, 9] rfl (by decide) hP hD hS hl.1 rfl (Nat.le_of_ble_eq_true rfl) dL_law_18 ⟨by show (((0 + 1) + 113) + 1) + 58 ≤ 800891; omega, by show (((0 + 11) + 1716) + 70) + 348 ≤ 6687511; omega⟩) hA hP hD hS (isC := [0, 1, 2, 3, 4, 5, 6, 7, 8, 9]) rfl [10] [1, 2, 3, 4, 5, 6, 7, 8, 9, 10, 0] (br := [smC E os (fun _ => 0)]) (bs2 := fun u => OB E X hs (fun _ => 0) (fun _ _ => 0) (fun _ _ => 0) (fun _ => (fun _ _ => 0)) 0 0 u ++ [smC E os (fun _ => 0)]) rfl (by decide) (fun _ => rfl) (by decide) (fun r j_2 H locs hw hP hD hS => ?_)
  obtain ⟨hw, hj_3⟩ := hw
  subst hw
  refine va_last hx hb hK hP hD hS 114 4 rfl rfl (vp_in_nI (show 0 < 70 by omega) (by decide)) dL_law_21 (fun H locs hP hD hS => ?_)
  rw [nI_clamp (show 0 < 2 ^ 31 by omega)] at hP hD
  have hP : va_P E.1 vwCl (OB E X hs (fun _ => 0) (fun _ _ => 0) (fun _ _ => 0) (fun _ => (fun _ _ => 0)) 0 0 j_2 ++ [smC E os (vp_updL (fun _ => 0) 0 (sumF (fun _ _ => 0)))] : List va_W).flatten H := hP
  have hD : va_D A (OB E X hs (fun _ => 0) (fun _ _ => 0) (fun _ _ => 0) (fun _ => (fun _ _ => 0)) 0 0 j_2 ++ [smC E os (vp_updL (fun _ => 0) 0 (sumF (fun _ _ => 0)))] : List va_W).flatten := hD
  refine lv_iconst (v := nI 0) hx hb dL_law_22 (by decide) ?_
  refine lv_istore (lv' := [(4, .int (nI 0)), (3, .int (nI 0)), (2, .ref os), (1, .ref (X 0 0)), (0, .ref (E.2.2 202))]) hx hb dL_law_23 hl (by decide) rfl (fun ls hl => ?_)
  refine lv_iconst (v := nI 0) hx hb dL_law_25 (by decide) ?_
  refine lv_istore (lv' := [(5, .int (nI 0)), (4, .int (nI 0)), (3, .int (nI 0)), (2, .ref os), (1, .ref (X 0 0)), (0, .ref (E.2.2 202))]) hx hb dL_law_26 hl (by decide) rfl (fun ls hl => ?_)
  have kend : ∀ (H : Heap) (locs : List Loc) (ls : Array Slot) (cells slots : Nat), cells ≤ 800891 → slots ≤ 6687511 → va_S A s.heap H locs → W p l e room_1 s m ([.ref b] : List Value).toArray below meth c H locs cells slots (lw_Z below #[Value.ref b] s) (F0 m 817 ls [.int (nI 1)]) := by
    intro H locs ls cells slots hc hs9 hS
    refine W_widen hc hs9 ?_
    refine va_forget (fun z hz => by have h9 := hS.2.2 z hz; rw [hAd] at h9; exact h9) ?_
    refine tp_i (show nI 1 = 1 from rfl) ?_
    exact lw_ret (d0 := s.drawn) (Drawn.sameBut.refl s.drawn lw_cs) hx hb hr hlocks dL_law_817
  have hlp := law_loop (X := X) (hs := hs) (g2 := fun _ _ => 0) (os := os) (c0 := 173) (s0 := 2145) (⟨hx, hb, hml, hown, hts, hK, hZ, hDD, hA, hst, by omega⟩ : LCL p l s m ([.ref b] : List Value).toArray c E A) ⟨by decide, by decide⟩ kend 56 0 rfl
  exact W_widen (Nat.le_of_ble_eq_true rfl) (Nat.le_of_ble_eq_true rfl) (hlp (fun _ => 0) (fun _ _ => 0) (fun _ => (fun _ _ => 0)) 0 0 j_2 0 _ H locs ls (TRN_0 hj_3 updL_s.symm) hP hD hS (lv_sub hl [5, 4, 3, 2, 1, 0] rfl))
set_option maxHeartbeats 4000000 in
theorem lw_walk (l : Launch) (hflags : l.flags = flags0) (b : Addr) (xs : List Int32) : MetFree l x (headSpec (Jvm.Cond.code x code maxLocals ret :: tables_1) room_1) (lw_P b xs) (fun _ _ _ _ _ => True) lw_Q := by
  refine MetFree.of_bodyS (code := code) (maxLocals := maxLocals) (ret := ret) (by decide) ?_ ?_
  · intro args s m h hn
    obtain ⟨meth, c, h1, h2, h3, h4, h5, h6, -, -⟩ := Cond.code_spec hn (atoms_spec (ws := Jvm.Cond.code x code maxLocals ret :: tables_1) h _ List.mem_cons_self)
    exact ⟨meth, c, h1, h2, h3, h4, h5, h6⟩
  · intro p e s m args below meth c s₁ B hml0 hP _
    obtain ⟨rfl, hx, hbd, hgv⟩ := hP
    obtain ⟨scr, harrAt, hlist, hof, hsmall⟩ := hx
    obtain ⟨hcb, hkn, -, -⟩ := State.arrayAt?_spec harrAt
    have hown : s.vm.findClass R_law = some m.cls := findClass_of_methodNamed B.named
    have hts0 : ∀ c ∈ (Jvm.Cond.code x code maxLocals ret :: tables_1), c.before #[Value.ref b] s = true := atoms_spec (ws := Jvm.Cond.code x code maxLocals ret :: tables_1) B.pre
    have hts : ∀ w ∈ lw_tbl, w.before #[Value.ref b] s = true := k2_hts_sels lw_privs (fun w hw => hts0 w (List.mem_cons_of_mem _ hw)) lw_privs_ok
    have hml : c.maxLocals = 32 := B.maxLocals_eq (hts0 _ List.mem_cons_self)
    have X₀ : Stand p l e room_1 s m #[Value.ref b] below meth c s₁ [] 0 0 := Stand.of_body B
    have hh0 : s₁.heap = s.heap := by rw [B.state]; rfl
    have hsz : scr.slots.size = xs.length := by rw [← Array.length_toList, hlist, List.length_map]
    have hval : ∀ j : Nat, j < xs.length → scr.slots[j]? = some (.int (xs.getD j 0)) := fun j hj => by
      rw [← Array.getElem?_toList, hlist]
      simp [hj]
    have hbl : b < s.heap.size := (Array.getElem?_eq_some_iff.mp hcb).1
    have hX : va_X b xs.length (fun j => xs.getD j 0) s s.heap := ⟨scr, hcb, hof, hkn, hsz, hval⟩
    have K : W p l e room_1 s m #[Value.ref b] below meth c s₁.heap [] 0 0 (lw_Z below #[Value.ref b] s) (entryFrame m ([Value.ref b] : List Value).toArray 32) := by
      rw [hh0]
      exact whole_start l hflags hbd ⟨B.exec, B.bytes, B.returns, hml, hown, hts, hX, hbl, B.notSynchronized, hgv⟩
    obtain ⟨t, a1, o, b1, b2, b3⟩ := K s₁ rfl X₀
    exact ⟨t, o, a1, b1, b2, b3⟩
theorem lw_pre_spec {args : Array Value} {s : State} (h : (Jvm.Cond.and given_1 narrow_1).before args s = true) (hr : rest_1_c.before args s = true) : ∃ (b : Addr) (xs : List Int32), lw_P b xs args s := by
  have hs := flat_of_before _ h
  have hq := flat_of_before _ hr
  have hc : (Cond.count 1).before args s = true := hs _ (by decide +kernel)
  have harr : (Cond.arrayOf (.arg 0) .int).before args s = true := hs _ (by decide +kernel)
  have hle : (Cond.le (.length (.arg 0)) (.int 260)).before args s = true := hs _ (by decide +kernel)
  have hlen : (Cond.isInt (.length (.arg 0))).before args s = true := hq _ (by decide +kernel)
  have hall : (Cond.all (.arg 0) (.isInt (.elem (.arg 0) (.index 0)))).before args s = true := hq _ (by decide +kernel)
  obtain ⟨b, xs, hb, hx⟩ := State.ints_of_pre rfl harr hlen hall
  have hsm : xs.length < 2 ^ 31 := hx.choose_spec.2.2.2
  have hev : (Term.length (.arg 0)).eval args s none [] s = some (.int xs.length.toInt32) := hx.length_eval hb
  have hv := Cond.le_ints hev (show (Term.int 260).eval args s none [] s = some (.int 260) from rfl)
  have hd : xs.length.toInt32 ≤ 260 := by
    simpa [Cond.before, Cond.holds, hv] using hle
  have hN : xs.length ≤ 260 := (Int32.ofNat_le_ofNat hsm (by decide)).mp (show Int32.ofNat xs.length ≤ Int32.ofNat 260 from hd)
  exact ⟨b, xs, Cond.one_arg hc (show args[0]? = some (.ref b) from hb), hx, hN, h⟩
theorem lw_comes (l : Launch) (hflags : l.flags = flags0) : Comes l x (Jvm.Cond.code x code maxLocals ret :: tables_1) room_1 (fun tb e args s => Calls_1 tb e args s ∧ rest_1 tb e args s ∧ Pre_1 tb e args s)
    (fun _ _ args s o t => lw_Q args s o t) := by
  intro p e ha hc hk s m args below hf hfit hheap happ hpre
  obtain ⟨b, xs, hP⟩ := lw_pre_spec hpre.2.2 hpre.2.1
  obtain ⟨k, o, h1, h2, h3, hQ⟩ := lw_walk l hflags b xs p e ha hc hk s m args below hf ((Spec.applies_iff_loose hf).mp happ).1 hP trivial
  exact ⟨k, o, h1, h2, h3, hQ⟩
theorem lw_frame {s t : State} {o : Outcome} {args : Array Value} (h : State.butDraws s t lw_cs (fun t1 => Framed s o t1 [] 800891 6687511)) :
    State.butDraws s t [Jvm.Choice.named "NaN.bits"] (fun t1 => Framed s o t1 (fieldLocs frame_1_writes args s ++ arrayLocs frame_1_arrays args s ++ staticLocs frame_1_statics s) 800891 6687511) := h
theorem lw_limb (L : Cond) (hL : ∀ (args : Array Value) (s t : State), L.after args s (.returned (some (.int 1))) t = true) :
    ArmFor flags0 classFile x code maxLocals ret World_1 tables_1 room_1 Calls_1 rest_1 Pre_1
      (fun tb e a s o t => postC L tb e a s o t ∧ State.butDraws s t [Jvm.Choice.named "NaN.bits"] (fun t1 => Framed s o t1 (fieldLocs frame_1_writes a s ++ arrayLocs frame_1_arrays a s ++ staticLocs frame_1_statics s) 800891 6687511)) := by
  intro l hflags _ _ p e ha hc hk s m args below hf hfit hheap happ hpre
  obtain ⟨k, o, h1, h2, h3, rfl, hF⟩ := lw_comes l hflags p e ha hc hk s m args below hf hfit hheap happ hpre
  exact ⟨k, _, h1, h2, h3, hL args s _, lw_frame hF⟩
theorem i_vc : Claimed_1_1 ∧ Claimed_1_2 := ⟨lw_limb limb_1_1 (fun args s t => by simp [limb_1_1, Cond.after, Cond.holds, Cond.value]), lw_limb limb_1_2 (fun args s t => Cond.after_iff.mpr (by
  first | (rw [show limb_1_2 = Cond.eq .result (.int 1) from rfl, Cond.eq_ints (x := 1) (y := 1) rfl rfl]; simp; done) | (simp [limb_1_2, Cond.value, Term.eval]; done)))⟩

