theorem inJx00060 : ∀ w ∈ u_ws RJx00060 TJx00060 6, w ∈ lw_tbl := by decide +kernel
theorem inJx7c733 : ∀ w ∈ u_ws RJx7c733 TJx7c733 6, w ∈ lw_tbl := by decide +kernel
theorem st_cls {s : State} {b : Nat} (hts : ∀ w ∈ lw_tbl, w.before #[Value.ref b] s = true) (k : Nat) : ∃ x : ClassId × (Nat → Nat), ∀ q : vw_C, vwCl[k]? = some q → u_Kn s q.1 q.2.1 q.2.2 x.1 x.2 := by
  have htg := tg_lw hts
  match k with
  | 0 => obtain ⟨c, i, h⟩ := u_known (C := RJ0) (T := TJ0) (N := 4) (n := 4) htg inJ0 (hts _ (List.mem_of_getElem? (i := 397) (by decide +kernel))); exact ⟨(c, i), fun q hq => by cases hq; exact h⟩
  | 1 => obtain ⟨c, i, h⟩ := u_known (C := RJ4) (T := TJ4) (N := 4) (n := 4) htg inJ4 (hts _ (List.mem_of_getElem? (i := 214) (by decide +kernel))); exact ⟨(c, i), fun q hq => by cases hq; exact h⟩
  | 2 => obtain ⟨c, i, h⟩ := u_known (C := RJx00060) (T := TJx00060) (N := 6) (n := 6) hts inJx00060 (hts _ (List.mem_of_getElem? (i := 323) (by decide +kernel))); exact ⟨(c, i), fun q hq => by cases hq; exact h⟩
  | 3 => obtain ⟨c, i, h⟩ := u_known (C := RJx7c733) (T := TJx7c733) (N := 6) (n := 6) hts inJx7c733 (hts _ (List.mem_of_getElem? (i := 1178) (by decide +kernel))); exact ⟨(c, i), fun q hq => by cases hq; exact h⟩
  | 4 => obtain ⟨c, i, h⟩ := u_known (C := RX0) (T := TX0) (N := 2) (n := 2) htg inX0 (hts _ (List.mem_of_getElem? (i := 160) (by decide +kernel))); exact ⟨(c, i), fun q hq => by cases hq; exact h⟩
  | 5 => obtain ⟨c, i, h⟩ := u_known (C := RX1) (T := TX1) (N := 2) (n := 2) htg inX1 (hts _ (List.mem_of_getElem? (i := 173) (by decide +kernel))); exact ⟨(c, i), fun q hq => by cases hq; exact h⟩
  | 6 => obtain ⟨c, i, h⟩ := u_known (C := RX2) (T := TX2) (N := 3) (n := 3) htg inX2 (hts _ (List.mem_of_getElem? (i := 140) (by decide +kernel))); exact ⟨(c, i), fun q hq => by cases hq; exact h⟩
  | 7 => obtain ⟨c, i, h⟩ := u_known (C := RX3) (T := TX3) (N := 6) (n := 6) htg inX3 (hts _ (List.mem_of_getElem? (i := 186) (by decide +kernel))); exact ⟨(c, i), fun q hq => by cases hq; exact h⟩
  | 8 => obtain ⟨c, i, h⟩ := u_known (C := RX4) (T := TX4) (N := 16) (n := 16) htg inX4 (hts _ (List.mem_of_getElem? (i := 61) (by decide +kernel))); exact ⟨(c, i), fun q hq => by cases hq; exact h⟩
  | 9 => obtain ⟨c, i, h⟩ := u_known (C := RX5) (T := TX5) (N := 11) (n := 11) htg inX5 (hts _ (List.mem_of_getElem? (i := 53) (by decide +kernel))); exact ⟨(c, i), fun q hq => by cases hq; exact h⟩
  | n + 10 => exact ⟨(0, fun _ => 0), fun q hq => by cases hq⟩
theorem st_arr {s : State} {args : Array Value} {ty : FieldType} (h : (Cond.arrayClass ty).before args s = true) : ∃ c : ClassId, ArrOfT s c ty ∧ s.vm.findClass ("[" ++ ty.toString) = some c := by
  obtain ⟨c, k, comp, h1, h2, h3⟩ := Cond.arrayClass_spec h
  exact ⟨c, fun n z => ⟨fun k h => (by cases h), k, h2, comp, h3⟩, h1⟩
theorem st_str {s : State} {b : Nat} (hts : ∀ w ∈ lw_tbl, w.before #[Value.ref b] s = true) (hfl : ∀ w ∈ FLA, w.before #[Value.ref b] s = true) (i : Nat) : ∃ x : Nat × Nat, ∀ q : String × Nat × String, sRef[i]? = some q → vk_S 1 [q.2.2.length] [txb q.2.2] (fun _ => x.1) (fun _ => x.2) (fun q => s.heap.size ≤ q) s s.heap ∧ vk_R q.1 q.2.1 q.2.2 x.1 s := by
  cases hq : sRef[i]? with
  | none => exact ⟨(0, 0), fun q h => by cases h⟩
  | some q =>
    have hm : q ∈ sRef := List.mem_of_getElem? hq
    have ha : ∀ w ∈ sAt q, w.before #[Value.ref b] s = true := fun w hw => hfl w (sAt_ok hm w hw)
    have hlen : q.2.2.length < 2 ^ 31 := by
      have h9 : ∀ q ∈ sRef, q.2.2.length < 100 := by decide +kernel
      have := h9 q hm
      omega
    obtain ⟨adK, adV, hS, hev⟩ := vk_Sof (args := #[Value.ref b]) (s := s) (N := 1) (tm := fun _ => .string q.1 q.2.1) (len := [q.2.2.length]) (byt := [txb q.2.2]) (A := fun q => s.heap.size ≤ q)
      (fun i hi => by obtain rfl : i = 0 := by omega
                      exact hlen)
      (fun i hi => ha _ List.mem_cons_self)
      (fun i hi => ha _ (List.mem_cons_of_mem _ List.mem_cons_self))
      (fun i hi => ha _ (List.mem_cons_of_mem _ (List.mem_cons_of_mem _ List.mem_cons_self)))
      (fun i hi => by obtain rfl : i = 0 := by omega
                      exact ha _ (List.mem_cons_of_mem _ (List.mem_cons_of_mem _ (List.mem_cons_of_mem _ List.mem_cons_self))))
      (fun i hi j hj => by
        obtain rfl : i = 0 := by omega
        exact ha _ (List.mem_cons_of_mem _ (List.mem_cons_of_mem _ (List.mem_cons_of_mem _ (List.mem_cons_of_mem _ (List.mem_map.mpr ⟨j, List.mem_range.mpr hj, rfl⟩))))))
      (fun i j hi hj h => absurd (show i = j by omega) h) (fun a h => Nat.not_le.mpr h)
    refine ⟨(adK 0, adV 0), fun q' h => ?_⟩
    cases h
    refine ⟨⟨fun i hi => ?_, fun i j hi hj _ => by omega⟩, vk_R.of (hts _ (sr_ok q hm)) (hev 0 (by decide))⟩
    obtain rfl : i = 0 := by omega
    exact hS.1 0 hi
theorem st_dg {s : State} {b : Nat} (hts : ∀ w ∈ lw_tbl, w.before #[Value.ref b] s = true) (hfl : ∀ w ∈ FLA, w.before #[Value.ref b] s = true) {nm : String} {f : Nat → Nat} (hm : ∀ w ∈ dgAt nm f, w ∈ FLA) (hl : Cond.laysStatic "java/lang/Integer" nm "[B" ∈ lw_tbl) :
    ∃ t : Nat, va_Z "java/lang/Integer" nm "[B" (.ref t) (fun q => s.heap.size ≤ q) s s.heap ∧ va_T .byte t 100 (fun j => .int (nI (f j))) (fun q => s.heap.size ≤ q) s s.heap := by
  have ha : ∀ w ∈ dgAt nm f, w.before #[Value.ref b] s = true := fun w hw => hfl w (hm w hw)
  have hA : ∀ a : Nat, a < s.heap.size → ¬ (fun q => s.heap.size ≤ q) a := fun a h => Nat.not_le.mpr h
  obtain ⟨t, ht, hT⟩ := va_Tof (args := #[Value.ref b]) (s := s) (tm := dgT nm) (ty := .byte) (N := 100) (f := fun j => .int (nI (f j))) (A := fun q => s.heap.size ≤ q) (by decide) (ha _ List.mem_cons_self) (va_eqt (ha _ (List.mem_cons_of_mem _ List.mem_cons_self)))
    (fun j hj => va_eqt (ha _ (List.mem_cons_of_mem _ (List.mem_cons_of_mem _ (List.mem_map.mpr ⟨j, List.mem_range.mpr hj, rfl⟩))))) hA
  exact ⟨t, va_Zof (hts _ hl) (hts (.initialized "java/lang/Integer") (List.mem_of_getElem? (i := 47) (by decide +kernel))) ht hA, hT⟩
theorem nI_bv (x : Int32) : x = nI x.toBitVec.toNat := by
  apply Int32.toBitVec_inj.1
  show x.toBitVec = BitVec.ofNat 32 x.toBitVec.toNat
  simp
theorem st_env {s : State} {b L : Nat} {xs : Nat → Int32} (hX : va_X b L xs s s.heap) (hbl : b < s.heap.size) (hts : ∀ w ∈ lw_tbl, w.before #[Value.ref b] s = true) (hgv : (Jvm.Cond.and given_1 narrow_1).before #[Value.ref b] s = true) : ∃ E : EE, va_K E.1 vwCl (tyl E.2.1) s ∧ ZZ E (fun q => s.heap.size ≤ q) s s.heap ∧ DD s ∧ E.2.2 202 = b ∧ E.2.2 203 = L := by
  have hfl : ∀ w ∈ FLA, w.before #[Value.ref b] s = true := flat_of_before _ hgv
  have hA : ∀ a : Nat, a < s.heap.size → ¬ (fun q => s.heap.size ≤ q) a := fun a h => Nat.not_le.mpr h
  obtain ⟨a0, ha0, hn0⟩ := st_arr (hts (.arrayClass .int) (List.mem_of_getElem? (i := 138) (by decide +kernel)))
  obtain ⟨a1, ha1, hn1⟩ := st_arr (hts (.arrayClass .char) (List.mem_of_getElem? (i := 212) (by decide +kernel)))
  obtain ⟨a2, ha2, hn2⟩ := st_arr (hts (.arrayClass .byte) (List.mem_of_getElem? (i := 245) (by decide +kernel)))
  obtain ⟨a4, ha4, hn4⟩ := st_arr (hts (.arrayClass .long) (List.mem_of_getElem? (i := 1411) (by decide +kernel)))
  have hao := hts (.arrayOver (.object "CricketCooperative$State")) (List.mem_of_getElem? (i := 146) (by decide +kernel))
  obtain ⟨o1, a3, o2, k1, k2, k3, k4, k5⟩ := Cond.arrayOver_spec hao
  obtain ⟨d1, hz1, ht1⟩ := st_dg hts hfl (fun w hw => dt_mem dg_1 w hw) (List.mem_of_getElem? (i := 841) (by decide +kernel))
  obtain ⟨d2, hz2, ht2⟩ := st_dg hts hfl (fun w hw => dt_mem dg_2 w hw) (List.mem_of_getElem? (i := 843) (by decide +kernel))
  refine ⟨((fun k => (Classical.choose (st_cls hts k)).1, fun k => (Classical.choose (st_cls hts k)).2), fun k => if k = 0 then a0 else if k = 1 then a1 else if k = 2 then a2 else if k = 3 then a3 else a4, fun i => if i = 200 then d1 else if i = 201 then d2 else if i = 202 then b else if i = 203 then L else if 1000 ≤ i then (xs (i - 1000)).toBitVec.toNat else if i < 100 then (Classical.choose (st_str hts hfl i)).1 else (Classical.choose (st_str hts hfl (i - 100))).2), ⟨fun k q hq => Classical.choose_spec (st_cls hts k) q hq, ?_⟩, ?_, ?_, rfl, rfl⟩
  · intro k q hq
    match k, hq with
    | 0, hq => cases hq; exact ⟨ha0, hn0⟩
    | 1, hq => cases hq; exact ⟨ha1, hn1⟩
    | 2, hq => cases hq; exact ⟨ha2, hn2⟩
    | 3, hq => cases hq; exact ⟨fun n z => ⟨fun k h => (by cases h), o2, k3, o1, k4⟩, o2, o1, k3, k4, k1, k5⟩
    | 4, hq => cases hq; exact ⟨ha4, hn4⟩
    | n + 5, hq => cases hq
  · have hSC : va_X b L (fun j => nI (if 1000 + j = 200 then d1 else if 1000 + j = 201 then d2 else if 1000 + j = 202 then b else if 1000 + j = 203 then L else if 1000 ≤ 1000 + j then (xs (1000 + j - 1000)).toBitVec.toNat else if 1000 + j < 100 then (Classical.choose (st_str hts hfl (1000 + j))).1 else (Classical.choose (st_str hts hfl (1000 + j - 100))).2)) s s.heap := by
      have e9 : (fun j => nI (if 1000 + j = 200 then d1 else if 1000 + j = 201 then d2 else if 1000 + j = 202 then b else if 1000 + j = 203 then L else if 1000 ≤ 1000 + j then (xs (1000 + j - 1000)).toBitVec.toNat else if 1000 + j < 100 then (Classical.choose (st_str hts hfl (1000 + j))).1 else (Classical.choose (st_str hts hfl (1000 + j - 100))).2)) = xs := by
        funext j
        rw [if_neg (by omega), if_neg (by omega), if_neg (by omega), if_neg (by omega), if_pos (by omega), Nat.add_sub_cancel_left]
        exact (nI_bv (xs j)).symm
      rw [e9]
      exact hX
    refine ⟨⟨vx_Zqof (hts _ (List.mem_of_getElem? (i := 340) (by decide +kernel))) (hts (.initialized "java/lang/Throwable") (List.mem_of_getElem? (i := 32) (by decide +kernel))) (hfl _ (List.mem_of_getElem? (i := 5) (by decide +kernel))) hA, vx_Zqof (hts _ (List.mem_of_getElem? (i := 342) (by decide +kernel))) (hts (.initialized "java/lang/Throwable") (List.mem_of_getElem? (i := 32) (by decide +kernel))) (hfl _ (List.mem_of_getElem? (i := 6) (by decide +kernel))) hA⟩, fun q hq => va_Nw.of rfl (hts _ (nb_ok q hq)), fun q hq => va_Nw.of rfl (hts _ (cb_ok q hq)), fun q hq => va_Nc.of (hfl _ (nc_ok q hq)), ?_, ⟨va_Zof (hts _ (List.mem_of_getElem? (i := 223) (by decide +kernel))) (hts (.initialized "java/lang/String") (List.mem_of_getElem? (i := 30) (by decide +kernel))) (va_eqi (hfl _ (List.mem_of_getElem? (i := 4) (by decide +kernel)))) hA, va_Zqof (hts _ (List.mem_of_getElem? (i := 771) (by decide +kernel))) (hts (.initialized "jdk/internal/util/Preconditions") (List.mem_of_getElem? (i := 44) (by decide +kernel))) (hfl _ (List.mem_of_getElem? (i := 7) (by decide +kernel))) hA, hSC, hA _ hbl⟩, ⟨hz1, ht1⟩, ⟨hz2, ht2⟩⟩
    intro i q hq
    have hi : i < 39 := (List.getElem?_eq_some_iff.mp hq).1
    have h1 := Classical.choose_spec (st_str hts hfl i) q hq
    have e1 : (if i = 200 then d1 else if i = 201 then d2 else if i = 202 then b else if i = 203 then L else if 1000 ≤ i then (xs (i - 1000)).toBitVec.toNat else if i < 100 then (Classical.choose (st_str hts hfl i)).1 else (Classical.choose (st_str hts hfl (i - 100))).2) = (Classical.choose (st_str hts hfl i)).1 := by rw [if_neg (by omega), if_neg (by omega), if_neg (by omega), if_neg (by omega), if_neg (by omega), if_pos (by omega)]
    have e2 : (if 100 + i = 200 then d1 else if 100 + i = 201 then d2 else if 100 + i = 202 then b else if 100 + i = 203 then L else if 1000 ≤ 100 + i then (xs (100 + i - 1000)).toBitVec.toNat else if 100 + i < 100 then (Classical.choose (st_str hts hfl (100 + i))).1 else (Classical.choose (st_str hts hfl (100 + i - 100))).2) = (Classical.choose (st_str hts hfl i)).2 := by
      rw [if_neg (by omega), if_neg (by omega), if_neg (by omega), if_neg (by omega), if_neg (by omega), if_neg (by omega)]
      rw [show 100 + i - 100 = i by omega]
    show vk_S 1 _ _ (fun _ => if i = 200 then _ else _) (fun _ => if 100 + i = 200 then _ else _) _ _ _ ∧ vk_R _ _ _ (if i = 200 then _ else _) _
    rw [e1, e2]
    exact h1
  · refine ⟨fun X hX => va_Nw.of rfl (hts _ (dx_ok X hX)), fun y hy => ?_, va_AO.of hao⟩
    have key : (Cond.selects RJ4 y y).before #[Value.ref b] s = true := by
      rcases List.mem_cons.mp hy with rfl | hy
      · exact sel_priv (y := yJ5_ensureCapacityInternal_d00df) (y0 := yJ5_isLatin1_aae02) (y1 := yJ5_isLatin1_aae02) rfl (by decide +kernel) (hts (.instantiable RJ4 4) (List.mem_of_getElem? (i := 214) (by decide +kernel))) (hts (.privateMethod yJ5_ensureCapacityInternal_d00df) (List.mem_of_getElem? (i := 723) (by decide +kernel))) (hts (.instanceMethod yJ5_ensureCapacityInternal_d00df) (List.mem_of_getElem? (i := 724) (by decide +kernel))) (hts _ (List.mem_of_getElem? (i := 756) (by decide +kernel)))
      · rcases List.mem_cons.mp hy with rfl | hy
        · exact sel_priv (y := yJ5_newCapacity_0f7a4) (y0 := yJ5_isLatin1_aae02) (y1 := yJ5_isLatin1_aae02) rfl (by decide +kernel) (hts (.instantiable RJ4 4) (List.mem_of_getElem? (i := 214) (by decide +kernel))) (hts (.privateMethod yJ5_newCapacity_0f7a4) (List.mem_of_getElem? (i := 727) (by decide +kernel))) (hts (.instanceMethod yJ5_newCapacity_0f7a4) (List.mem_of_getElem? (i := 728) (by decide +kernel))) (hts _ (List.mem_of_getElem? (i := 756) (by decide +kernel)))
        · rcases List.mem_cons.mp hy with rfl | hy
          · exact sel_priv (y := yJ5_putStringAt_47b60) (y0 := yJ5_isLatin1_aae02) (y1 := yJ5_isLatin1_aae02) rfl (by decide +kernel) (hts (.instantiable RJ4 4) (List.mem_of_getElem? (i := 214) (by decide +kernel))) (hts (.privateMethod yJ5_putStringAt_47b60) (List.mem_of_getElem? (i := 794) (by decide +kernel))) (hts (.instanceMethod yJ5_putStringAt_47b60) (List.mem_of_getElem? (i := 795) (by decide +kernel))) (hts _ (List.mem_of_getElem? (i := 756) (by decide +kernel)))
          · rcases List.mem_cons.mp hy with rfl | hy
            · exact sel_priv (y := yJ5_inflateIfNeededFor_a7421) (y0 := yJ5_isLatin1_aae02) (y1 := yJ5_isLatin1_aae02) rfl (by decide +kernel) (hts (.instantiable RJ4 4) (List.mem_of_getElem? (i := 214) (by decide +kernel))) (hts (.privateMethod yJ5_inflateIfNeededFor_a7421) (List.mem_of_getElem? (i := 798) (by decide +kernel))) (hts (.instanceMethod yJ5_inflateIfNeededFor_a7421) (List.mem_of_getElem? (i := 799) (by decide +kernel))) (hts _ (List.mem_of_getElem? (i := 756) (by decide +kernel)))
            · exact absurd hy List.not_mem_nil
    exact va_tabs rfl rfl key
