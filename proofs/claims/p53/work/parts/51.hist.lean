/-! the class's History: its cells, and those with the eight states -/
def hiC (E : EE) (b : Nat → Nat) (hs : Nat → Nat → Nat) (nx ct : Nat) : va_W := [(b 0, .inr (6, [.ref (b 1), .int (nI nx), .int (nI ct)])), (b 1, .inl (E.2.1 3, 8, .inr (.inr (.inr (.inr (fun j => some (hs j 0)))))))]
def hhC (E : EE) (b : Nat → Nat) (hs : Nat → Nat → Nat) (hg : Nat → GG) (nx ct : Nat) : va_W := hiC E b hs nx ct ++ (stC E (hs 0) (hg 0) ++ (stC E (hs 1) (hg 1) ++ (stC E (hs 2) (hg 2) ++ (stC E (hs 3) (hg 3) ++ (stC E (hs 4) (hg 4) ++ (stC E (hs 5) (hg 5) ++ (stC E (hs 6) (hg 6) ++ stC E (hs 7) (hg 7))))))))
theorem hh_flat {E : EE} {b : Nat → Nat} {hs : Nat → Nat → Nat} {hg : Nat → GG} {nx ct : Nat} (l : List va_W) : (hhC E b hs hg nx ct :: l).flatten = (hiC E b hs nx ct :: stC E (hs 0) (hg 0) :: stC E (hs 1) (hg 1) :: stC E (hs 2) (hg 2) :: stC E (hs 3) (hg 3) :: stC E (hs 4) (hg 4) :: stC E (hs 5) (hg 5) :: stC E (hs 6) (hg 6) :: stC E (hs 7) (hg 7) :: l).flatten := by
  simp only [List.flatten_cons, hhC, List.append_assoc]
section NAQ
variable {p : Program} {l : Launch} {e : Env} {R : Room} {s : State} {m : MethodId} {args : Array Value} {below : List Frame} {meth : Method} {c : Code} {H : Heap} {locs : List Loc} {cells slots : Nat} {Q : State → Prop} {cc : ByteArray} {pc : Nat} {ls : Array Slot} {rest : List Value} {D : va_G} {cl : List vw_C} {tys : List (ClassId × FieldType)} {ws : va_W} {a : Nat}
theorem nv_aald (hexec : p.tables.exec = Jvm.exec) (hb : c.code = cc) (hK : va_K D cl tys s) (hP : va_P D cl ws H) (q16 t0 : Nat) {cA : ClassId} {C : String} {n : Nat} {f : Nat → Nat} (ha : ws[q16]? = some (a, .inl (cA, n, .inr (.inr (.inr (.inr (fun j => some (f j)))))))) (ht : tys[t0]? = some (cA, .object C)) {i : Nat} (hin : i < n) (hn : n < 2 ^ 31) (hdg : decode cc pc = .ok (.aaload, 1))
    (kk : W p l e R s m args below meth c H locs cells slots Q (F0 m (pc + 1) ls (.ref (f i) :: rest))) : W p l e R s m args below meth c H locs cells slots Q (F0 m pc ls (.int (nI i) :: .ref a :: rest)) :=
  va_aldq hexec hb hK hP q16 t0 ha ht (vp_in_nI hin hn) hdg (by rw [nI_clamp (by omega)]; exact kk)
end NAQ
abbrev rm_X2_remember : Room := { frames := 2, cells := 0, slots := 0, locals := 141 }
set_option maxHeartbeats 4000000 in
set_option maxRecDepth 100000 in
theorem c_X2_remember (l : Launch) (E : EE) (sz : Nat) (b : Nat → Nat) (hs : Nat → Nat → Nat) (hg : Nat → GG) (nx ct : Nat) (a : Nat → Nat) (g : GG) (hnx : nx < 8) (hct : ct ≤ 8) : MV l yX2_remember cX2_remember 2 rm_X2_remember [.ref (b 0), .ref (a 0)] E sz [hhC E b hs hg nx ct, stC E a g] (fun (_ : Unit) => True) (fun _ => [hhC E b hs (upa hg nx g) ((nx + 1) % 8) (if 8 < ct + 1 then 8 else ct + 1), stC E a g]) 0 0 := by
  refine mv_go (by decide) (Nat.le_of_ble_eq_true rfl) ?_
  intro p e s m below meth c A Q ls hx hb hml hown hts hK hZ hA hsz hP hD hl hret hnm
  have hS : va_S A s.heap s.heap [] := va_S.rf
  have hl : lv_has ls 2 [(0, .ref (b 0)), (1, .ref (a 0))] := hl
  skip
  rcases (show nx = 0 ∨ nx = 1 ∨ nx = 2 ∨ nx = 3 ∨ nx = 4 ∨ nx = 5 ∨ nx = 6 ∨ nx = 7 by omega) with rfl | rfl | rfl | rfl | rfl | rfl | rfl | rfl
  · skip
    have hP : va_P E.1 vwCl ([hiC E b hs 0 ct, stC E (hs 0) (hg 0), stC E (hs 1) (hg 1), stC E (hs 2) (hg 2), stC E (hs 3) (hg 3), stC E (hs 4) (hg 4), stC E (hs 5) (hg 5), stC E (hs 6) (hg 6), stC E (hs 7) (hg 7), stC E a g] : List va_W).flatten s.heap := by rw [← hh_flat]; exact hP
    have hD : va_D A ([hiC E b hs 0 ct, stC E (hs 0) (hg 0), stC E (hs 1) (hg 1), stC E (hs 2) (hg 2), stC E (hs 3) (hg 3), stC E (hs 4) (hg 4), stC E (hs 5) (hg 5), stC E (hs 6) (hg 6), stC E (hs 7) (hg 7), stC E a g] : List va_W).flatten := by rw [← hh_flat]; exact hD
    refine lv_aload_n hx hb dX2_remember_0 rfl (lv_at hl 0 rfl) ?_
    refine va_get (D := E.1) (ci := 6) (v := .ref (b 1)) (C := RX2) (T := TX2) (N := 3) hx hb hts inX2 hown hK hP 0 rfl rfl 0 (by decide) (hts _ q148) (fun _ h9 => h9) rfl dX2_remember_1 ?_
    refine lv_aload_n hx hb dX2_remember_4 rfl (lv_at hl 0 rfl) ?_
    refine va_get (D := E.1) (ci := 6) (v := .int (nI 0)) (C := RX2) (T := TX2) (N := 3) hx hb hts inX2 hown hK hP 0 rfl rfl 1 (by decide) (hts _ q149) (fun _ h9 => h9) rfl dX2_remember_5 ?_
    refine nv_aald (f := fun j => hs j 0) (i := 0) (n := 8) hx hb hK hP 1 3 rfl rfl (by omega) (by decide) dX2_remember_8 ?_
    refine lv_aload_n hx hb dX2_remember_9 rfl (lv_at hl 1 rfl) ?_
    refine run_v (S := Unit) (run_V (As := [.ref (a 0)]) (rest := []) (bs := [hiC E b hs 0 ct, stC E (hs 0) (hg 0), stC E (hs 1) (hg 1), stC E (hs 2) (hg 2), stC E (hs 3) (hg 3), stC E (hs 4) (hg 4), stC E (hs 5) (hg 5), stC E (hs 6) (hg 6), stC E (hs 7) (hg 7), stC E a g]) (cb := [stC E (hs 0) (hg 0), stC E a g]) hx hb hml hown hts hK hZ hA (c_X4_copyFrom l E _ (hs 0) (hg 0) a g) l_X2_23 rfl ⟨⟨rfl, rfl⟩, Nat.le_of_ble_eq_true rfl, Nat.le_of_ble_eq_true rfl⟩ 8 rfl [1, 9] rfl (by decide) rfl hP hD hS hl.1 rfl (Nat.le_of_ble_eq_true rfl) dX2_remember_10 ⟨Nat.zero_le _, Nat.zero_le _⟩) hA hP hD hS (isC := [1, 9]) rfl [0, 2, 3, 4, 5, 6, 7, 8] [0, 8, 1, 2, 3, 4, 5, 6, 7, 9] (br := [hiC E b hs 0 ct, stC E (hs 1) (hg 1), stC E (hs 2) (hg 2), stC E (hs 3) (hg 3), stC E (hs 4) (hg 4), stC E (hs 5) (hg 5), stC E (hs 6) (hg 6), stC E (hs 7) (hg 7)]) (bs2 := fun _ => [hiC E b hs 0 ct, stC E (hs 0) g, stC E (hs 1) (hg 1), stC E (hs 2) (hg 2), stC E (hs 3) (hg 3), stC E (hs 4) (hg 4), stC E (hs 5) (hg 5), stC E (hs 6) (hg 6), stC E (hs 7) (hg 7), stC E a g]) rfl (by decide) (fun _ => rfl) (by decide) (fun u H locs hw hP hD hS => ?_)
    refine lv_aload_n hx hb dX2_remember_13 rfl (lv_at hl 0 rfl) ?_
    refine lv_aload_n hx hb dX2_remember_14 rfl (lv_at hl 0 rfl) ?_
    refine va_get (D := E.1) (ci := 6) (v := .int (nI 0)) (C := RX2) (T := TX2) (N := 3) hx hb hts inX2 hown hK hP 0 rfl rfl 1 (by decide) (hts _ q149) (fun _ h9 => h9) rfl dX2_remember_15 ?_
    refine lv_iconst (v := nI 1) hx hb dX2_remember_18 (by decide) ?_
    refine nv_iadd hx hb dX2_remember_19 ?_
    refine lv_bipush (v := nI 8) hx hb dX2_remember_20 (by decide) ?_
    refine nv_irem hx hb (by omega) (by omega) (by omega) dX2_remember_22 ?_
    refine tp_i (show nI ((0 + 1) % 8) = nI 1 from rfl) ?_
    refine va_put (D := E.1) (ci := 6) (v := .int (nI 1)) (ty := .int) (C := RX2) (T := TX2) (N := 3) hx hb hts inX2 tyX2 tyX2_ok nmX2 hown hK hP hD hS 0 rfl rfl 1 (by decide) (hts _ q149) (fun _ h9 => h9) rfl (by decide +kernel) rfl rfl (Nat.le_of_ble_eq_true rfl) dX2_remember_23 (fun H locs hP hD hS => ?_)
    have hP : va_P E.1 vwCl ([hiC E b hs 1 ct, stC E (hs 0) g, stC E (hs 1) (hg 1), stC E (hs 2) (hg 2), stC E (hs 3) (hg 3), stC E (hs 4) (hg 4), stC E (hs 5) (hg 5), stC E (hs 6) (hg 6), stC E (hs 7) (hg 7), stC E a g] : List va_W).flatten H := hP
    have hD : va_D A ([hiC E b hs 1 ct, stC E (hs 0) g, stC E (hs 1) (hg 1), stC E (hs 2) (hg 2), stC E (hs 3) (hg 3), stC E (hs 4) (hg 4), stC E (hs 5) (hg 5), stC E (hs 6) (hg 6), stC E (hs 7) (hg 7), stC E a g] : List va_W).flatten := hD
    refine lv_aload_n hx hb dX2_remember_26 rfl (lv_at hl 0 rfl) ?_
    refine lv_aload_n hx hb dX2_remember_27 rfl (lv_at hl 0 rfl) ?_
    refine va_get (D := E.1) (ci := 6) (v := .int (nI ct)) (C := RX2) (T := TX2) (N := 3) hx hb hts inX2 hown hK hP 0 rfl rfl 2 (by decide) (hts _ q150) (fun _ h9 => h9) rfl dX2_remember_28 ?_
    refine lv_iconst (v := nI 1) hx hb dX2_remember_31 (by decide) ?_
    refine nv_iadd hx hb dX2_remember_32 ?_
    refine lv_bipush (v := nI 8) hx hb dX2_remember_33 (by decide) ?_
    refine va_mmin hx hb (hml.trans hl.1.symm) hown (hts _ q617) (hts _ q502) (hts _ q39) (hts _ q503) (Nat.le_of_ble_eq_true rfl) (Nat.le_of_ble_eq_true rfl) (Nat.le_of_ble_eq_true rfl) (Nat.le_of_ble_eq_true rfl) dX2_remember_35 ?_
    refine tp_i (nI_mn (a := ct + 1) (b := 8) (by omega) (by omega)) ?_
    refine va_put (D := E.1) (ci := 6) (v := .int (nI (if 8 < ct + 1 then 8 else ct + 1))) (ty := .int) (C := RX2) (T := TX2) (N := 3) hx hb hts inX2 tyX2 tyX2_ok nmX2 hown hK hP hD hS 0 rfl rfl 2 (by decide) (hts _ q150) (fun _ h9 => h9) rfl (by decide +kernel) rfl rfl (Nat.le_of_ble_eq_true rfl) dX2_remember_38 (fun H locs hP hD hS => ?_)
    have hP : va_P E.1 vwCl ([hiC E b hs 1 (if 8 < ct + 1 then 8 else ct + 1), stC E (hs 0) g, stC E (hs 1) (hg 1), stC E (hs 2) (hg 2), stC E (hs 3) (hg 3), stC E (hs 4) (hg 4), stC E (hs 5) (hg 5), stC E (hs 6) (hg 6), stC E (hs 7) (hg 7), stC E a g] : List va_W).flatten H := hP
    have hD : va_D A ([hiC E b hs 1 (if 8 < ct + 1 then 8 else ct + 1), stC E (hs 0) g, stC E (hs 1) (hg 1), stC E (hs 2) (hg 2), stC E (hs 3) (hg 3), stC E (hs 4) (hg 4), stC E (hs 5) (hg 5), stC E (hs 6) (hg 6), stC E (hs 7) (hg 7), stC E a g] : List va_W).flatten := hD
    have hP : va_P E.1 vwCl ([hhC E b hs (upa hg 0 g) ((0 + 1) % 8) (if 8 < ct + 1 then 8 else ct + 1), stC E a g] : List va_W).flatten H := by rw [hh_flat]; exact hP
    have hD : va_D A ([hhC E b hs (upa hg 0 g) ((0 + 1) % 8) (if 8 < ct + 1 then 8 else ct + 1), stC E a g] : List va_W).flatten := by rw [hh_flat]; exact hD
    exact hret _ _ () _ _ hP hD hS trivial dX2_remember_41
  · skip
    have hP : va_P E.1 vwCl ([hiC E b hs 1 ct, stC E (hs 0) (hg 0), stC E (hs 1) (hg 1), stC E (hs 2) (hg 2), stC E (hs 3) (hg 3), stC E (hs 4) (hg 4), stC E (hs 5) (hg 5), stC E (hs 6) (hg 6), stC E (hs 7) (hg 7), stC E a g] : List va_W).flatten s.heap := by rw [← hh_flat]; exact hP
    have hD : va_D A ([hiC E b hs 1 ct, stC E (hs 0) (hg 0), stC E (hs 1) (hg 1), stC E (hs 2) (hg 2), stC E (hs 3) (hg 3), stC E (hs 4) (hg 4), stC E (hs 5) (hg 5), stC E (hs 6) (hg 6), stC E (hs 7) (hg 7), stC E a g] : List va_W).flatten := by rw [← hh_flat]; exact hD
    refine lv_aload_n hx hb dX2_remember_0 rfl (lv_at hl 0 rfl) ?_
    refine va_get (D := E.1) (ci := 6) (v := .ref (b 1)) (C := RX2) (T := TX2) (N := 3) hx hb hts inX2 hown hK hP 0 rfl rfl 0 (by decide) (hts _ q148) (fun _ h9 => h9) rfl dX2_remember_1 ?_
    refine lv_aload_n hx hb dX2_remember_4 rfl (lv_at hl 0 rfl) ?_
    refine va_get (D := E.1) (ci := 6) (v := .int (nI 1)) (C := RX2) (T := TX2) (N := 3) hx hb hts inX2 hown hK hP 0 rfl rfl 1 (by decide) (hts _ q149) (fun _ h9 => h9) rfl dX2_remember_5 ?_
    refine nv_aald (f := fun j => hs j 0) (i := 1) (n := 8) hx hb hK hP 1 3 rfl rfl (by omega) (by decide) dX2_remember_8 ?_
    refine lv_aload_n hx hb dX2_remember_9 rfl (lv_at hl 1 rfl) ?_
    refine run_v (S := Unit) (run_V (As := [.ref (a 0)]) (rest := []) (bs := [hiC E b hs 1 ct, stC E (hs 0) (hg 0), stC E (hs 1) (hg 1), stC E (hs 2) (hg 2), stC E (hs 3) (hg 3), stC E (hs 4) (hg 4), stC E (hs 5) (hg 5), stC E (hs 6) (hg 6), stC E (hs 7) (hg 7), stC E a g]) (cb := [stC E (hs 1) (hg 1), stC E a g]) hx hb hml hown hts hK hZ hA (c_X4_copyFrom l E _ (hs 1) (hg 1) a g) l_X2_23 rfl ⟨⟨rfl, rfl⟩, Nat.le_of_ble_eq_true rfl, Nat.le_of_ble_eq_true rfl⟩ 8 rfl [2, 9] rfl (by decide) rfl hP hD hS hl.1 rfl (Nat.le_of_ble_eq_true rfl) dX2_remember_10 ⟨Nat.zero_le _, Nat.zero_le _⟩) hA hP hD hS (isC := [2, 9]) rfl [0, 1, 3, 4, 5, 6, 7, 8] [0, 1, 8, 2, 3, 4, 5, 6, 7, 9] (br := [hiC E b hs 1 ct, stC E (hs 0) (hg 0), stC E (hs 2) (hg 2), stC E (hs 3) (hg 3), stC E (hs 4) (hg 4), stC E (hs 5) (hg 5), stC E (hs 6) (hg 6), stC E (hs 7) (hg 7)]) (bs2 := fun _ => [hiC E b hs 1 ct, stC E (hs 0) (hg 0), stC E (hs 1) g, stC E (hs 2) (hg 2), stC E (hs 3) (hg 3), stC E (hs 4) (hg 4), stC E (hs 5) (hg 5), stC E (hs 6) (hg 6), stC E (hs 7) (hg 7), stC E a g]) rfl (by decide) (fun _ => rfl) (by decide) (fun u H locs hw hP hD hS => ?_)
    refine lv_aload_n hx hb dX2_remember_13 rfl (lv_at hl 0 rfl) ?_
    refine lv_aload_n hx hb dX2_remember_14 rfl (lv_at hl 0 rfl) ?_
    refine va_get (D := E.1) (ci := 6) (v := .int (nI 1)) (C := RX2) (T := TX2) (N := 3) hx hb hts inX2 hown hK hP 0 rfl rfl 1 (by decide) (hts _ q149) (fun _ h9 => h9) rfl dX2_remember_15 ?_
    refine lv_iconst (v := nI 1) hx hb dX2_remember_18 (by decide) ?_
    refine nv_iadd hx hb dX2_remember_19 ?_
    refine lv_bipush (v := nI 8) hx hb dX2_remember_20 (by decide) ?_
    refine nv_irem hx hb (by omega) (by omega) (by omega) dX2_remember_22 ?_
    refine tp_i (show nI ((1 + 1) % 8) = nI 2 from rfl) ?_
    refine va_put (D := E.1) (ci := 6) (v := .int (nI 2)) (ty := .int) (C := RX2) (T := TX2) (N := 3) hx hb hts inX2 tyX2 tyX2_ok nmX2 hown hK hP hD hS 0 rfl rfl 1 (by decide) (hts _ q149) (fun _ h9 => h9) rfl (by decide +kernel) rfl rfl (Nat.le_of_ble_eq_true rfl) dX2_remember_23 (fun H locs hP hD hS => ?_)
    have hP : va_P E.1 vwCl ([hiC E b hs 2 ct, stC E (hs 0) (hg 0), stC E (hs 1) g, stC E (hs 2) (hg 2), stC E (hs 3) (hg 3), stC E (hs 4) (hg 4), stC E (hs 5) (hg 5), stC E (hs 6) (hg 6), stC E (hs 7) (hg 7), stC E a g] : List va_W).flatten H := hP
    have hD : va_D A ([hiC E b hs 2 ct, stC E (hs 0) (hg 0), stC E (hs 1) g, stC E (hs 2) (hg 2), stC E (hs 3) (hg 3), stC E (hs 4) (hg 4), stC E (hs 5) (hg 5), stC E (hs 6) (hg 6), stC E (hs 7) (hg 7), stC E a g] : List va_W).flatten := hD
    refine lv_aload_n hx hb dX2_remember_26 rfl (lv_at hl 0 rfl) ?_
    refine lv_aload_n hx hb dX2_remember_27 rfl (lv_at hl 0 rfl) ?_
    refine va_get (D := E.1) (ci := 6) (v := .int (nI ct)) (C := RX2) (T := TX2) (N := 3) hx hb hts inX2 hown hK hP 0 rfl rfl 2 (by decide) (hts _ q150) (fun _ h9 => h9) rfl dX2_remember_28 ?_
    refine lv_iconst (v := nI 1) hx hb dX2_remember_31 (by decide) ?_
    refine nv_iadd hx hb dX2_remember_32 ?_
    refine lv_bipush (v := nI 8) hx hb dX2_remember_33 (by decide) ?_
    refine va_mmin hx hb (hml.trans hl.1.symm) hown (hts _ q617) (hts _ q502) (hts _ q39) (hts _ q503) (Nat.le_of_ble_eq_true rfl) (Nat.le_of_ble_eq_true rfl) (Nat.le_of_ble_eq_true rfl) (Nat.le_of_ble_eq_true rfl) dX2_remember_35 ?_
    refine tp_i (nI_mn (a := ct + 1) (b := 8) (by omega) (by omega)) ?_
    refine va_put (D := E.1) (ci := 6) (v := .int (nI (if 8 < ct + 1 then 8 else ct + 1))) (ty := .int) (C := RX2) (T := TX2) (N := 3) hx hb hts inX2 tyX2 tyX2_ok nmX2 hown hK hP hD hS 0 rfl rfl 2 (by decide) (hts _ q150) (fun _ h9 => h9) rfl (by decide +kernel) rfl rfl (Nat.le_of_ble_eq_true rfl) dX2_remember_38 (fun H locs hP hD hS => ?_)
    have hP : va_P E.1 vwCl ([hiC E b hs 2 (if 8 < ct + 1 then 8 else ct + 1), stC E (hs 0) (hg 0), stC E (hs 1) g, stC E (hs 2) (hg 2), stC E (hs 3) (hg 3), stC E (hs 4) (hg 4), stC E (hs 5) (hg 5), stC E (hs 6) (hg 6), stC E (hs 7) (hg 7), stC E a g] : List va_W).flatten H := hP
    have hD : va_D A ([hiC E b hs 2 (if 8 < ct + 1 then 8 else ct + 1), stC E (hs 0) (hg 0), stC E (hs 1) g, stC E (hs 2) (hg 2), stC E (hs 3) (hg 3), stC E (hs 4) (hg 4), stC E (hs 5) (hg 5), stC E (hs 6) (hg 6), stC E (hs 7) (hg 7), stC E a g] : List va_W).flatten := hD
    have hP : va_P E.1 vwCl ([hhC E b hs (upa hg 1 g) ((1 + 1) % 8) (if 8 < ct + 1 then 8 else ct + 1), stC E a g] : List va_W).flatten H := by rw [hh_flat]; exact hP
    have hD : va_D A ([hhC E b hs (upa hg 1 g) ((1 + 1) % 8) (if 8 < ct + 1 then 8 else ct + 1), stC E a g] : List va_W).flatten := by rw [hh_flat]; exact hD
    exact hret _ _ () _ _ hP hD hS trivial dX2_remember_41
  · skip
    have hP : va_P E.1 vwCl ([hiC E b hs 2 ct, stC E (hs 0) (hg 0), stC E (hs 1) (hg 1), stC E (hs 2) (hg 2), stC E (hs 3) (hg 3), stC E (hs 4) (hg 4), stC E (hs 5) (hg 5), stC E (hs 6) (hg 6), stC E (hs 7) (hg 7), stC E a g] : List va_W).flatten s.heap := by rw [← hh_flat]; exact hP
    have hD : va_D A ([hiC E b hs 2 ct, stC E (hs 0) (hg 0), stC E (hs 1) (hg 1), stC E (hs 2) (hg 2), stC E (hs 3) (hg 3), stC E (hs 4) (hg 4), stC E (hs 5) (hg 5), stC E (hs 6) (hg 6), stC E (hs 7) (hg 7), stC E a g] : List va_W).flatten := by rw [← hh_flat]; exact hD
    refine lv_aload_n hx hb dX2_remember_0 rfl (lv_at hl 0 rfl) ?_
    refine va_get (D := E.1) (ci := 6) (v := .ref (b 1)) (C := RX2) (T := TX2) (N := 3) hx hb hts inX2 hown hK hP 0 rfl rfl 0 (by decide) (hts _ q148) (fun _ h9 => h9) rfl dX2_remember_1 ?_
    refine lv_aload_n hx hb dX2_remember_4 rfl (lv_at hl 0 rfl) ?_
    refine va_get (D := E.1) (ci := 6) (v := .int (nI 2)) (C := RX2) (T := TX2) (N := 3) hx hb hts inX2 hown hK hP 0 rfl rfl 1 (by decide) (hts _ q149) (fun _ h9 => h9) rfl dX2_remember_5 ?_
    refine nv_aald (f := fun j => hs j 0) (i := 2) (n := 8) hx hb hK hP 1 3 rfl rfl (by omega) (by decide) dX2_remember_8 ?_
    refine lv_aload_n hx hb dX2_remember_9 rfl (lv_at hl 1 rfl) ?_
    refine run_v (S := Unit) (run_V (As := [.ref (a 0)]) (rest := []) (bs := [hiC E b hs 2 ct, stC E (hs 0) (hg 0), stC E (hs 1) (hg 1), stC E (hs 2) (hg 2), stC E (hs 3) (hg 3), stC E (hs 4) (hg 4), stC E (hs 5) (hg 5), stC E (hs 6) (hg 6), stC E (hs 7) (hg 7), stC E a g]) (cb := [stC E (hs 2) (hg 2), stC E a g]) hx hb hml hown hts hK hZ hA (c_X4_copyFrom l E _ (hs 2) (hg 2) a g) l_X2_23 rfl ⟨⟨rfl, rfl⟩, Nat.le_of_ble_eq_true rfl, Nat.le_of_ble_eq_true rfl⟩ 8 rfl [3, 9] rfl (by decide) rfl hP hD hS hl.1 rfl (Nat.le_of_ble_eq_true rfl) dX2_remember_10 ⟨Nat.zero_le _, Nat.zero_le _⟩) hA hP hD hS (isC := [3, 9]) rfl [0, 1, 2, 4, 5, 6, 7, 8] [0, 1, 2, 8, 3, 4, 5, 6, 7, 9] (br := [hiC E b hs 2 ct, stC E (hs 0) (hg 0), stC E (hs 1) (hg 1), stC E (hs 3) (hg 3), stC E (hs 4) (hg 4), stC E (hs 5) (hg 5), stC E (hs 6) (hg 6), stC E (hs 7) (hg 7)]) (bs2 := fun _ => [hiC E b hs 2 ct, stC E (hs 0) (hg 0), stC E (hs 1) (hg 1), stC E (hs 2) g, stC E (hs 3) (hg 3), stC E (hs 4) (hg 4), stC E (hs 5) (hg 5), stC E (hs 6) (hg 6), stC E (hs 7) (hg 7), stC E a g]) rfl (by decide) (fun _ => rfl) (by decide) (fun u H locs hw hP hD hS => ?_)
    refine lv_aload_n hx hb dX2_remember_13 rfl (lv_at hl 0 rfl) ?_
    refine lv_aload_n hx hb dX2_remember_14 rfl (lv_at hl 0 rfl) ?_
    refine va_get (D := E.1) (ci := 6) (v := .int (nI 2)) (C := RX2) (T := TX2) (N := 3) hx hb hts inX2 hown hK hP 0 rfl rfl 1 (by decide) (hts _ q149) (fun _ h9 => h9) rfl dX2_remember_15 ?_
    refine lv_iconst (v := nI 1) hx hb dX2_remember_18 (by decide) ?_
    refine nv_iadd hx hb dX2_remember_19 ?_
    refine lv_bipush (v := nI 8) hx hb dX2_remember_20 (by decide) ?_
    refine nv_irem hx hb (by omega) (by omega) (by omega) dX2_remember_22 ?_
    refine tp_i (show nI ((2 + 1) % 8) = nI 3 from rfl) ?_
    refine va_put (D := E.1) (ci := 6) (v := .int (nI 3)) (ty := .int) (C := RX2) (T := TX2) (N := 3) hx hb hts inX2 tyX2 tyX2_ok nmX2 hown hK hP hD hS 0 rfl rfl 1 (by decide) (hts _ q149) (fun _ h9 => h9) rfl (by decide +kernel) rfl rfl (Nat.le_of_ble_eq_true rfl) dX2_remember_23 (fun H locs hP hD hS => ?_)
    have hP : va_P E.1 vwCl ([hiC E b hs 3 ct, stC E (hs 0) (hg 0), stC E (hs 1) (hg 1), stC E (hs 2) g, stC E (hs 3) (hg 3), stC E (hs 4) (hg 4), stC E (hs 5) (hg 5), stC E (hs 6) (hg 6), stC E (hs 7) (hg 7), stC E a g] : List va_W).flatten H := hP
    have hD : va_D A ([hiC E b hs 3 ct, stC E (hs 0) (hg 0), stC E (hs 1) (hg 1), stC E (hs 2) g, stC E (hs 3) (hg 3), stC E (hs 4) (hg 4), stC E (hs 5) (hg 5), stC E (hs 6) (hg 6), stC E (hs 7) (hg 7), stC E a g] : List va_W).flatten := hD
    refine lv_aload_n hx hb dX2_remember_26 rfl (lv_at hl 0 rfl) ?_
    refine lv_aload_n hx hb dX2_remember_27 rfl (lv_at hl 0 rfl) ?_
    refine va_get (D := E.1) (ci := 6) (v := .int (nI ct)) (C := RX2) (T := TX2) (N := 3) hx hb hts inX2 hown hK hP 0 rfl rfl 2 (by decide) (hts _ q150) (fun _ h9 => h9) rfl dX2_remember_28 ?_
    refine lv_iconst (v := nI 1) hx hb dX2_remember_31 (by decide) ?_
    refine nv_iadd hx hb dX2_remember_32 ?_
    refine lv_bipush (v := nI 8) hx hb dX2_remember_33 (by decide) ?_
    refine va_mmin hx hb (hml.trans hl.1.symm) hown (hts _ q617) (hts _ q502) (hts _ q39) (hts _ q503) (Nat.le_of_ble_eq_true rfl) (Nat.le_of_ble_eq_true rfl) (Nat.le_of_ble_eq_true rfl) (Nat.le_of_ble_eq_true rfl) dX2_remember_35 ?_
    refine tp_i (nI_mn (a := ct + 1) (b := 8) (by omega) (by omega)) ?_
    refine va_put (D := E.1) (ci := 6) (v := .int (nI (if 8 < ct + 1 then 8 else ct + 1))) (ty := .int) (C := RX2) (T := TX2) (N := 3) hx hb hts inX2 tyX2 tyX2_ok nmX2 hown hK hP hD hS 0 rfl rfl 2 (by decide) (hts _ q150) (fun _ h9 => h9) rfl (by decide +kernel) rfl rfl (Nat.le_of_ble_eq_true rfl) dX2_remember_38 (fun H locs hP hD hS => ?_)
    have hP : va_P E.1 vwCl ([hiC E b hs 3 (if 8 < ct + 1 then 8 else ct + 1), stC E (hs 0) (hg 0), stC E (hs 1) (hg 1), stC E (hs 2) g, stC E (hs 3) (hg 3), stC E (hs 4) (hg 4), stC E (hs 5) (hg 5), stC E (hs 6) (hg 6), stC E (hs 7) (hg 7), stC E a g] : List va_W).flatten H := hP
    have hD : va_D A ([hiC E b hs 3 (if 8 < ct + 1 then 8 else ct + 1), stC E (hs 0) (hg 0), stC E (hs 1) (hg 1), stC E (hs 2) g, stC E (hs 3) (hg 3), stC E (hs 4) (hg 4), stC E (hs 5) (hg 5), stC E (hs 6) (hg 6), stC E (hs 7) (hg 7), stC E a g] : List va_W).flatten := hD
    have hP : va_P E.1 vwCl ([hhC E b hs (upa hg 2 g) ((2 + 1) % 8) (if 8 < ct + 1 then 8 else ct + 1), stC E a g] : List va_W).flatten H := by rw [hh_flat]; exact hP
    have hD : va_D A ([hhC E b hs (upa hg 2 g) ((2 + 1) % 8) (if 8 < ct + 1 then 8 else ct + 1), stC E a g] : List va_W).flatten := by rw [hh_flat]; exact hD
    exact hret _ _ () _ _ hP hD hS trivial dX2_remember_41
  · skip
    have hP : va_P E.1 vwCl ([hiC E b hs 3 ct, stC E (hs 0) (hg 0), stC E (hs 1) (hg 1), stC E (hs 2) (hg 2), stC E (hs 3) (hg 3), stC E (hs 4) (hg 4), stC E (hs 5) (hg 5), stC E (hs 6) (hg 6), stC E (hs 7) (hg 7), stC E a g] : List va_W).flatten s.heap := by rw [← hh_flat]; exact hP
    have hD : va_D A ([hiC E b hs 3 ct, stC E (hs 0) (hg 0), stC E (hs 1) (hg 1), stC E (hs 2) (hg 2), stC E (hs 3) (hg 3), stC E (hs 4) (hg 4), stC E (hs 5) (hg 5), stC E (hs 6) (hg 6), stC E (hs 7) (hg 7), stC E a g] : List va_W).flatten := by rw [← hh_flat]; exact hD
    refine lv_aload_n hx hb dX2_remember_0 rfl (lv_at hl 0 rfl) ?_
    refine va_get (D := E.1) (ci := 6) (v := .ref (b 1)) (C := RX2) (T := TX2) (N := 3) hx hb hts inX2 hown hK hP 0 rfl rfl 0 (by decide) (hts _ q148) (fun _ h9 => h9) rfl dX2_remember_1 ?_
    refine lv_aload_n hx hb dX2_remember_4 rfl (lv_at hl 0 rfl) ?_
    refine va_get (D := E.1) (ci := 6) (v := .int (nI 3)) (C := RX2) (T := TX2) (N := 3) hx hb hts inX2 hown hK hP 0 rfl rfl 1 (by decide) (hts _ q149) (fun _ h9 => h9) rfl dX2_remember_5 ?_
    refine nv_aald (f := fun j => hs j 0) (i := 3) (n := 8) hx hb hK hP 1 3 rfl rfl (by omega) (by decide) dX2_remember_8 ?_
    refine lv_aload_n hx hb dX2_remember_9 rfl (lv_at hl 1 rfl) ?_
    refine run_v (S := Unit) (run_V (As := [.ref (a 0)]) (rest := []) (bs := [hiC E b hs 3 ct, stC E (hs 0) (hg 0), stC E (hs 1) (hg 1), stC E (hs 2) (hg 2), stC E (hs 3) (hg 3), stC E (hs 4) (hg 4), stC E (hs 5) (hg 5), stC E (hs 6) (hg 6), stC E (hs 7) (hg 7), stC E a g]) (cb := [stC E (hs 3) (hg 3), stC E a g]) hx hb hml hown hts hK hZ hA (c_X4_copyFrom l E _ (hs 3) (hg 3) a g) l_X2_23 rfl ⟨⟨rfl, rfl⟩, Nat.le_of_ble_eq_true rfl, Nat.le_of_ble_eq_true rfl⟩ 8 rfl [4, 9] rfl (by decide) rfl hP hD hS hl.1 rfl (Nat.le_of_ble_eq_true rfl) dX2_remember_10 ⟨Nat.zero_le _, Nat.zero_le _⟩) hA hP hD hS (isC := [4, 9]) rfl [0, 1, 2, 3, 5, 6, 7, 8] [0, 1, 2, 3, 8, 4, 5, 6, 7, 9] (br := [hiC E b hs 3 ct, stC E (hs 0) (hg 0), stC E (hs 1) (hg 1), stC E (hs 2) (hg 2), stC E (hs 4) (hg 4), stC E (hs 5) (hg 5), stC E (hs 6) (hg 6), stC E (hs 7) (hg 7)]) (bs2 := fun _ => [hiC E b hs 3 ct, stC E (hs 0) (hg 0), stC E (hs 1) (hg 1), stC E (hs 2) (hg 2), stC E (hs 3) g, stC E (hs 4) (hg 4), stC E (hs 5) (hg 5), stC E (hs 6) (hg 6), stC E (hs 7) (hg 7), stC E a g]) rfl (by decide) (fun _ => rfl) (by decide) (fun u H locs hw hP hD hS => ?_)
    refine lv_aload_n hx hb dX2_remember_13 rfl (lv_at hl 0 rfl) ?_
    refine lv_aload_n hx hb dX2_remember_14 rfl (lv_at hl 0 rfl) ?_
    refine va_get (D := E.1) (ci := 6) (v := .int (nI 3)) (C := RX2) (T := TX2) (N := 3) hx hb hts inX2 hown hK hP 0 rfl rfl 1 (by decide) (hts _ q149) (fun _ h9 => h9) rfl dX2_remember_15 ?_
    refine lv_iconst (v := nI 1) hx hb dX2_remember_18 (by decide) ?_
    refine nv_iadd hx hb dX2_remember_19 ?_
    refine lv_bipush (v := nI 8) hx hb dX2_remember_20 (by decide) ?_
    refine nv_irem hx hb (by omega) (by omega) (by omega) dX2_remember_22 ?_
    refine tp_i (show nI ((3 + 1) % 8) = nI 4 from rfl) ?_
    refine va_put (D := E.1) (ci := 6) (v := .int (nI 4)) (ty := .int) (C := RX2) (T := TX2) (N := 3) hx hb hts inX2 tyX2 tyX2_ok nmX2 hown hK hP hD hS 0 rfl rfl 1 (by decide) (hts _ q149) (fun _ h9 => h9) rfl (by decide +kernel) rfl rfl (Nat.le_of_ble_eq_true rfl) dX2_remember_23 (fun H locs hP hD hS => ?_)
    have hP : va_P E.1 vwCl ([hiC E b hs 4 ct, stC E (hs 0) (hg 0), stC E (hs 1) (hg 1), stC E (hs 2) (hg 2), stC E (hs 3) g, stC E (hs 4) (hg 4), stC E (hs 5) (hg 5), stC E (hs 6) (hg 6), stC E (hs 7) (hg 7), stC E a g] : List va_W).flatten H := hP
    have hD : va_D A ([hiC E b hs 4 ct, stC E (hs 0) (hg 0), stC E (hs 1) (hg 1), stC E (hs 2) (hg 2), stC E (hs 3) g, stC E (hs 4) (hg 4), stC E (hs 5) (hg 5), stC E (hs 6) (hg 6), stC E (hs 7) (hg 7), stC E a g] : List va_W).flatten := hD
    refine lv_aload_n hx hb dX2_remember_26 rfl (lv_at hl 0 rfl) ?_
    refine lv_aload_n hx hb dX2_remember_27 rfl (lv_at hl 0 rfl) ?_
    refine va_get (D := E.1) (ci := 6) (v := .int (nI ct)) (C := RX2) (T := TX2) (N := 3) hx hb hts inX2 hown hK hP 0 rfl rfl 2 (by decide) (hts _ q150) (fun _ h9 => h9) rfl dX2_remember_28 ?_
    refine lv_iconst (v := nI 1) hx hb dX2_remember_31 (by decide) ?_
    refine nv_iadd hx hb dX2_remember_32 ?_
    refine lv_bipush (v := nI 8) hx hb dX2_remember_33 (by decide) ?_
    refine va_mmin hx hb (hml.trans hl.1.symm) hown (hts _ q617) (hts _ q502) (hts _ q39) (hts _ q503) (Nat.le_of_ble_eq_true rfl) (Nat.le_of_ble_eq_true rfl) (Nat.le_of_ble_eq_true rfl) (Nat.le_of_ble_eq_true rfl) dX2_remember_35 ?_
    refine tp_i (nI_mn (a := ct + 1) (b := 8) (by omega) (by omega)) ?_
    refine va_put (D := E.1) (ci := 6) (v := .int (nI (if 8 < ct + 1 then 8 else ct + 1))) (ty := .int) (C := RX2) (T := TX2) (N := 3) hx hb hts inX2 tyX2 tyX2_ok nmX2 hown hK hP hD hS 0 rfl rfl 2 (by decide) (hts _ q150) (fun _ h9 => h9) rfl (by decide +kernel) rfl rfl (Nat.le_of_ble_eq_true rfl) dX2_remember_38 (fun H locs hP hD hS => ?_)
    have hP : va_P E.1 vwCl ([hiC E b hs 4 (if 8 < ct + 1 then 8 else ct + 1), stC E (hs 0) (hg 0), stC E (hs 1) (hg 1), stC E (hs 2) (hg 2), stC E (hs 3) g, stC E (hs 4) (hg 4), stC E (hs 5) (hg 5), stC E (hs 6) (hg 6), stC E (hs 7) (hg 7), stC E a g] : List va_W).flatten H := hP
    have hD : va_D A ([hiC E b hs 4 (if 8 < ct + 1 then 8 else ct + 1), stC E (hs 0) (hg 0), stC E (hs 1) (hg 1), stC E (hs 2) (hg 2), stC E (hs 3) g, stC E (hs 4) (hg 4), stC E (hs 5) (hg 5), stC E (hs 6) (hg 6), stC E (hs 7) (hg 7), stC E a g] : List va_W).flatten := hD
    have hP : va_P E.1 vwCl ([hhC E b hs (upa hg 3 g) ((3 + 1) % 8) (if 8 < ct + 1 then 8 else ct + 1), stC E a g] : List va_W).flatten H := by rw [hh_flat]; exact hP
    have hD : va_D A ([hhC E b hs (upa hg 3 g) ((3 + 1) % 8) (if 8 < ct + 1 then 8 else ct + 1), stC E a g] : List va_W).flatten := by rw [hh_flat]; exact hD
    exact hret _ _ () _ _ hP hD hS trivial dX2_remember_41
  · skip
    have hP : va_P E.1 vwCl ([hiC E b hs 4 ct, stC E (hs 0) (hg 0), stC E (hs 1) (hg 1), stC E (hs 2) (hg 2), stC E (hs 3) (hg 3), stC E (hs 4) (hg 4), stC E (hs 5) (hg 5), stC E (hs 6) (hg 6), stC E (hs 7) (hg 7), stC E a g] : List va_W).flatten s.heap := by rw [← hh_flat]; exact hP
    have hD : va_D A ([hiC E b hs 4 ct, stC E (hs 0) (hg 0), stC E (hs 1) (hg 1), stC E (hs 2) (hg 2), stC E (hs 3) (hg 3), stC E (hs 4) (hg 4), stC E (hs 5) (hg 5), stC E (hs 6) (hg 6), stC E (hs 7) (hg 7), stC E a g] : List va_W).flatten := by rw [← hh_flat]; exact hD
    refine lv_aload_n hx hb dX2_remember_0 rfl (lv_at hl 0 rfl) ?_
    refine va_get (D := E.1) (ci := 6) (v := .ref (b 1)) (C := RX2) (T := TX2) (N := 3) hx hb hts inX2 hown hK hP 0 rfl rfl 0 (by decide) (hts _ q148) (fun _ h9 => h9) rfl dX2_remember_1 ?_
    refine lv_aload_n hx hb dX2_remember_4 rfl (lv_at hl 0 rfl) ?_
    refine va_get (D := E.1) (ci := 6) (v := .int (nI 4)) (C := RX2) (T := TX2) (N := 3) hx hb hts inX2 hown hK hP 0 rfl rfl 1 (by decide) (hts _ q149) (fun _ h9 => h9) rfl dX2_remember_5 ?_
    refine nv_aald (f := fun j => hs j 0) (i := 4) (n := 8) hx hb hK hP 1 3 rfl rfl (by omega) (by decide) dX2_remember_8 ?_
    refine lv_aload_n hx hb dX2_remember_9 rfl (lv_at hl 1 rfl) ?_
    refine run_v (S := Unit) (run_V (As := [.ref (a 0)]) (rest := []) (bs := [hiC E b hs 4 ct, stC E (hs 0) (hg 0), stC E (hs 1) (hg 1), stC E (hs 2) (hg 2), stC E (hs 3) (hg 3), stC E (hs 4) (hg 4), stC E (hs 5) (hg 5), stC E (hs 6) (hg 6), stC E (hs 7) (hg 7), stC E a g]) (cb := [stC E (hs 4) (hg 4), stC E a g]) hx hb hml hown hts hK hZ hA (c_X4_copyFrom l E _ (hs 4) (hg 4) a g) l_X2_23 rfl ⟨⟨rfl, rfl⟩, Nat.le_of_ble_eq_true rfl, Nat.le_of_ble_eq_true rfl⟩ 8 rfl [5, 9] rfl (by decide) rfl hP hD hS hl.1 rfl (Nat.le_of_ble_eq_true rfl) dX2_remember_10 ⟨Nat.zero_le _, Nat.zero_le _⟩) hA hP hD hS (isC := [5, 9]) rfl [0, 1, 2, 3, 4, 6, 7, 8] [0, 1, 2, 3, 4, 8, 5, 6, 7, 9] (br := [hiC E b hs 4 ct, stC E (hs 0) (hg 0), stC E (hs 1) (hg 1), stC E (hs 2) (hg 2), stC E (hs 3) (hg 3), stC E (hs 5) (hg 5), stC E (hs 6) (hg 6), stC E (hs 7) (hg 7)]) (bs2 := fun _ => [hiC E b hs 4 ct, stC E (hs 0) (hg 0), stC E (hs 1) (hg 1), stC E (hs 2) (hg 2), stC E (hs 3) (hg 3), stC E (hs 4) g, stC E (hs 5) (hg 5), stC E (hs 6) (hg 6), stC E (hs 7) (hg 7), stC E a g]) rfl (by decide) (fun _ => rfl) (by decide) (fun u H locs hw hP hD hS => ?_)
    refine lv_aload_n hx hb dX2_remember_13 rfl (lv_at hl 0 rfl) ?_
    refine lv_aload_n hx hb dX2_remember_14 rfl (lv_at hl 0 rfl) ?_
    refine va_get (D := E.1) (ci := 6) (v := .int (nI 4)) (C := RX2) (T := TX2) (N := 3) hx hb hts inX2 hown hK hP 0 rfl rfl 1 (by decide) (hts _ q149) (fun _ h9 => h9) rfl dX2_remember_15 ?_
    refine lv_iconst (v := nI 1) hx hb dX2_remember_18 (by decide) ?_
    refine nv_iadd hx hb dX2_remember_19 ?_
    refine lv_bipush (v := nI 8) hx hb dX2_remember_20 (by decide) ?_
    refine nv_irem hx hb (by omega) (by omega) (by omega) dX2_remember_22 ?_
    refine tp_i (show nI ((4 + 1) % 8) = nI 5 from rfl) ?_
    refine va_put (D := E.1) (ci := 6) (v := .int (nI 5)) (ty := .int) (C := RX2) (T := TX2) (N := 3) hx hb hts inX2 tyX2 tyX2_ok nmX2 hown hK hP hD hS 0 rfl rfl 1 (by decide) (hts _ q149) (fun _ h9 => h9) rfl (by decide +kernel) rfl rfl (Nat.le_of_ble_eq_true rfl) dX2_remember_23 (fun H locs hP hD hS => ?_)
    have hP : va_P E.1 vwCl ([hiC E b hs 5 ct, stC E (hs 0) (hg 0), stC E (hs 1) (hg 1), stC E (hs 2) (hg 2), stC E (hs 3) (hg 3), stC E (hs 4) g, stC E (hs 5) (hg 5), stC E (hs 6) (hg 6), stC E (hs 7) (hg 7), stC E a g] : List va_W).flatten H := hP
    have hD : va_D A ([hiC E b hs 5 ct, stC E (hs 0) (hg 0), stC E (hs 1) (hg 1), stC E (hs 2) (hg 2), stC E (hs 3) (hg 3), stC E (hs 4) g, stC E (hs 5) (hg 5), stC E (hs 6) (hg 6), stC E (hs 7) (hg 7), stC E a g] : List va_W).flatten := hD
    refine lv_aload_n hx hb dX2_remember_26 rfl (lv_at hl 0 rfl) ?_
    refine lv_aload_n hx hb dX2_remember_27 rfl (lv_at hl 0 rfl) ?_
    refine va_get (D := E.1) (ci := 6) (v := .int (nI ct)) (C := RX2) (T := TX2) (N := 3) hx hb hts inX2 hown hK hP 0 rfl rfl 2 (by decide) (hts _ q150) (fun _ h9 => h9) rfl dX2_remember_28 ?_
    refine lv_iconst (v := nI 1) hx hb dX2_remember_31 (by decide) ?_
    refine nv_iadd hx hb dX2_remember_32 ?_
    refine lv_bipush (v := nI 8) hx hb dX2_remember_33 (by decide) ?_
    refine va_mmin hx hb (hml.trans hl.1.symm) hown (hts _ q617) (hts _ q502) (hts _ q39) (hts _ q503) (Nat.le_of_ble_eq_true rfl) (Nat.le_of_ble_eq_true rfl) (Nat.le_of_ble_eq_true rfl) (Nat.le_of_ble_eq_true rfl) dX2_remember_35 ?_
    refine tp_i (nI_mn (a := ct + 1) (b := 8) (by omega) (by omega)) ?_
    refine va_put (D := E.1) (ci := 6) (v := .int (nI (if 8 < ct + 1 then 8 else ct + 1))) (ty := .int) (C := RX2) (T := TX2) (N := 3) hx hb hts inX2 tyX2 tyX2_ok nmX2 hown hK hP hD hS 0 rfl rfl 2 (by decide) (hts _ q150) (fun _ h9 => h9) rfl (by decide +kernel) rfl rfl (Nat.le_of_ble_eq_true rfl) dX2_remember_38 (fun H locs hP hD hS => ?_)
    have hP : va_P E.1 vwCl ([hiC E b hs 5 (if 8 < ct + 1 then 8 else ct + 1), stC E (hs 0) (hg 0), stC E (hs 1) (hg 1), stC E (hs 2) (hg 2), stC E (hs 3) (hg 3), stC E (hs 4) g, stC E (hs 5) (hg 5), stC E (hs 6) (hg 6), stC E (hs 7) (hg 7), stC E a g] : List va_W).flatten H := hP
    have hD : va_D A ([hiC E b hs 5 (if 8 < ct + 1 then 8 else ct + 1), stC E (hs 0) (hg 0), stC E (hs 1) (hg 1), stC E (hs 2) (hg 2), stC E (hs 3) (hg 3), stC E (hs 4) g, stC E (hs 5) (hg 5), stC E (hs 6) (hg 6), stC E (hs 7) (hg 7), stC E a g] : List va_W).flatten := hD
    have hP : va_P E.1 vwCl ([hhC E b hs (upa hg 4 g) ((4 + 1) % 8) (if 8 < ct + 1 then 8 else ct + 1), stC E a g] : List va_W).flatten H := by rw [hh_flat]; exact hP
    have hD : va_D A ([hhC E b hs (upa hg 4 g) ((4 + 1) % 8) (if 8 < ct + 1 then 8 else ct + 1), stC E a g] : List va_W).flatten := by rw [hh_flat]; exact hD
    exact hret _ _ () _ _ hP hD hS trivial dX2_remember_41
  · skip
    have hP : va_P E.1 vwCl ([hiC E b hs 5 ct, stC E (hs 0) (hg 0), stC E (hs 1) (hg 1), stC E (hs 2) (hg 2), stC E (hs 3) (hg 3), stC E (hs 4) (hg 4), stC E (hs 5) (hg 5), stC E (hs 6) (hg 6), stC E (hs 7) (hg 7), stC E a g] : List va_W).flatten s.heap := by rw [← hh_flat]; exact hP
    have hD : va_D A ([hiC E b hs 5 ct, stC E (hs 0) (hg 0), stC E (hs 1) (hg 1), stC E (hs 2) (hg 2), stC E (hs 3) (hg 3), stC E (hs 4) (hg 4), stC E (hs 5) (hg 5), stC E (hs 6) (hg 6), stC E (hs 7) (hg 7), stC E a g] : List va_W).flatten := by rw [← hh_flat]; exact hD
    refine lv_aload_n hx hb dX2_remember_0 rfl (lv_at hl 0 rfl) ?_
    refine va_get (D := E.1) (ci := 6) (v := .ref (b 1)) (C := RX2) (T := TX2) (N := 3) hx hb hts inX2 hown hK hP 0 rfl rfl 0 (by decide) (hts _ q148) (fun _ h9 => h9) rfl dX2_remember_1 ?_
    refine lv_aload_n hx hb dX2_remember_4 rfl (lv_at hl 0 rfl) ?_
    refine va_get (D := E.1) (ci := 6) (v := .int (nI 5)) (C := RX2) (T := TX2) (N := 3) hx hb hts inX2 hown hK hP 0 rfl rfl 1 (by decide) (hts _ q149) (fun _ h9 => h9) rfl dX2_remember_5 ?_
    refine nv_aald (f := fun j => hs j 0) (i := 5) (n := 8) hx hb hK hP 1 3 rfl rfl (by omega) (by decide) dX2_remember_8 ?_
    refine lv_aload_n hx hb dX2_remember_9 rfl (lv_at hl 1 rfl) ?_
    refine run_v (S := Unit) (run_V (As := [.ref (a 0)]) (rest := []) (bs := [hiC E b hs 5 ct, stC E (hs 0) (hg 0), stC E (hs 1) (hg 1), stC E (hs 2) (hg 2), stC E (hs 3) (hg 3), stC E (hs 4) (hg 4), stC E (hs 5) (hg 5), stC E (hs 6) (hg 6), stC E (hs 7) (hg 7), stC E a g]) (cb := [stC E (hs 5) (hg 5), stC E a g]) hx hb hml hown hts hK hZ hA (c_X4_copyFrom l E _ (hs 5) (hg 5) a g) l_X2_23 rfl ⟨⟨rfl, rfl⟩, Nat.le_of_ble_eq_true rfl, Nat.le_of_ble_eq_true rfl⟩ 8 rfl [6, 9] rfl (by decide) rfl hP hD hS hl.1 rfl (Nat.le_of_ble_eq_true rfl) dX2_remember_10 ⟨Nat.zero_le _, Nat.zero_le _⟩) hA hP hD hS (isC := [6, 9]) rfl [0, 1, 2, 3, 4, 5, 7, 8] [0, 1, 2, 3, 4, 5, 8, 6, 7, 9] (br := [hiC E b hs 5 ct, stC E (hs 0) (hg 0), stC E (hs 1) (hg 1), stC E (hs 2) (hg 2), stC E (hs 3) (hg 3), stC E (hs 4) (hg 4), stC E (hs 6) (hg 6), stC E (hs 7) (hg 7)]) (bs2 := fun _ => [hiC E b hs 5 ct, stC E (hs 0) (hg 0), stC E (hs 1) (hg 1), stC E (hs 2) (hg 2), stC E (hs 3) (hg 3), stC E (hs 4) (hg 4), stC E (hs 5) g, stC E (hs 6) (hg 6), stC E (hs 7) (hg 7), stC E a g]) rfl (by decide) (fun _ => rfl) (by decide) (fun u H locs hw hP hD hS => ?_)
    refine lv_aload_n hx hb dX2_remember_13 rfl (lv_at hl 0 rfl) ?_
    refine lv_aload_n hx hb dX2_remember_14 rfl (lv_at hl 0 rfl) ?_
    refine va_get (D := E.1) (ci := 6) (v := .int (nI 5)) (C := RX2) (T := TX2) (N := 3) hx hb hts inX2 hown hK hP 0 rfl rfl 1 (by decide) (hts _ q149) (fun _ h9 => h9) rfl dX2_remember_15 ?_
    refine lv_iconst (v := nI 1) hx hb dX2_remember_18 (by decide) ?_
    refine nv_iadd hx hb dX2_remember_19 ?_
    refine lv_bipush (v := nI 8) hx hb dX2_remember_20 (by decide) ?_
    refine nv_irem hx hb (by omega) (by omega) (by omega) dX2_remember_22 ?_
    refine tp_i (show nI ((5 + 1) % 8) = nI 6 from rfl) ?_
    refine va_put (D := E.1) (ci := 6) (v := .int (nI 6)) (ty := .int) (C := RX2) (T := TX2) (N := 3) hx hb hts inX2 tyX2 tyX2_ok nmX2 hown hK hP hD hS 0 rfl rfl 1 (by decide) (hts _ q149) (fun _ h9 => h9) rfl (by decide +kernel) rfl rfl (Nat.le_of_ble_eq_true rfl) dX2_remember_23 (fun H locs hP hD hS => ?_)
    have hP : va_P E.1 vwCl ([hiC E b hs 6 ct, stC E (hs 0) (hg 0), stC E (hs 1) (hg 1), stC E (hs 2) (hg 2), stC E (hs 3) (hg 3), stC E (hs 4) (hg 4), stC E (hs 5) g, stC E (hs 6) (hg 6), stC E (hs 7) (hg 7), stC E a g] : List va_W).flatten H := hP
    have hD : va_D A ([hiC E b hs 6 ct, stC E (hs 0) (hg 0), stC E (hs 1) (hg 1), stC E (hs 2) (hg 2), stC E (hs 3) (hg 3), stC E (hs 4) (hg 4), stC E (hs 5) g, stC E (hs 6) (hg 6), stC E (hs 7) (hg 7), stC E a g] : List va_W).flatten := hD
    refine lv_aload_n hx hb dX2_remember_26 rfl (lv_at hl 0 rfl) ?_
    refine lv_aload_n hx hb dX2_remember_27 rfl (lv_at hl 0 rfl) ?_
    refine va_get (D := E.1) (ci := 6) (v := .int (nI ct)) (C := RX2) (T := TX2) (N := 3) hx hb hts inX2 hown hK hP 0 rfl rfl 2 (by decide) (hts _ q150) (fun _ h9 => h9) rfl dX2_remember_28 ?_
    refine lv_iconst (v := nI 1) hx hb dX2_remember_31 (by decide) ?_
    refine nv_iadd hx hb dX2_remember_32 ?_
    refine lv_bipush (v := nI 8) hx hb dX2_remember_33 (by decide) ?_
    refine va_mmin hx hb (hml.trans hl.1.symm) hown (hts _ q617) (hts _ q502) (hts _ q39) (hts _ q503) (Nat.le_of_ble_eq_true rfl) (Nat.le_of_ble_eq_true rfl) (Nat.le_of_ble_eq_true rfl) (Nat.le_of_ble_eq_true rfl) dX2_remember_35 ?_
    refine tp_i (nI_mn (a := ct + 1) (b := 8) (by omega) (by omega)) ?_
    refine va_put (D := E.1) (ci := 6) (v := .int (nI (if 8 < ct + 1 then 8 else ct + 1))) (ty := .int) (C := RX2) (T := TX2) (N := 3) hx hb hts inX2 tyX2 tyX2_ok nmX2 hown hK hP hD hS 0 rfl rfl 2 (by decide) (hts _ q150) (fun _ h9 => h9) rfl (by decide +kernel) rfl rfl (Nat.le_of_ble_eq_true rfl) dX2_remember_38 (fun H locs hP hD hS => ?_)
    have hP : va_P E.1 vwCl ([hiC E b hs 6 (if 8 < ct + 1 then 8 else ct + 1), stC E (hs 0) (hg 0), stC E (hs 1) (hg 1), stC E (hs 2) (hg 2), stC E (hs 3) (hg 3), stC E (hs 4) (hg 4), stC E (hs 5) g, stC E (hs 6) (hg 6), stC E (hs 7) (hg 7), stC E a g] : List va_W).flatten H := hP
    have hD : va_D A ([hiC E b hs 6 (if 8 < ct + 1 then 8 else ct + 1), stC E (hs 0) (hg 0), stC E (hs 1) (hg 1), stC E (hs 2) (hg 2), stC E (hs 3) (hg 3), stC E (hs 4) (hg 4), stC E (hs 5) g, stC E (hs 6) (hg 6), stC E (hs 7) (hg 7), stC E a g] : List va_W).flatten := hD
    have hP : va_P E.1 vwCl ([hhC E b hs (upa hg 5 g) ((5 + 1) % 8) (if 8 < ct + 1 then 8 else ct + 1), stC E a g] : List va_W).flatten H := by rw [hh_flat]; exact hP
    have hD : va_D A ([hhC E b hs (upa hg 5 g) ((5 + 1) % 8) (if 8 < ct + 1 then 8 else ct + 1), stC E a g] : List va_W).flatten := by rw [hh_flat]; exact hD
    exact hret _ _ () _ _ hP hD hS trivial dX2_remember_41
  · skip
    have hP : va_P E.1 vwCl ([hiC E b hs 6 ct, stC E (hs 0) (hg 0), stC E (hs 1) (hg 1), stC E (hs 2) (hg 2), stC E (hs 3) (hg 3), stC E (hs 4) (hg 4), stC E (hs 5) (hg 5), stC E (hs 6) (hg 6), stC E (hs 7) (hg 7), stC E a g] : List va_W).flatten s.heap := by rw [← hh_flat]; exact hP
    have hD : va_D A ([hiC E b hs 6 ct, stC E (hs 0) (hg 0), stC E (hs 1) (hg 1), stC E (hs 2) (hg 2), stC E (hs 3) (hg 3), stC E (hs 4) (hg 4), stC E (hs 5) (hg 5), stC E (hs 6) (hg 6), stC E (hs 7) (hg 7), stC E a g] : List va_W).flatten := by rw [← hh_flat]; exact hD
    refine lv_aload_n hx hb dX2_remember_0 rfl (lv_at hl 0 rfl) ?_
    refine va_get (D := E.1) (ci := 6) (v := .ref (b 1)) (C := RX2) (T := TX2) (N := 3) hx hb hts inX2 hown hK hP 0 rfl rfl 0 (by decide) (hts _ q148) (fun _ h9 => h9) rfl dX2_remember_1 ?_
    refine lv_aload_n hx hb dX2_remember_4 rfl (lv_at hl 0 rfl) ?_
    refine va_get (D := E.1) (ci := 6) (v := .int (nI 6)) (C := RX2) (T := TX2) (N := 3) hx hb hts inX2 hown hK hP 0 rfl rfl 1 (by decide) (hts _ q149) (fun _ h9 => h9) rfl dX2_remember_5 ?_
    refine nv_aald (f := fun j => hs j 0) (i := 6) (n := 8) hx hb hK hP 1 3 rfl rfl (by omega) (by decide) dX2_remember_8 ?_
    refine lv_aload_n hx hb dX2_remember_9 rfl (lv_at hl 1 rfl) ?_
    refine run_v (S := Unit) (run_V (As := [.ref (a 0)]) (rest := []) (bs := [hiC E b hs 6 ct, stC E (hs 0) (hg 0), stC E (hs 1) (hg 1), stC E (hs 2) (hg 2), stC E (hs 3) (hg 3), stC E (hs 4) (hg 4), stC E (hs 5) (hg 5), stC E (hs 6) (hg 6), stC E (hs 7) (hg 7), stC E a g]) (cb := [stC E (hs 6) (hg 6), stC E a g]) hx hb hml hown hts hK hZ hA (c_X4_copyFrom l E _ (hs 6) (hg 6) a g) l_X2_23 rfl ⟨⟨rfl, rfl⟩, Nat.le_of_ble_eq_true rfl, Nat.le_of_ble_eq_true rfl⟩ 8 rfl [7, 9] rfl (by decide) rfl hP hD hS hl.1 rfl (Nat.le_of_ble_eq_true rfl) dX2_remember_10 ⟨Nat.zero_le _, Nat.zero_le _⟩) hA hP hD hS (isC := [7, 9]) rfl [0, 1, 2, 3, 4, 5, 6, 8] [0, 1, 2, 3, 4, 5, 6, 8, 7, 9] (br := [hiC E b hs 6 ct, stC E (hs 0) (hg 0), stC E (hs 1) (hg 1), stC E (hs 2) (hg 2), stC E (hs 3) (hg 3), stC E (hs 4) (hg 4), stC E (hs 5) (hg 5), stC E (hs 7) (hg 7)]) (bs2 := fun _ => [hiC E b hs 6 ct, stC E (hs 0) (hg 0), stC E (hs 1) (hg 1), stC E (hs 2) (hg 2), stC E (hs 3) (hg 3), stC E (hs 4) (hg 4), stC E (hs 5) (hg 5), stC E (hs 6) g, stC E (hs 7) (hg 7), stC E a g]) rfl (by decide) (fun _ => rfl) (by decide) (fun u H locs hw hP hD hS => ?_)
    refine lv_aload_n hx hb dX2_remember_13 rfl (lv_at hl 0 rfl) ?_
    refine lv_aload_n hx hb dX2_remember_14 rfl (lv_at hl 0 rfl) ?_
    refine va_get (D := E.1) (ci := 6) (v := .int (nI 6)) (C := RX2) (T := TX2) (N := 3) hx hb hts inX2 hown hK hP 0 rfl rfl 1 (by decide) (hts _ q149) (fun _ h9 => h9) rfl dX2_remember_15 ?_
    refine lv_iconst (v := nI 1) hx hb dX2_remember_18 (by decide) ?_
    refine nv_iadd hx hb dX2_remember_19 ?_
    refine lv_bipush (v := nI 8) hx hb dX2_remember_20 (by decide) ?_
    refine nv_irem hx hb (by omega) (by omega) (by omega) dX2_remember_22 ?_
    refine tp_i (show nI ((6 + 1) % 8) = nI 7 from rfl) ?_
    refine va_put (D := E.1) (ci := 6) (v := .int (nI 7)) (ty := .int) (C := RX2) (T := TX2) (N := 3) hx hb hts inX2 tyX2 tyX2_ok nmX2 hown hK hP hD hS 0 rfl rfl 1 (by decide) (hts _ q149) (fun _ h9 => h9) rfl (by decide +kernel) rfl rfl (Nat.le_of_ble_eq_true rfl) dX2_remember_23 (fun H locs hP hD hS => ?_)
    have hP : va_P E.1 vwCl ([hiC E b hs 7 ct, stC E (hs 0) (hg 0), stC E (hs 1) (hg 1), stC E (hs 2) (hg 2), stC E (hs 3) (hg 3), stC E (hs 4) (hg 4), stC E (hs 5) (hg 5), stC E (hs 6) g, stC E (hs 7) (hg 7), stC E a g] : List va_W).flatten H := hP
    have hD : va_D A ([hiC E b hs 7 ct, stC E (hs 0) (hg 0), stC E (hs 1) (hg 1), stC E (hs 2) (hg 2), stC E (hs 3) (hg 3), stC E (hs 4) (hg 4), stC E (hs 5) (hg 5), stC E (hs 6) g, stC E (hs 7) (hg 7), stC E a g] : List va_W).flatten := hD
    refine lv_aload_n hx hb dX2_remember_26 rfl (lv_at hl 0 rfl) ?_
    refine lv_aload_n hx hb dX2_remember_27 rfl (lv_at hl 0 rfl) ?_
    refine va_get (D := E.1) (ci := 6) (v := .int (nI ct)) (C := RX2) (T := TX2) (N := 3) hx hb hts inX2 hown hK hP 0 rfl rfl 2 (by decide) (hts _ q150) (fun _ h9 => h9) rfl dX2_remember_28 ?_
    refine lv_iconst (v := nI 1) hx hb dX2_remember_31 (by decide) ?_
    refine nv_iadd hx hb dX2_remember_32 ?_
    refine lv_bipush (v := nI 8) hx hb dX2_remember_33 (by decide) ?_
    refine va_mmin hx hb (hml.trans hl.1.symm) hown (hts _ q617) (hts _ q502) (hts _ q39) (hts _ q503) (Nat.le_of_ble_eq_true rfl) (Nat.le_of_ble_eq_true rfl) (Nat.le_of_ble_eq_true rfl) (Nat.le_of_ble_eq_true rfl) dX2_remember_35 ?_
    refine tp_i (nI_mn (a := ct + 1) (b := 8) (by omega) (by omega)) ?_
    refine va_put (D := E.1) (ci := 6) (v := .int (nI (if 8 < ct + 1 then 8 else ct + 1))) (ty := .int) (C := RX2) (T := TX2) (N := 3) hx hb hts inX2 tyX2 tyX2_ok nmX2 hown hK hP hD hS 0 rfl rfl 2 (by decide) (hts _ q150) (fun _ h9 => h9) rfl (by decide +kernel) rfl rfl (Nat.le_of_ble_eq_true rfl) dX2_remember_38 (fun H locs hP hD hS => ?_)
    have hP : va_P E.1 vwCl ([hiC E b hs 7 (if 8 < ct + 1 then 8 else ct + 1), stC E (hs 0) (hg 0), stC E (hs 1) (hg 1), stC E (hs 2) (hg 2), stC E (hs 3) (hg 3), stC E (hs 4) (hg 4), stC E (hs 5) (hg 5), stC E (hs 6) g, stC E (hs 7) (hg 7), stC E a g] : List va_W).flatten H := hP
    have hD : va_D A ([hiC E b hs 7 (if 8 < ct + 1 then 8 else ct + 1), stC E (hs 0) (hg 0), stC E (hs 1) (hg 1), stC E (hs 2) (hg 2), stC E (hs 3) (hg 3), stC E (hs 4) (hg 4), stC E (hs 5) (hg 5), stC E (hs 6) g, stC E (hs 7) (hg 7), stC E a g] : List va_W).flatten := hD
    have hP : va_P E.1 vwCl ([hhC E b hs (upa hg 6 g) ((6 + 1) % 8) (if 8 < ct + 1 then 8 else ct + 1), stC E a g] : List va_W).flatten H := by rw [hh_flat]; exact hP
    have hD : va_D A ([hhC E b hs (upa hg 6 g) ((6 + 1) % 8) (if 8 < ct + 1 then 8 else ct + 1), stC E a g] : List va_W).flatten := by rw [hh_flat]; exact hD
    exact hret _ _ () _ _ hP hD hS trivial dX2_remember_41
  · skip
    have hP : va_P E.1 vwCl ([hiC E b hs 7 ct, stC E (hs 0) (hg 0), stC E (hs 1) (hg 1), stC E (hs 2) (hg 2), stC E (hs 3) (hg 3), stC E (hs 4) (hg 4), stC E (hs 5) (hg 5), stC E (hs 6) (hg 6), stC E (hs 7) (hg 7), stC E a g] : List va_W).flatten s.heap := by rw [← hh_flat]; exact hP
    have hD : va_D A ([hiC E b hs 7 ct, stC E (hs 0) (hg 0), stC E (hs 1) (hg 1), stC E (hs 2) (hg 2), stC E (hs 3) (hg 3), stC E (hs 4) (hg 4), stC E (hs 5) (hg 5), stC E (hs 6) (hg 6), stC E (hs 7) (hg 7), stC E a g] : List va_W).flatten := by rw [← hh_flat]; exact hD
    refine lv_aload_n hx hb dX2_remember_0 rfl (lv_at hl 0 rfl) ?_
    refine va_get (D := E.1) (ci := 6) (v := .ref (b 1)) (C := RX2) (T := TX2) (N := 3) hx hb hts inX2 hown hK hP 0 rfl rfl 0 (by decide) (hts _ q148) (fun _ h9 => h9) rfl dX2_remember_1 ?_
    refine lv_aload_n hx hb dX2_remember_4 rfl (lv_at hl 0 rfl) ?_
    refine va_get (D := E.1) (ci := 6) (v := .int (nI 7)) (C := RX2) (T := TX2) (N := 3) hx hb hts inX2 hown hK hP 0 rfl rfl 1 (by decide) (hts _ q149) (fun _ h9 => h9) rfl dX2_remember_5 ?_
    refine nv_aald (f := fun j => hs j 0) (i := 7) (n := 8) hx hb hK hP 1 3 rfl rfl (by omega) (by decide) dX2_remember_8 ?_
    refine lv_aload_n hx hb dX2_remember_9 rfl (lv_at hl 1 rfl) ?_
    refine run_v (S := Unit) (run_V (As := [.ref (a 0)]) (rest := []) (bs := [hiC E b hs 7 ct, stC E (hs 0) (hg 0), stC E (hs 1) (hg 1), stC E (hs 2) (hg 2), stC E (hs 3) (hg 3), stC E (hs 4) (hg 4), stC E (hs 5) (hg 5), stC E (hs 6) (hg 6), stC E (hs 7) (hg 7), stC E a g]) (cb := [stC E (hs 7) (hg 7), stC E a g]) hx hb hml hown hts hK hZ hA (c_X4_copyFrom l E _ (hs 7) (hg 7) a g) l_X2_23 rfl ⟨⟨rfl, rfl⟩, Nat.le_of_ble_eq_true rfl, Nat.le_of_ble_eq_true rfl⟩ 8 rfl [8, 9] rfl (by decide) rfl hP hD hS hl.1 rfl (Nat.le_of_ble_eq_true rfl) dX2_remember_10 ⟨Nat.zero_le _, Nat.zero_le _⟩) hA hP hD hS (isC := [8, 9]) rfl [0, 1, 2, 3, 4, 5, 6, 7] [0, 1, 2, 3, 4, 5, 6, 7, 8, 9] (br := [hiC E b hs 7 ct, stC E (hs 0) (hg 0), stC E (hs 1) (hg 1), stC E (hs 2) (hg 2), stC E (hs 3) (hg 3), stC E (hs 4) (hg 4), stC E (hs 5) (hg 5), stC E (hs 6) (hg 6)]) (bs2 := fun _ => [hiC E b hs 7 ct, stC E (hs 0) (hg 0), stC E (hs 1) (hg 1), stC E (hs 2) (hg 2), stC E (hs 3) (hg 3), stC E (hs 4) (hg 4), stC E (hs 5) (hg 5), stC E (hs 6) (hg 6), stC E (hs 7) g, stC E a g]) rfl (by decide) (fun _ => rfl) (by decide) (fun u H locs hw hP hD hS => ?_)
    refine lv_aload_n hx hb dX2_remember_13 rfl (lv_at hl 0 rfl) ?_
    refine lv_aload_n hx hb dX2_remember_14 rfl (lv_at hl 0 rfl) ?_
    refine va_get (D := E.1) (ci := 6) (v := .int (nI 7)) (C := RX2) (T := TX2) (N := 3) hx hb hts inX2 hown hK hP 0 rfl rfl 1 (by decide) (hts _ q149) (fun _ h9 => h9) rfl dX2_remember_15 ?_
    refine lv_iconst (v := nI 1) hx hb dX2_remember_18 (by decide) ?_
    refine nv_iadd hx hb dX2_remember_19 ?_
    refine lv_bipush (v := nI 8) hx hb dX2_remember_20 (by decide) ?_
    refine nv_irem hx hb (by omega) (by omega) (by omega) dX2_remember_22 ?_
    refine tp_i (show nI ((7 + 1) % 8) = nI 0 from rfl) ?_
    refine va_put (D := E.1) (ci := 6) (v := .int (nI 0)) (ty := .int) (C := RX2) (T := TX2) (N := 3) hx hb hts inX2 tyX2 tyX2_ok nmX2 hown hK hP hD hS 0 rfl rfl 1 (by decide) (hts _ q149) (fun _ h9 => h9) rfl (by decide +kernel) rfl rfl (Nat.le_of_ble_eq_true rfl) dX2_remember_23 (fun H locs hP hD hS => ?_)
    have hP : va_P E.1 vwCl ([hiC E b hs 0 ct, stC E (hs 0) (hg 0), stC E (hs 1) (hg 1), stC E (hs 2) (hg 2), stC E (hs 3) (hg 3), stC E (hs 4) (hg 4), stC E (hs 5) (hg 5), stC E (hs 6) (hg 6), stC E (hs 7) g, stC E a g] : List va_W).flatten H := hP
    have hD : va_D A ([hiC E b hs 0 ct, stC E (hs 0) (hg 0), stC E (hs 1) (hg 1), stC E (hs 2) (hg 2), stC E (hs 3) (hg 3), stC E (hs 4) (hg 4), stC E (hs 5) (hg 5), stC E (hs 6) (hg 6), stC E (hs 7) g, stC E a g] : List va_W).flatten := hD
    refine lv_aload_n hx hb dX2_remember_26 rfl (lv_at hl 0 rfl) ?_
    refine lv_aload_n hx hb dX2_remember_27 rfl (lv_at hl 0 rfl) ?_
    refine va_get (D := E.1) (ci := 6) (v := .int (nI ct)) (C := RX2) (T := TX2) (N := 3) hx hb hts inX2 hown hK hP 0 rfl rfl 2 (by decide) (hts _ q150) (fun _ h9 => h9) rfl dX2_remember_28 ?_
    refine lv_iconst (v := nI 1) hx hb dX2_remember_31 (by decide) ?_
    refine nv_iadd hx hb dX2_remember_32 ?_
    refine lv_bipush (v := nI 8) hx hb dX2_remember_33 (by decide) ?_
    refine va_mmin hx hb (hml.trans hl.1.symm) hown (hts _ q617) (hts _ q502) (hts _ q39) (hts _ q503) (Nat.le_of_ble_eq_true rfl) (Nat.le_of_ble_eq_true rfl) (Nat.le_of_ble_eq_true rfl) (Nat.le_of_ble_eq_true rfl) dX2_remember_35 ?_
    refine tp_i (nI_mn (a := ct + 1) (b := 8) (by omega) (by omega)) ?_
    refine va_put (D := E.1) (ci := 6) (v := .int (nI (if 8 < ct + 1 then 8 else ct + 1))) (ty := .int) (C := RX2) (T := TX2) (N := 3) hx hb hts inX2 tyX2 tyX2_ok nmX2 hown hK hP hD hS 0 rfl rfl 2 (by decide) (hts _ q150) (fun _ h9 => h9) rfl (by decide +kernel) rfl rfl (Nat.le_of_ble_eq_true rfl) dX2_remember_38 (fun H locs hP hD hS => ?_)
    have hP : va_P E.1 vwCl ([hiC E b hs 0 (if 8 < ct + 1 then 8 else ct + 1), stC E (hs 0) (hg 0), stC E (hs 1) (hg 1), stC E (hs 2) (hg 2), stC E (hs 3) (hg 3), stC E (hs 4) (hg 4), stC E (hs 5) (hg 5), stC E (hs 6) (hg 6), stC E (hs 7) g, stC E a g] : List va_W).flatten H := hP
    have hD : va_D A ([hiC E b hs 0 (if 8 < ct + 1 then 8 else ct + 1), stC E (hs 0) (hg 0), stC E (hs 1) (hg 1), stC E (hs 2) (hg 2), stC E (hs 3) (hg 3), stC E (hs 4) (hg 4), stC E (hs 5) (hg 5), stC E (hs 6) (hg 6), stC E (hs 7) g, stC E a g] : List va_W).flatten := hD
    have hP : va_P E.1 vwCl ([hhC E b hs (upa hg 7 g) ((7 + 1) % 8) (if 8 < ct + 1 then 8 else ct + 1), stC E a g] : List va_W).flatten H := by rw [hh_flat]; exact hP
    have hD : va_D A ([hhC E b hs (upa hg 7 g) ((7 + 1) % 8) (if 8 < ct + 1 then 8 else ct + 1), stC E a g] : List va_W).flatten := by rw [hh_flat]; exact hD
    exact hret _ _ () _ _ hP hD hS trivial dX2_remember_41
abbrev rm_X2_takeBack : Room := { frames := 2, cells := 0, slots := 0, locals := 141 }
set_option maxHeartbeats 4000000 in
set_option maxRecDepth 100000 in
theorem c_X2_takeBack (l : Launch) (E : EE) (sz : Nat) (b : Nat → Nat) (hs : Nat → Nat → Nat) (hg : Nat → GG) (nx ct : Nat) (a : Nat → Nat) (g : GG) (hnx : nx < 8) (hct : ct ≤ 8) (hc1 : 1 ≤ ct) : MI l yX2_takeBack cX2_takeBack 2 .int rm_X2_takeBack [.ref (b 0), .ref (a 0)] E sz [hhC E b hs hg nx ct, stC E a g] (fun (r : Int32) (_ : Unit) => r = nI (ct - 1)) (fun _ => [hhC E b hs hg ((nx + 8 - 1) % 8) (ct - 1), stC E a (hg ((nx + 8 - 1) % 8))]) 0 0 := by
  refine mi_go (by decide) (Nat.le_of_ble_eq_true rfl) ?_
  intro p e s m below meth c A Q ls hx hb hml hown hts hK hZ hA hsz hP hD hl hret
  have hS : va_S A s.heap s.heap [] := va_S.rf
  have hl : lv_has ls 2 [(0, .ref (b 0)), (1, .ref (a 0))] := hl
  skip
  rcases (show nx = 0 ∨ nx = 1 ∨ nx = 2 ∨ nx = 3 ∨ nx = 4 ∨ nx = 5 ∨ nx = 6 ∨ nx = 7 by omega) with rfl | rfl | rfl | rfl | rfl | rfl | rfl | rfl
  · skip
    have hP : va_P E.1 vwCl ([hiC E b hs 0 ct, stC E (hs 0) (hg 0), stC E (hs 1) (hg 1), stC E (hs 2) (hg 2), stC E (hs 3) (hg 3), stC E (hs 4) (hg 4), stC E (hs 5) (hg 5), stC E (hs 6) (hg 6), stC E (hs 7) (hg 7), stC E a g] : List va_W).flatten s.heap := by rw [← hh_flat]; exact hP
    have hD : va_D A ([hiC E b hs 0 ct, stC E (hs 0) (hg 0), stC E (hs 1) (hg 1), stC E (hs 2) (hg 2), stC E (hs 3) (hg 3), stC E (hs 4) (hg 4), stC E (hs 5) (hg 5), stC E (hs 6) (hg 6), stC E (hs 7) (hg 7), stC E a g] : List va_W).flatten := by rw [← hh_flat]; exact hD
    refine lv_aload_n hx hb dX2_takeBack_0 rfl (lv_at hl 0 rfl) ?_
    refine lv_aload_n hx hb dX2_takeBack_1 rfl (lv_at hl 0 rfl) ?_
    refine va_get (D := E.1) (ci := 6) (v := .int (nI 0)) (C := RX2) (T := TX2) (N := 3) hx hb hts inX2 hown hK hP 0 rfl rfl 1 (by decide) (hts _ q149) (fun _ h9 => h9) rfl dX2_takeBack_2 ?_
    refine lv_bipush (v := nI 8) hx hb dX2_takeBack_5 (by decide) ?_
    refine nv_iadd hx hb dX2_takeBack_7 ?_
    refine lv_iconst (v := nI 1) hx hb dX2_takeBack_8 (by decide) ?_
    refine nv_isub hx hb (by omega) dX2_takeBack_9 ?_
    refine lv_bipush (v := nI 8) hx hb dX2_takeBack_10 (by decide) ?_
    refine nv_irem hx hb (by omega) (by omega) (by omega) dX2_takeBack_12 ?_
    refine tp_i (show nI (((0 + 8) - 1) % 8) = nI 7 from rfl) ?_
    refine va_put (D := E.1) (ci := 6) (v := .int (nI 7)) (ty := .int) (C := RX2) (T := TX2) (N := 3) hx hb hts inX2 tyX2 tyX2_ok nmX2 hown hK hP hD hS 0 rfl rfl 1 (by decide) (hts _ q149) (fun _ h9 => h9) rfl (by decide +kernel) rfl rfl (Nat.le_of_ble_eq_true rfl) dX2_takeBack_13 (fun H locs hP hD hS => ?_)
    have hP : va_P E.1 vwCl ([hiC E b hs 7 ct, stC E (hs 0) (hg 0), stC E (hs 1) (hg 1), stC E (hs 2) (hg 2), stC E (hs 3) (hg 3), stC E (hs 4) (hg 4), stC E (hs 5) (hg 5), stC E (hs 6) (hg 6), stC E (hs 7) (hg 7), stC E a g] : List va_W).flatten H := hP
    have hD : va_D A ([hiC E b hs 7 ct, stC E (hs 0) (hg 0), stC E (hs 1) (hg 1), stC E (hs 2) (hg 2), stC E (hs 3) (hg 3), stC E (hs 4) (hg 4), stC E (hs 5) (hg 5), stC E (hs 6) (hg 6), stC E (hs 7) (hg 7), stC E a g] : List va_W).flatten := hD
    refine lv_aload_n hx hb dX2_takeBack_16 rfl (lv_at hl 1 rfl) ?_
    refine lv_aload_n hx hb dX2_takeBack_17 rfl (lv_at hl 0 rfl) ?_
    refine va_get (D := E.1) (ci := 6) (v := .ref (b 1)) (C := RX2) (T := TX2) (N := 3) hx hb hts inX2 hown hK hP 0 rfl rfl 0 (by decide) (hts _ q148) (fun _ h9 => h9) rfl dX2_takeBack_18 ?_
    refine lv_aload_n hx hb dX2_takeBack_21 rfl (lv_at hl 0 rfl) ?_
    refine va_get (D := E.1) (ci := 6) (v := .int (nI 7)) (C := RX2) (T := TX2) (N := 3) hx hb hts inX2 hown hK hP 0 rfl rfl 1 (by decide) (hts _ q149) (fun _ h9 => h9) rfl dX2_takeBack_22 ?_
    refine nv_aald (f := fun j => hs j 0) (i := 7) (n := 8) hx hb hK hP 1 3 rfl rfl (by omega) (by decide) dX2_takeBack_25 ?_
    refine run_v (S := Unit) (run_V (As := [.ref ((hs 7) 0)]) (rest := []) (bs := [hiC E b hs 7 ct, stC E (hs 0) (hg 0), stC E (hs 1) (hg 1), stC E (hs 2) (hg 2), stC E (hs 3) (hg 3), stC E (hs 4) (hg 4), stC E (hs 5) (hg 5), stC E (hs 6) (hg 6), stC E (hs 7) (hg 7), stC E a g]) (cb := [stC E a g, stC E (hs 7) (hg 7)]) hx hb hml hown hts hK hZ hA (c_X4_copyFrom l E _ a g (hs 7) (hg 7)) l_X2_23 rfl ⟨⟨rfl, rfl⟩, Nat.le_of_ble_eq_true rfl, Nat.le_of_ble_eq_true rfl⟩ 8 rfl [9, 8] rfl (by decide) rfl hP hD hS hl.1 rfl (Nat.le_of_ble_eq_true rfl) dX2_takeBack_26 ⟨Nat.zero_le _, Nat.zero_le _⟩) hA hP hD hS (isC := [9, 8]) rfl [0, 1, 2, 3, 4, 5, 6, 7] [0, 1, 2, 3, 4, 5, 6, 7, 9, 8] (br := [hiC E b hs 7 ct, stC E (hs 0) (hg 0), stC E (hs 1) (hg 1), stC E (hs 2) (hg 2), stC E (hs 3) (hg 3), stC E (hs 4) (hg 4), stC E (hs 5) (hg 5), stC E (hs 6) (hg 6)]) (bs2 := fun _ => [hiC E b hs 7 ct, stC E (hs 0) (hg 0), stC E (hs 1) (hg 1), stC E (hs 2) (hg 2), stC E (hs 3) (hg 3), stC E (hs 4) (hg 4), stC E (hs 5) (hg 5), stC E (hs 6) (hg 6), stC E (hs 7) (hg 7), stC E a (hg 7)]) rfl (by decide) (fun _ => rfl) (by decide) (fun u H locs hw hP hD hS => ?_)
    refine lv_aload_n hx hb dX2_takeBack_29 rfl (lv_at hl 0 rfl) ?_
    refine lv_dup hx hb dX2_takeBack_30 rfl ?_
    refine va_get (D := E.1) (ci := 6) (v := .int (nI ct)) (C := RX2) (T := TX2) (N := 3) hx hb hts inX2 hown hK hP 0 rfl rfl 2 (by decide) (hts _ q150) (fun _ h9 => h9) rfl dX2_takeBack_31 ?_
    refine lv_iconst (v := nI 1) hx hb dX2_takeBack_34 (by decide) ?_
    refine nv_isub hx hb (by omega) dX2_takeBack_35 ?_
    refine va_put (D := E.1) (ci := 6) (v := .int (nI (ct - 1))) (ty := .int) (C := RX2) (T := TX2) (N := 3) hx hb hts inX2 tyX2 tyX2_ok nmX2 hown hK hP hD hS 0 rfl rfl 2 (by decide) (hts _ q150) (fun _ h9 => h9) rfl (by decide +kernel) rfl rfl (Nat.le_of_ble_eq_true rfl) dX2_takeBack_36 (fun H locs hP hD hS => ?_)
    have hP : va_P E.1 vwCl ([hiC E b hs 7 (ct - 1), stC E (hs 0) (hg 0), stC E (hs 1) (hg 1), stC E (hs 2) (hg 2), stC E (hs 3) (hg 3), stC E (hs 4) (hg 4), stC E (hs 5) (hg 5), stC E (hs 6) (hg 6), stC E (hs 7) (hg 7), stC E a (hg 7)] : List va_W).flatten H := hP
    have hD : va_D A ([hiC E b hs 7 (ct - 1), stC E (hs 0) (hg 0), stC E (hs 1) (hg 1), stC E (hs 2) (hg 2), stC E (hs 3) (hg 3), stC E (hs 4) (hg 4), stC E (hs 5) (hg 5), stC E (hs 6) (hg 6), stC E (hs 7) (hg 7), stC E a (hg 7)] : List va_W).flatten := hD
    refine lv_aload_n hx hb dX2_takeBack_39 rfl (lv_at hl 0 rfl) ?_
    refine va_get (D := E.1) (ci := 6) (v := .int (nI (ct - 1))) (C := RX2) (T := TX2) (N := 3) hx hb hts inX2 hown hK hP 0 rfl rfl 2 (by decide) (hts _ q150) (fun _ h9 => h9) rfl dX2_takeBack_40 ?_
    have hP : va_P E.1 vwCl ([hhC E b hs hg ((0 + 8 - 1) % 8) (ct - 1), stC E a (hg ((0 + 8 - 1) % 8))] : List va_W).flatten H := by rw [hh_flat]; exact hP
    have hD : va_D A ([hhC E b hs hg ((0 + 8 - 1) % 8) (ct - 1), stC E a (hg ((0 + 8 - 1) % 8))] : List va_W).flatten := by rw [hh_flat]; exact hD
    exact hret _ _ (nI (ct - 1)) () _ _ hP hD hS rfl rfl dX2_takeBack_43
  · skip
    have hP : va_P E.1 vwCl ([hiC E b hs 1 ct, stC E (hs 0) (hg 0), stC E (hs 1) (hg 1), stC E (hs 2) (hg 2), stC E (hs 3) (hg 3), stC E (hs 4) (hg 4), stC E (hs 5) (hg 5), stC E (hs 6) (hg 6), stC E (hs 7) (hg 7), stC E a g] : List va_W).flatten s.heap := by rw [← hh_flat]; exact hP
    have hD : va_D A ([hiC E b hs 1 ct, stC E (hs 0) (hg 0), stC E (hs 1) (hg 1), stC E (hs 2) (hg 2), stC E (hs 3) (hg 3), stC E (hs 4) (hg 4), stC E (hs 5) (hg 5), stC E (hs 6) (hg 6), stC E (hs 7) (hg 7), stC E a g] : List va_W).flatten := by rw [← hh_flat]; exact hD
    refine lv_aload_n hx hb dX2_takeBack_0 rfl (lv_at hl 0 rfl) ?_
    refine lv_aload_n hx hb dX2_takeBack_1 rfl (lv_at hl 0 rfl) ?_
    refine va_get (D := E.1) (ci := 6) (v := .int (nI 1)) (C := RX2) (T := TX2) (N := 3) hx hb hts inX2 hown hK hP 0 rfl rfl 1 (by decide) (hts _ q149) (fun _ h9 => h9) rfl dX2_takeBack_2 ?_
    refine lv_bipush (v := nI 8) hx hb dX2_takeBack_5 (by decide) ?_
    refine nv_iadd hx hb dX2_takeBack_7 ?_
    refine lv_iconst (v := nI 1) hx hb dX2_takeBack_8 (by decide) ?_
    refine nv_isub hx hb (by omega) dX2_takeBack_9 ?_
    refine lv_bipush (v := nI 8) hx hb dX2_takeBack_10 (by decide) ?_
    refine nv_irem hx hb (by omega) (by omega) (by omega) dX2_takeBack_12 ?_
    refine tp_i (show nI (((1 + 8) - 1) % 8) = nI 0 from rfl) ?_
    refine va_put (D := E.1) (ci := 6) (v := .int (nI 0)) (ty := .int) (C := RX2) (T := TX2) (N := 3) hx hb hts inX2 tyX2 tyX2_ok nmX2 hown hK hP hD hS 0 rfl rfl 1 (by decide) (hts _ q149) (fun _ h9 => h9) rfl (by decide +kernel) rfl rfl (Nat.le_of_ble_eq_true rfl) dX2_takeBack_13 (fun H locs hP hD hS => ?_)
    have hP : va_P E.1 vwCl ([hiC E b hs 0 ct, stC E (hs 0) (hg 0), stC E (hs 1) (hg 1), stC E (hs 2) (hg 2), stC E (hs 3) (hg 3), stC E (hs 4) (hg 4), stC E (hs 5) (hg 5), stC E (hs 6) (hg 6), stC E (hs 7) (hg 7), stC E a g] : List va_W).flatten H := hP
    have hD : va_D A ([hiC E b hs 0 ct, stC E (hs 0) (hg 0), stC E (hs 1) (hg 1), stC E (hs 2) (hg 2), stC E (hs 3) (hg 3), stC E (hs 4) (hg 4), stC E (hs 5) (hg 5), stC E (hs 6) (hg 6), stC E (hs 7) (hg 7), stC E a g] : List va_W).flatten := hD
    refine lv_aload_n hx hb dX2_takeBack_16 rfl (lv_at hl 1 rfl) ?_
    refine lv_aload_n hx hb dX2_takeBack_17 rfl (lv_at hl 0 rfl) ?_
    refine va_get (D := E.1) (ci := 6) (v := .ref (b 1)) (C := RX2) (T := TX2) (N := 3) hx hb hts inX2 hown hK hP 0 rfl rfl 0 (by decide) (hts _ q148) (fun _ h9 => h9) rfl dX2_takeBack_18 ?_
    refine lv_aload_n hx hb dX2_takeBack_21 rfl (lv_at hl 0 rfl) ?_
    refine va_get (D := E.1) (ci := 6) (v := .int (nI 0)) (C := RX2) (T := TX2) (N := 3) hx hb hts inX2 hown hK hP 0 rfl rfl 1 (by decide) (hts _ q149) (fun _ h9 => h9) rfl dX2_takeBack_22 ?_
    refine nv_aald (f := fun j => hs j 0) (i := 0) (n := 8) hx hb hK hP 1 3 rfl rfl (by omega) (by decide) dX2_takeBack_25 ?_
    refine run_v (S := Unit) (run_V (As := [.ref ((hs 0) 0)]) (rest := []) (bs := [hiC E b hs 0 ct, stC E (hs 0) (hg 0), stC E (hs 1) (hg 1), stC E (hs 2) (hg 2), stC E (hs 3) (hg 3), stC E (hs 4) (hg 4), stC E (hs 5) (hg 5), stC E (hs 6) (hg 6), stC E (hs 7) (hg 7), stC E a g]) (cb := [stC E a g, stC E (hs 0) (hg 0)]) hx hb hml hown hts hK hZ hA (c_X4_copyFrom l E _ a g (hs 0) (hg 0)) l_X2_23 rfl ⟨⟨rfl, rfl⟩, Nat.le_of_ble_eq_true rfl, Nat.le_of_ble_eq_true rfl⟩ 8 rfl [9, 1] rfl (by decide) rfl hP hD hS hl.1 rfl (Nat.le_of_ble_eq_true rfl) dX2_takeBack_26 ⟨Nat.zero_le _, Nat.zero_le _⟩) hA hP hD hS (isC := [9, 1]) rfl [0, 2, 3, 4, 5, 6, 7, 8] [0, 9, 1, 2, 3, 4, 5, 6, 7, 8] (br := [hiC E b hs 0 ct, stC E (hs 1) (hg 1), stC E (hs 2) (hg 2), stC E (hs 3) (hg 3), stC E (hs 4) (hg 4), stC E (hs 5) (hg 5), stC E (hs 6) (hg 6), stC E (hs 7) (hg 7)]) (bs2 := fun _ => [hiC E b hs 0 ct, stC E (hs 0) (hg 0), stC E (hs 1) (hg 1), stC E (hs 2) (hg 2), stC E (hs 3) (hg 3), stC E (hs 4) (hg 4), stC E (hs 5) (hg 5), stC E (hs 6) (hg 6), stC E (hs 7) (hg 7), stC E a (hg 0)]) rfl (by decide) (fun _ => rfl) (by decide) (fun u H locs hw hP hD hS => ?_)
    refine lv_aload_n hx hb dX2_takeBack_29 rfl (lv_at hl 0 rfl) ?_
    refine lv_dup hx hb dX2_takeBack_30 rfl ?_
    refine va_get (D := E.1) (ci := 6) (v := .int (nI ct)) (C := RX2) (T := TX2) (N := 3) hx hb hts inX2 hown hK hP 0 rfl rfl 2 (by decide) (hts _ q150) (fun _ h9 => h9) rfl dX2_takeBack_31 ?_
    refine lv_iconst (v := nI 1) hx hb dX2_takeBack_34 (by decide) ?_
    refine nv_isub hx hb (by omega) dX2_takeBack_35 ?_
    refine va_put (D := E.1) (ci := 6) (v := .int (nI (ct - 1))) (ty := .int) (C := RX2) (T := TX2) (N := 3) hx hb hts inX2 tyX2 tyX2_ok nmX2 hown hK hP hD hS 0 rfl rfl 2 (by decide) (hts _ q150) (fun _ h9 => h9) rfl (by decide +kernel) rfl rfl (Nat.le_of_ble_eq_true rfl) dX2_takeBack_36 (fun H locs hP hD hS => ?_)
    have hP : va_P E.1 vwCl ([hiC E b hs 0 (ct - 1), stC E (hs 0) (hg 0), stC E (hs 1) (hg 1), stC E (hs 2) (hg 2), stC E (hs 3) (hg 3), stC E (hs 4) (hg 4), stC E (hs 5) (hg 5), stC E (hs 6) (hg 6), stC E (hs 7) (hg 7), stC E a (hg 0)] : List va_W).flatten H := hP
    have hD : va_D A ([hiC E b hs 0 (ct - 1), stC E (hs 0) (hg 0), stC E (hs 1) (hg 1), stC E (hs 2) (hg 2), stC E (hs 3) (hg 3), stC E (hs 4) (hg 4), stC E (hs 5) (hg 5), stC E (hs 6) (hg 6), stC E (hs 7) (hg 7), stC E a (hg 0)] : List va_W).flatten := hD
    refine lv_aload_n hx hb dX2_takeBack_39 rfl (lv_at hl 0 rfl) ?_
    refine va_get (D := E.1) (ci := 6) (v := .int (nI (ct - 1))) (C := RX2) (T := TX2) (N := 3) hx hb hts inX2 hown hK hP 0 rfl rfl 2 (by decide) (hts _ q150) (fun _ h9 => h9) rfl dX2_takeBack_40 ?_
    have hP : va_P E.1 vwCl ([hhC E b hs hg ((1 + 8 - 1) % 8) (ct - 1), stC E a (hg ((1 + 8 - 1) % 8))] : List va_W).flatten H := by rw [hh_flat]; exact hP
    have hD : va_D A ([hhC E b hs hg ((1 + 8 - 1) % 8) (ct - 1), stC E a (hg ((1 + 8 - 1) % 8))] : List va_W).flatten := by rw [hh_flat]; exact hD
    exact hret _ _ (nI (ct - 1)) () _ _ hP hD hS rfl rfl dX2_takeBack_43
  · skip
    have hP : va_P E.1 vwCl ([hiC E b hs 2 ct, stC E (hs 0) (hg 0), stC E (hs 1) (hg 1), stC E (hs 2) (hg 2), stC E (hs 3) (hg 3), stC E (hs 4) (hg 4), stC E (hs 5) (hg 5), stC E (hs 6) (hg 6), stC E (hs 7) (hg 7), stC E a g] : List va_W).flatten s.heap := by rw [← hh_flat]; exact hP
    have hD : va_D A ([hiC E b hs 2 ct, stC E (hs 0) (hg 0), stC E (hs 1) (hg 1), stC E (hs 2) (hg 2), stC E (hs 3) (hg 3), stC E (hs 4) (hg 4), stC E (hs 5) (hg 5), stC E (hs 6) (hg 6), stC E (hs 7) (hg 7), stC E a g] : List va_W).flatten := by rw [← hh_flat]; exact hD
    refine lv_aload_n hx hb dX2_takeBack_0 rfl (lv_at hl 0 rfl) ?_
    refine lv_aload_n hx hb dX2_takeBack_1 rfl (lv_at hl 0 rfl) ?_
    refine va_get (D := E.1) (ci := 6) (v := .int (nI 2)) (C := RX2) (T := TX2) (N := 3) hx hb hts inX2 hown hK hP 0 rfl rfl 1 (by decide) (hts _ q149) (fun _ h9 => h9) rfl dX2_takeBack_2 ?_
    refine lv_bipush (v := nI 8) hx hb dX2_takeBack_5 (by decide) ?_
    refine nv_iadd hx hb dX2_takeBack_7 ?_
    refine lv_iconst (v := nI 1) hx hb dX2_takeBack_8 (by decide) ?_
    refine nv_isub hx hb (by omega) dX2_takeBack_9 ?_
    refine lv_bipush (v := nI 8) hx hb dX2_takeBack_10 (by decide) ?_
    refine nv_irem hx hb (by omega) (by omega) (by omega) dX2_takeBack_12 ?_
    refine tp_i (show nI (((2 + 8) - 1) % 8) = nI 1 from rfl) ?_
    refine va_put (D := E.1) (ci := 6) (v := .int (nI 1)) (ty := .int) (C := RX2) (T := TX2) (N := 3) hx hb hts inX2 tyX2 tyX2_ok nmX2 hown hK hP hD hS 0 rfl rfl 1 (by decide) (hts _ q149) (fun _ h9 => h9) rfl (by decide +kernel) rfl rfl (Nat.le_of_ble_eq_true rfl) dX2_takeBack_13 (fun H locs hP hD hS => ?_)
    have hP : va_P E.1 vwCl ([hiC E b hs 1 ct, stC E (hs 0) (hg 0), stC E (hs 1) (hg 1), stC E (hs 2) (hg 2), stC E (hs 3) (hg 3), stC E (hs 4) (hg 4), stC E (hs 5) (hg 5), stC E (hs 6) (hg 6), stC E (hs 7) (hg 7), stC E a g] : List va_W).flatten H := hP
    have hD : va_D A ([hiC E b hs 1 ct, stC E (hs 0) (hg 0), stC E (hs 1) (hg 1), stC E (hs 2) (hg 2), stC E (hs 3) (hg 3), stC E (hs 4) (hg 4), stC E (hs 5) (hg 5), stC E (hs 6) (hg 6), stC E (hs 7) (hg 7), stC E a g] : List va_W).flatten := hD
    refine lv_aload_n hx hb dX2_takeBack_16 rfl (lv_at hl 1 rfl) ?_
    refine lv_aload_n hx hb dX2_takeBack_17 rfl (lv_at hl 0 rfl) ?_
    refine va_get (D := E.1) (ci := 6) (v := .ref (b 1)) (C := RX2) (T := TX2) (N := 3) hx hb hts inX2 hown hK hP 0 rfl rfl 0 (by decide) (hts _ q148) (fun _ h9 => h9) rfl dX2_takeBack_18 ?_
    refine lv_aload_n hx hb dX2_takeBack_21 rfl (lv_at hl 0 rfl) ?_
    refine va_get (D := E.1) (ci := 6) (v := .int (nI 1)) (C := RX2) (T := TX2) (N := 3) hx hb hts inX2 hown hK hP 0 rfl rfl 1 (by decide) (hts _ q149) (fun _ h9 => h9) rfl dX2_takeBack_22 ?_
    refine nv_aald (f := fun j => hs j 0) (i := 1) (n := 8) hx hb hK hP 1 3 rfl rfl (by omega) (by decide) dX2_takeBack_25 ?_
    refine run_v (S := Unit) (run_V (As := [.ref ((hs 1) 0)]) (rest := []) (bs := [hiC E b hs 1 ct, stC E (hs 0) (hg 0), stC E (hs 1) (hg 1), stC E (hs 2) (hg 2), stC E (hs 3) (hg 3), stC E (hs 4) (hg 4), stC E (hs 5) (hg 5), stC E (hs 6) (hg 6), stC E (hs 7) (hg 7), stC E a g]) (cb := [stC E a g, stC E (hs 1) (hg 1)]) hx hb hml hown hts hK hZ hA (c_X4_copyFrom l E _ a g (hs 1) (hg 1)) l_X2_23 rfl ⟨⟨rfl, rfl⟩, Nat.le_of_ble_eq_true rfl, Nat.le_of_ble_eq_true rfl⟩ 8 rfl [9, 2] rfl (by decide) rfl hP hD hS hl.1 rfl (Nat.le_of_ble_eq_true rfl) dX2_takeBack_26 ⟨Nat.zero_le _, Nat.zero_le _⟩) hA hP hD hS (isC := [9, 2]) rfl [0, 1, 3, 4, 5, 6, 7, 8] [0, 1, 9, 2, 3, 4, 5, 6, 7, 8] (br := [hiC E b hs 1 ct, stC E (hs 0) (hg 0), stC E (hs 2) (hg 2), stC E (hs 3) (hg 3), stC E (hs 4) (hg 4), stC E (hs 5) (hg 5), stC E (hs 6) (hg 6), stC E (hs 7) (hg 7)]) (bs2 := fun _ => [hiC E b hs 1 ct, stC E (hs 0) (hg 0), stC E (hs 1) (hg 1), stC E (hs 2) (hg 2), stC E (hs 3) (hg 3), stC E (hs 4) (hg 4), stC E (hs 5) (hg 5), stC E (hs 6) (hg 6), stC E (hs 7) (hg 7), stC E a (hg 1)]) rfl (by decide) (fun _ => rfl) (by decide) (fun u H locs hw hP hD hS => ?_)
    refine lv_aload_n hx hb dX2_takeBack_29 rfl (lv_at hl 0 rfl) ?_
    refine lv_dup hx hb dX2_takeBack_30 rfl ?_
    refine va_get (D := E.1) (ci := 6) (v := .int (nI ct)) (C := RX2) (T := TX2) (N := 3) hx hb hts inX2 hown hK hP 0 rfl rfl 2 (by decide) (hts _ q150) (fun _ h9 => h9) rfl dX2_takeBack_31 ?_
    refine lv_iconst (v := nI 1) hx hb dX2_takeBack_34 (by decide) ?_
    refine nv_isub hx hb (by omega) dX2_takeBack_35 ?_
    refine va_put (D := E.1) (ci := 6) (v := .int (nI (ct - 1))) (ty := .int) (C := RX2) (T := TX2) (N := 3) hx hb hts inX2 tyX2 tyX2_ok nmX2 hown hK hP hD hS 0 rfl rfl 2 (by decide) (hts _ q150) (fun _ h9 => h9) rfl (by decide +kernel) rfl rfl (Nat.le_of_ble_eq_true rfl) dX2_takeBack_36 (fun H locs hP hD hS => ?_)
    have hP : va_P E.1 vwCl ([hiC E b hs 1 (ct - 1), stC E (hs 0) (hg 0), stC E (hs 1) (hg 1), stC E (hs 2) (hg 2), stC E (hs 3) (hg 3), stC E (hs 4) (hg 4), stC E (hs 5) (hg 5), stC E (hs 6) (hg 6), stC E (hs 7) (hg 7), stC E a (hg 1)] : List va_W).flatten H := hP
    have hD : va_D A ([hiC E b hs 1 (ct - 1), stC E (hs 0) (hg 0), stC E (hs 1) (hg 1), stC E (hs 2) (hg 2), stC E (hs 3) (hg 3), stC E (hs 4) (hg 4), stC E (hs 5) (hg 5), stC E (hs 6) (hg 6), stC E (hs 7) (hg 7), stC E a (hg 1)] : List va_W).flatten := hD
    refine lv_aload_n hx hb dX2_takeBack_39 rfl (lv_at hl 0 rfl) ?_
    refine va_get (D := E.1) (ci := 6) (v := .int (nI (ct - 1))) (C := RX2) (T := TX2) (N := 3) hx hb hts inX2 hown hK hP 0 rfl rfl 2 (by decide) (hts _ q150) (fun _ h9 => h9) rfl dX2_takeBack_40 ?_
    have hP : va_P E.1 vwCl ([hhC E b hs hg ((2 + 8 - 1) % 8) (ct - 1), stC E a (hg ((2 + 8 - 1) % 8))] : List va_W).flatten H := by rw [hh_flat]; exact hP
    have hD : va_D A ([hhC E b hs hg ((2 + 8 - 1) % 8) (ct - 1), stC E a (hg ((2 + 8 - 1) % 8))] : List va_W).flatten := by rw [hh_flat]; exact hD
    exact hret _ _ (nI (ct - 1)) () _ _ hP hD hS rfl rfl dX2_takeBack_43
  · skip
    have hP : va_P E.1 vwCl ([hiC E b hs 3 ct, stC E (hs 0) (hg 0), stC E (hs 1) (hg 1), stC E (hs 2) (hg 2), stC E (hs 3) (hg 3), stC E (hs 4) (hg 4), stC E (hs 5) (hg 5), stC E (hs 6) (hg 6), stC E (hs 7) (hg 7), stC E a g] : List va_W).flatten s.heap := by rw [← hh_flat]; exact hP
    have hD : va_D A ([hiC E b hs 3 ct, stC E (hs 0) (hg 0), stC E (hs 1) (hg 1), stC E (hs 2) (hg 2), stC E (hs 3) (hg 3), stC E (hs 4) (hg 4), stC E (hs 5) (hg 5), stC E (hs 6) (hg 6), stC E (hs 7) (hg 7), stC E a g] : List va_W).flatten := by rw [← hh_flat]; exact hD
    refine lv_aload_n hx hb dX2_takeBack_0 rfl (lv_at hl 0 rfl) ?_
    refine lv_aload_n hx hb dX2_takeBack_1 rfl (lv_at hl 0 rfl) ?_
    refine va_get (D := E.1) (ci := 6) (v := .int (nI 3)) (C := RX2) (T := TX2) (N := 3) hx hb hts inX2 hown hK hP 0 rfl rfl 1 (by decide) (hts _ q149) (fun _ h9 => h9) rfl dX2_takeBack_2 ?_
    refine lv_bipush (v := nI 8) hx hb dX2_takeBack_5 (by decide) ?_
    refine nv_iadd hx hb dX2_takeBack_7 ?_
    refine lv_iconst (v := nI 1) hx hb dX2_takeBack_8 (by decide) ?_
    refine nv_isub hx hb (by omega) dX2_takeBack_9 ?_
    refine lv_bipush (v := nI 8) hx hb dX2_takeBack_10 (by decide) ?_
    refine nv_irem hx hb (by omega) (by omega) (by omega) dX2_takeBack_12 ?_
    refine tp_i (show nI (((3 + 8) - 1) % 8) = nI 2 from rfl) ?_
    refine va_put (D := E.1) (ci := 6) (v := .int (nI 2)) (ty := .int) (C := RX2) (T := TX2) (N := 3) hx hb hts inX2 tyX2 tyX2_ok nmX2 hown hK hP hD hS 0 rfl rfl 1 (by decide) (hts _ q149) (fun _ h9 => h9) rfl (by decide +kernel) rfl rfl (Nat.le_of_ble_eq_true rfl) dX2_takeBack_13 (fun H locs hP hD hS => ?_)
    have hP : va_P E.1 vwCl ([hiC E b hs 2 ct, stC E (hs 0) (hg 0), stC E (hs 1) (hg 1), stC E (hs 2) (hg 2), stC E (hs 3) (hg 3), stC E (hs 4) (hg 4), stC E (hs 5) (hg 5), stC E (hs 6) (hg 6), stC E (hs 7) (hg 7), stC E a g] : List va_W).flatten H := hP
    have hD : va_D A ([hiC E b hs 2 ct, stC E (hs 0) (hg 0), stC E (hs 1) (hg 1), stC E (hs 2) (hg 2), stC E (hs 3) (hg 3), stC E (hs 4) (hg 4), stC E (hs 5) (hg 5), stC E (hs 6) (hg 6), stC E (hs 7) (hg 7), stC E a g] : List va_W).flatten := hD
    refine lv_aload_n hx hb dX2_takeBack_16 rfl (lv_at hl 1 rfl) ?_
    refine lv_aload_n hx hb dX2_takeBack_17 rfl (lv_at hl 0 rfl) ?_
    refine va_get (D := E.1) (ci := 6) (v := .ref (b 1)) (C := RX2) (T := TX2) (N := 3) hx hb hts inX2 hown hK hP 0 rfl rfl 0 (by decide) (hts _ q148) (fun _ h9 => h9) rfl dX2_takeBack_18 ?_
    refine lv_aload_n hx hb dX2_takeBack_21 rfl (lv_at hl 0 rfl) ?_
    refine va_get (D := E.1) (ci := 6) (v := .int (nI 2)) (C := RX2) (T := TX2) (N := 3) hx hb hts inX2 hown hK hP 0 rfl rfl 1 (by decide) (hts _ q149) (fun _ h9 => h9) rfl dX2_takeBack_22 ?_
    refine nv_aald (f := fun j => hs j 0) (i := 2) (n := 8) hx hb hK hP 1 3 rfl rfl (by omega) (by decide) dX2_takeBack_25 ?_
    refine run_v (S := Unit) (run_V (As := [.ref ((hs 2) 0)]) (rest := []) (bs := [hiC E b hs 2 ct, stC E (hs 0) (hg 0), stC E (hs 1) (hg 1), stC E (hs 2) (hg 2), stC E (hs 3) (hg 3), stC E (hs 4) (hg 4), stC E (hs 5) (hg 5), stC E (hs 6) (hg 6), stC E (hs 7) (hg 7), stC E a g]) (cb := [stC E a g, stC E (hs 2) (hg 2)]) hx hb hml hown hts hK hZ hA (c_X4_copyFrom l E _ a g (hs 2) (hg 2)) l_X2_23 rfl ⟨⟨rfl, rfl⟩, Nat.le_of_ble_eq_true rfl, Nat.le_of_ble_eq_true rfl⟩ 8 rfl [9, 3] rfl (by decide) rfl hP hD hS hl.1 rfl (Nat.le_of_ble_eq_true rfl) dX2_takeBack_26 ⟨Nat.zero_le _, Nat.zero_le _⟩) hA hP hD hS (isC := [9, 3]) rfl [0, 1, 2, 4, 5, 6, 7, 8] [0, 1, 2, 9, 3, 4, 5, 6, 7, 8] (br := [hiC E b hs 2 ct, stC E (hs 0) (hg 0), stC E (hs 1) (hg 1), stC E (hs 3) (hg 3), stC E (hs 4) (hg 4), stC E (hs 5) (hg 5), stC E (hs 6) (hg 6), stC E (hs 7) (hg 7)]) (bs2 := fun _ => [hiC E b hs 2 ct, stC E (hs 0) (hg 0), stC E (hs 1) (hg 1), stC E (hs 2) (hg 2), stC E (hs 3) (hg 3), stC E (hs 4) (hg 4), stC E (hs 5) (hg 5), stC E (hs 6) (hg 6), stC E (hs 7) (hg 7), stC E a (hg 2)]) rfl (by decide) (fun _ => rfl) (by decide) (fun u H locs hw hP hD hS => ?_)
    refine lv_aload_n hx hb dX2_takeBack_29 rfl (lv_at hl 0 rfl) ?_
    refine lv_dup hx hb dX2_takeBack_30 rfl ?_
    refine va_get (D := E.1) (ci := 6) (v := .int (nI ct)) (C := RX2) (T := TX2) (N := 3) hx hb hts inX2 hown hK hP 0 rfl rfl 2 (by decide) (hts _ q150) (fun _ h9 => h9) rfl dX2_takeBack_31 ?_
    refine lv_iconst (v := nI 1) hx hb dX2_takeBack_34 (by decide) ?_
    refine nv_isub hx hb (by omega) dX2_takeBack_35 ?_
    refine va_put (D := E.1) (ci := 6) (v := .int (nI (ct - 1))) (ty := .int) (C := RX2) (T := TX2) (N := 3) hx hb hts inX2 tyX2 tyX2_ok nmX2 hown hK hP hD hS 0 rfl rfl 2 (by decide) (hts _ q150) (fun _ h9 => h9) rfl (by decide +kernel) rfl rfl (Nat.le_of_ble_eq_true rfl) dX2_takeBack_36 (fun H locs hP hD hS => ?_)
    have hP : va_P E.1 vwCl ([hiC E b hs 2 (ct - 1), stC E (hs 0) (hg 0), stC E (hs 1) (hg 1), stC E (hs 2) (hg 2), stC E (hs 3) (hg 3), stC E (hs 4) (hg 4), stC E (hs 5) (hg 5), stC E (hs 6) (hg 6), stC E (hs 7) (hg 7), stC E a (hg 2)] : List va_W).flatten H := hP
    have hD : va_D A ([hiC E b hs 2 (ct - 1), stC E (hs 0) (hg 0), stC E (hs 1) (hg 1), stC E (hs 2) (hg 2), stC E (hs 3) (hg 3), stC E (hs 4) (hg 4), stC E (hs 5) (hg 5), stC E (hs 6) (hg 6), stC E (hs 7) (hg 7), stC E a (hg 2)] : List va_W).flatten := hD
    refine lv_aload_n hx hb dX2_takeBack_39 rfl (lv_at hl 0 rfl) ?_
    refine va_get (D := E.1) (ci := 6) (v := .int (nI (ct - 1))) (C := RX2) (T := TX2) (N := 3) hx hb hts inX2 hown hK hP 0 rfl rfl 2 (by decide) (hts _ q150) (fun _ h9 => h9) rfl dX2_takeBack_40 ?_
    have hP : va_P E.1 vwCl ([hhC E b hs hg ((3 + 8 - 1) % 8) (ct - 1), stC E a (hg ((3 + 8 - 1) % 8))] : List va_W).flatten H := by rw [hh_flat]; exact hP
    have hD : va_D A ([hhC E b hs hg ((3 + 8 - 1) % 8) (ct - 1), stC E a (hg ((3 + 8 - 1) % 8))] : List va_W).flatten := by rw [hh_flat]; exact hD
    exact hret _ _ (nI (ct - 1)) () _ _ hP hD hS rfl rfl dX2_takeBack_43
  · skip
    have hP : va_P E.1 vwCl ([hiC E b hs 4 ct, stC E (hs 0) (hg 0), stC E (hs 1) (hg 1), stC E (hs 2) (hg 2), stC E (hs 3) (hg 3), stC E (hs 4) (hg 4), stC E (hs 5) (hg 5), stC E (hs 6) (hg 6), stC E (hs 7) (hg 7), stC E a g] : List va_W).flatten s.heap := by rw [← hh_flat]; exact hP
    have hD : va_D A ([hiC E b hs 4 ct, stC E (hs 0) (hg 0), stC E (hs 1) (hg 1), stC E (hs 2) (hg 2), stC E (hs 3) (hg 3), stC E (hs 4) (hg 4), stC E (hs 5) (hg 5), stC E (hs 6) (hg 6), stC E (hs 7) (hg 7), stC E a g] : List va_W).flatten := by rw [← hh_flat]; exact hD
    refine lv_aload_n hx hb dX2_takeBack_0 rfl (lv_at hl 0 rfl) ?_
    refine lv_aload_n hx hb dX2_takeBack_1 rfl (lv_at hl 0 rfl) ?_
    refine va_get (D := E.1) (ci := 6) (v := .int (nI 4)) (C := RX2) (T := TX2) (N := 3) hx hb hts inX2 hown hK hP 0 rfl rfl 1 (by decide) (hts _ q149) (fun _ h9 => h9) rfl dX2_takeBack_2 ?_
    refine lv_bipush (v := nI 8) hx hb dX2_takeBack_5 (by decide) ?_
    refine nv_iadd hx hb dX2_takeBack_7 ?_
    refine lv_iconst (v := nI 1) hx hb dX2_takeBack_8 (by decide) ?_
    refine nv_isub hx hb (by omega) dX2_takeBack_9 ?_
    refine lv_bipush (v := nI 8) hx hb dX2_takeBack_10 (by decide) ?_
    refine nv_irem hx hb (by omega) (by omega) (by omega) dX2_takeBack_12 ?_
    refine tp_i (show nI (((4 + 8) - 1) % 8) = nI 3 from rfl) ?_
    refine va_put (D := E.1) (ci := 6) (v := .int (nI 3)) (ty := .int) (C := RX2) (T := TX2) (N := 3) hx hb hts inX2 tyX2 tyX2_ok nmX2 hown hK hP hD hS 0 rfl rfl 1 (by decide) (hts _ q149) (fun _ h9 => h9) rfl (by decide +kernel) rfl rfl (Nat.le_of_ble_eq_true rfl) dX2_takeBack_13 (fun H locs hP hD hS => ?_)
    have hP : va_P E.1 vwCl ([hiC E b hs 3 ct, stC E (hs 0) (hg 0), stC E (hs 1) (hg 1), stC E (hs 2) (hg 2), stC E (hs 3) (hg 3), stC E (hs 4) (hg 4), stC E (hs 5) (hg 5), stC E (hs 6) (hg 6), stC E (hs 7) (hg 7), stC E a g] : List va_W).flatten H := hP
    have hD : va_D A ([hiC E b hs 3 ct, stC E (hs 0) (hg 0), stC E (hs 1) (hg 1), stC E (hs 2) (hg 2), stC E (hs 3) (hg 3), stC E (hs 4) (hg 4), stC E (hs 5) (hg 5), stC E (hs 6) (hg 6), stC E (hs 7) (hg 7), stC E a g] : List va_W).flatten := hD
    refine lv_aload_n hx hb dX2_takeBack_16 rfl (lv_at hl 1 rfl) ?_
    refine lv_aload_n hx hb dX2_takeBack_17 rfl (lv_at hl 0 rfl) ?_
    refine va_get (D := E.1) (ci := 6) (v := .ref (b 1)) (C := RX2) (T := TX2) (N := 3) hx hb hts inX2 hown hK hP 0 rfl rfl 0 (by decide) (hts _ q148) (fun _ h9 => h9) rfl dX2_takeBack_18 ?_
    refine lv_aload_n hx hb dX2_takeBack_21 rfl (lv_at hl 0 rfl) ?_
    refine va_get (D := E.1) (ci := 6) (v := .int (nI 3)) (C := RX2) (T := TX2) (N := 3) hx hb hts inX2 hown hK hP 0 rfl rfl 1 (by decide) (hts _ q149) (fun _ h9 => h9) rfl dX2_takeBack_22 ?_
    refine nv_aald (f := fun j => hs j 0) (i := 3) (n := 8) hx hb hK hP 1 3 rfl rfl (by omega) (by decide) dX2_takeBack_25 ?_
    refine run_v (S := Unit) (run_V (As := [.ref ((hs 3) 0)]) (rest := []) (bs := [hiC E b hs 3 ct, stC E (hs 0) (hg 0), stC E (hs 1) (hg 1), stC E (hs 2) (hg 2), stC E (hs 3) (hg 3), stC E (hs 4) (hg 4), stC E (hs 5) (hg 5), stC E (hs 6) (hg 6), stC E (hs 7) (hg 7), stC E a g]) (cb := [stC E a g, stC E (hs 3) (hg 3)]) hx hb hml hown hts hK hZ hA (c_X4_copyFrom l E _ a g (hs 3) (hg 3)) l_X2_23 rfl ⟨⟨rfl, rfl⟩, Nat.le_of_ble_eq_true rfl, Nat.le_of_ble_eq_true rfl⟩ 8 rfl [9, 4] rfl (by decide) rfl hP hD hS hl.1 rfl (Nat.le_of_ble_eq_true rfl) dX2_takeBack_26 ⟨Nat.zero_le _, Nat.zero_le _⟩) hA hP hD hS (isC := [9, 4]) rfl [0, 1, 2, 3, 5, 6, 7, 8] [0, 1, 2, 3, 9, 4, 5, 6, 7, 8] (br := [hiC E b hs 3 ct, stC E (hs 0) (hg 0), stC E (hs 1) (hg 1), stC E (hs 2) (hg 2), stC E (hs 4) (hg 4), stC E (hs 5) (hg 5), stC E (hs 6) (hg 6), stC E (hs 7) (hg 7)]) (bs2 := fun _ => [hiC E b hs 3 ct, stC E (hs 0) (hg 0), stC E (hs 1) (hg 1), stC E (hs 2) (hg 2), stC E (hs 3) (hg 3), stC E (hs 4) (hg 4), stC E (hs 5) (hg 5), stC E (hs 6) (hg 6), stC E (hs 7) (hg 7), stC E a (hg 3)]) rfl (by decide) (fun _ => rfl) (by decide) (fun u H locs hw hP hD hS => ?_)
    refine lv_aload_n hx hb dX2_takeBack_29 rfl (lv_at hl 0 rfl) ?_
    refine lv_dup hx hb dX2_takeBack_30 rfl ?_
    refine va_get (D := E.1) (ci := 6) (v := .int (nI ct)) (C := RX2) (T := TX2) (N := 3) hx hb hts inX2 hown hK hP 0 rfl rfl 2 (by decide) (hts _ q150) (fun _ h9 => h9) rfl dX2_takeBack_31 ?_
    refine lv_iconst (v := nI 1) hx hb dX2_takeBack_34 (by decide) ?_
    refine nv_isub hx hb (by omega) dX2_takeBack_35 ?_
    refine va_put (D := E.1) (ci := 6) (v := .int (nI (ct - 1))) (ty := .int) (C := RX2) (T := TX2) (N := 3) hx hb hts inX2 tyX2 tyX2_ok nmX2 hown hK hP hD hS 0 rfl rfl 2 (by decide) (hts _ q150) (fun _ h9 => h9) rfl (by decide +kernel) rfl rfl (Nat.le_of_ble_eq_true rfl) dX2_takeBack_36 (fun H locs hP hD hS => ?_)
    have hP : va_P E.1 vwCl ([hiC E b hs 3 (ct - 1), stC E (hs 0) (hg 0), stC E (hs 1) (hg 1), stC E (hs 2) (hg 2), stC E (hs 3) (hg 3), stC E (hs 4) (hg 4), stC E (hs 5) (hg 5), stC E (hs 6) (hg 6), stC E (hs 7) (hg 7), stC E a (hg 3)] : List va_W).flatten H := hP
    have hD : va_D A ([hiC E b hs 3 (ct - 1), stC E (hs 0) (hg 0), stC E (hs 1) (hg 1), stC E (hs 2) (hg 2), stC E (hs 3) (hg 3), stC E (hs 4) (hg 4), stC E (hs 5) (hg 5), stC E (hs 6) (hg 6), stC E (hs 7) (hg 7), stC E a (hg 3)] : List va_W).flatten := hD
    refine lv_aload_n hx hb dX2_takeBack_39 rfl (lv_at hl 0 rfl) ?_
    refine va_get (D := E.1) (ci := 6) (v := .int (nI (ct - 1))) (C := RX2) (T := TX2) (N := 3) hx hb hts inX2 hown hK hP 0 rfl rfl 2 (by decide) (hts _ q150) (fun _ h9 => h9) rfl dX2_takeBack_40 ?_
    have hP : va_P E.1 vwCl ([hhC E b hs hg ((4 + 8 - 1) % 8) (ct - 1), stC E a (hg ((4 + 8 - 1) % 8))] : List va_W).flatten H := by rw [hh_flat]; exact hP
    have hD : va_D A ([hhC E b hs hg ((4 + 8 - 1) % 8) (ct - 1), stC E a (hg ((4 + 8 - 1) % 8))] : List va_W).flatten := by rw [hh_flat]; exact hD
    exact hret _ _ (nI (ct - 1)) () _ _ hP hD hS rfl rfl dX2_takeBack_43
  · skip
    have hP : va_P E.1 vwCl ([hiC E b hs 5 ct, stC E (hs 0) (hg 0), stC E (hs 1) (hg 1), stC E (hs 2) (hg 2), stC E (hs 3) (hg 3), stC E (hs 4) (hg 4), stC E (hs 5) (hg 5), stC E (hs 6) (hg 6), stC E (hs 7) (hg 7), stC E a g] : List va_W).flatten s.heap := by rw [← hh_flat]; exact hP
    have hD : va_D A ([hiC E b hs 5 ct, stC E (hs 0) (hg 0), stC E (hs 1) (hg 1), stC E (hs 2) (hg 2), stC E (hs 3) (hg 3), stC E (hs 4) (hg 4), stC E (hs 5) (hg 5), stC E (hs 6) (hg 6), stC E (hs 7) (hg 7), stC E a g] : List va_W).flatten := by rw [← hh_flat]; exact hD
    refine lv_aload_n hx hb dX2_takeBack_0 rfl (lv_at hl 0 rfl) ?_
    refine lv_aload_n hx hb dX2_takeBack_1 rfl (lv_at hl 0 rfl) ?_
    refine va_get (D := E.1) (ci := 6) (v := .int (nI 5)) (C := RX2) (T := TX2) (N := 3) hx hb hts inX2 hown hK hP 0 rfl rfl 1 (by decide) (hts _ q149) (fun _ h9 => h9) rfl dX2_takeBack_2 ?_
    refine lv_bipush (v := nI 8) hx hb dX2_takeBack_5 (by decide) ?_
    refine nv_iadd hx hb dX2_takeBack_7 ?_
    refine lv_iconst (v := nI 1) hx hb dX2_takeBack_8 (by decide) ?_
    refine nv_isub hx hb (by omega) dX2_takeBack_9 ?_
    refine lv_bipush (v := nI 8) hx hb dX2_takeBack_10 (by decide) ?_
    refine nv_irem hx hb (by omega) (by omega) (by omega) dX2_takeBack_12 ?_
    refine tp_i (show nI (((5 + 8) - 1) % 8) = nI 4 from rfl) ?_
    refine va_put (D := E.1) (ci := 6) (v := .int (nI 4)) (ty := .int) (C := RX2) (T := TX2) (N := 3) hx hb hts inX2 tyX2 tyX2_ok nmX2 hown hK hP hD hS 0 rfl rfl 1 (by decide) (hts _ q149) (fun _ h9 => h9) rfl (by decide +kernel) rfl rfl (Nat.le_of_ble_eq_true rfl) dX2_takeBack_13 (fun H locs hP hD hS => ?_)
    have hP : va_P E.1 vwCl ([hiC E b hs 4 ct, stC E (hs 0) (hg 0), stC E (hs 1) (hg 1), stC E (hs 2) (hg 2), stC E (hs 3) (hg 3), stC E (hs 4) (hg 4), stC E (hs 5) (hg 5), stC E (hs 6) (hg 6), stC E (hs 7) (hg 7), stC E a g] : List va_W).flatten H := hP
    have hD : va_D A ([hiC E b hs 4 ct, stC E (hs 0) (hg 0), stC E (hs 1) (hg 1), stC E (hs 2) (hg 2), stC E (hs 3) (hg 3), stC E (hs 4) (hg 4), stC E (hs 5) (hg 5), stC E (hs 6) (hg 6), stC E (hs 7) (hg 7), stC E a g] : List va_W).flatten := hD
    refine lv_aload_n hx hb dX2_takeBack_16 rfl (lv_at hl 1 rfl) ?_
    refine lv_aload_n hx hb dX2_takeBack_17 rfl (lv_at hl 0 rfl) ?_
    refine va_get (D := E.1) (ci := 6) (v := .ref (b 1)) (C := RX2) (T := TX2) (N := 3) hx hb hts inX2 hown hK hP 0 rfl rfl 0 (by decide) (hts _ q148) (fun _ h9 => h9) rfl dX2_takeBack_18 ?_
    refine lv_aload_n hx hb dX2_takeBack_21 rfl (lv_at hl 0 rfl) ?_
    refine va_get (D := E.1) (ci := 6) (v := .int (nI 4)) (C := RX2) (T := TX2) (N := 3) hx hb hts inX2 hown hK hP 0 rfl rfl 1 (by decide) (hts _ q149) (fun _ h9 => h9) rfl dX2_takeBack_22 ?_
    refine nv_aald (f := fun j => hs j 0) (i := 4) (n := 8) hx hb hK hP 1 3 rfl rfl (by omega) (by decide) dX2_takeBack_25 ?_
    refine run_v (S := Unit) (run_V (As := [.ref ((hs 4) 0)]) (rest := []) (bs := [hiC E b hs 4 ct, stC E (hs 0) (hg 0), stC E (hs 1) (hg 1), stC E (hs 2) (hg 2), stC E (hs 3) (hg 3), stC E (hs 4) (hg 4), stC E (hs 5) (hg 5), stC E (hs 6) (hg 6), stC E (hs 7) (hg 7), stC E a g]) (cb := [stC E a g, stC E (hs 4) (hg 4)]) hx hb hml hown hts hK hZ hA (c_X4_copyFrom l E _ a g (hs 4) (hg 4)) l_X2_23 rfl ⟨⟨rfl, rfl⟩, Nat.le_of_ble_eq_true rfl, Nat.le_of_ble_eq_true rfl⟩ 8 rfl [9, 5] rfl (by decide) rfl hP hD hS hl.1 rfl (Nat.le_of_ble_eq_true rfl) dX2_takeBack_26 ⟨Nat.zero_le _, Nat.zero_le _⟩) hA hP hD hS (isC := [9, 5]) rfl [0, 1, 2, 3, 4, 6, 7, 8] [0, 1, 2, 3, 4, 9, 5, 6, 7, 8] (br := [hiC E b hs 4 ct, stC E (hs 0) (hg 0), stC E (hs 1) (hg 1), stC E (hs 2) (hg 2), stC E (hs 3) (hg 3), stC E (hs 5) (hg 5), stC E (hs 6) (hg 6), stC E (hs 7) (hg 7)]) (bs2 := fun _ => [hiC E b hs 4 ct, stC E (hs 0) (hg 0), stC E (hs 1) (hg 1), stC E (hs 2) (hg 2), stC E (hs 3) (hg 3), stC E (hs 4) (hg 4), stC E (hs 5) (hg 5), stC E (hs 6) (hg 6), stC E (hs 7) (hg 7), stC E a (hg 4)]) rfl (by decide) (fun _ => rfl) (by decide) (fun u H locs hw hP hD hS => ?_)
    refine lv_aload_n hx hb dX2_takeBack_29 rfl (lv_at hl 0 rfl) ?_
    refine lv_dup hx hb dX2_takeBack_30 rfl ?_
    refine va_get (D := E.1) (ci := 6) (v := .int (nI ct)) (C := RX2) (T := TX2) (N := 3) hx hb hts inX2 hown hK hP 0 rfl rfl 2 (by decide) (hts _ q150) (fun _ h9 => h9) rfl dX2_takeBack_31 ?_
    refine lv_iconst (v := nI 1) hx hb dX2_takeBack_34 (by decide) ?_
    refine nv_isub hx hb (by omega) dX2_takeBack_35 ?_
    refine va_put (D := E.1) (ci := 6) (v := .int (nI (ct - 1))) (ty := .int) (C := RX2) (T := TX2) (N := 3) hx hb hts inX2 tyX2 tyX2_ok nmX2 hown hK hP hD hS 0 rfl rfl 2 (by decide) (hts _ q150) (fun _ h9 => h9) rfl (by decide +kernel) rfl rfl (Nat.le_of_ble_eq_true rfl) dX2_takeBack_36 (fun H locs hP hD hS => ?_)
    have hP : va_P E.1 vwCl ([hiC E b hs 4 (ct - 1), stC E (hs 0) (hg 0), stC E (hs 1) (hg 1), stC E (hs 2) (hg 2), stC E (hs 3) (hg 3), stC E (hs 4) (hg 4), stC E (hs 5) (hg 5), stC E (hs 6) (hg 6), stC E (hs 7) (hg 7), stC E a (hg 4)] : List va_W).flatten H := hP
    have hD : va_D A ([hiC E b hs 4 (ct - 1), stC E (hs 0) (hg 0), stC E (hs 1) (hg 1), stC E (hs 2) (hg 2), stC E (hs 3) (hg 3), stC E (hs 4) (hg 4), stC E (hs 5) (hg 5), stC E (hs 6) (hg 6), stC E (hs 7) (hg 7), stC E a (hg 4)] : List va_W).flatten := hD
    refine lv_aload_n hx hb dX2_takeBack_39 rfl (lv_at hl 0 rfl) ?_
    refine va_get (D := E.1) (ci := 6) (v := .int (nI (ct - 1))) (C := RX2) (T := TX2) (N := 3) hx hb hts inX2 hown hK hP 0 rfl rfl 2 (by decide) (hts _ q150) (fun _ h9 => h9) rfl dX2_takeBack_40 ?_
    have hP : va_P E.1 vwCl ([hhC E b hs hg ((5 + 8 - 1) % 8) (ct - 1), stC E a (hg ((5 + 8 - 1) % 8))] : List va_W).flatten H := by rw [hh_flat]; exact hP
    have hD : va_D A ([hhC E b hs hg ((5 + 8 - 1) % 8) (ct - 1), stC E a (hg ((5 + 8 - 1) % 8))] : List va_W).flatten := by rw [hh_flat]; exact hD
    exact hret _ _ (nI (ct - 1)) () _ _ hP hD hS rfl rfl dX2_takeBack_43
  · skip
    have hP : va_P E.1 vwCl ([hiC E b hs 6 ct, stC E (hs 0) (hg 0), stC E (hs 1) (hg 1), stC E (hs 2) (hg 2), stC E (hs 3) (hg 3), stC E (hs 4) (hg 4), stC E (hs 5) (hg 5), stC E (hs 6) (hg 6), stC E (hs 7) (hg 7), stC E a g] : List va_W).flatten s.heap := by rw [← hh_flat]; exact hP
    have hD : va_D A ([hiC E b hs 6 ct, stC E (hs 0) (hg 0), stC E (hs 1) (hg 1), stC E (hs 2) (hg 2), stC E (hs 3) (hg 3), stC E (hs 4) (hg 4), stC E (hs 5) (hg 5), stC E (hs 6) (hg 6), stC E (hs 7) (hg 7), stC E a g] : List va_W).flatten := by rw [← hh_flat]; exact hD
    refine lv_aload_n hx hb dX2_takeBack_0 rfl (lv_at hl 0 rfl) ?_
    refine lv_aload_n hx hb dX2_takeBack_1 rfl (lv_at hl 0 rfl) ?_
    refine va_get (D := E.1) (ci := 6) (v := .int (nI 6)) (C := RX2) (T := TX2) (N := 3) hx hb hts inX2 hown hK hP 0 rfl rfl 1 (by decide) (hts _ q149) (fun _ h9 => h9) rfl dX2_takeBack_2 ?_
    refine lv_bipush (v := nI 8) hx hb dX2_takeBack_5 (by decide) ?_
    refine nv_iadd hx hb dX2_takeBack_7 ?_
    refine lv_iconst (v := nI 1) hx hb dX2_takeBack_8 (by decide) ?_
    refine nv_isub hx hb (by omega) dX2_takeBack_9 ?_
    refine lv_bipush (v := nI 8) hx hb dX2_takeBack_10 (by decide) ?_
    refine nv_irem hx hb (by omega) (by omega) (by omega) dX2_takeBack_12 ?_
    refine tp_i (show nI (((6 + 8) - 1) % 8) = nI 5 from rfl) ?_
    refine va_put (D := E.1) (ci := 6) (v := .int (nI 5)) (ty := .int) (C := RX2) (T := TX2) (N := 3) hx hb hts inX2 tyX2 tyX2_ok nmX2 hown hK hP hD hS 0 rfl rfl 1 (by decide) (hts _ q149) (fun _ h9 => h9) rfl (by decide +kernel) rfl rfl (Nat.le_of_ble_eq_true rfl) dX2_takeBack_13 (fun H locs hP hD hS => ?_)
    have hP : va_P E.1 vwCl ([hiC E b hs 5 ct, stC E (hs 0) (hg 0), stC E (hs 1) (hg 1), stC E (hs 2) (hg 2), stC E (hs 3) (hg 3), stC E (hs 4) (hg 4), stC E (hs 5) (hg 5), stC E (hs 6) (hg 6), stC E (hs 7) (hg 7), stC E a g] : List va_W).flatten H := hP
    have hD : va_D A ([hiC E b hs 5 ct, stC E (hs 0) (hg 0), stC E (hs 1) (hg 1), stC E (hs 2) (hg 2), stC E (hs 3) (hg 3), stC E (hs 4) (hg 4), stC E (hs 5) (hg 5), stC E (hs 6) (hg 6), stC E (hs 7) (hg 7), stC E a g] : List va_W).flatten := hD
    refine lv_aload_n hx hb dX2_takeBack_16 rfl (lv_at hl 1 rfl) ?_
    refine lv_aload_n hx hb dX2_takeBack_17 rfl (lv_at hl 0 rfl) ?_
    refine va_get (D := E.1) (ci := 6) (v := .ref (b 1)) (C := RX2) (T := TX2) (N := 3) hx hb hts inX2 hown hK hP 0 rfl rfl 0 (by decide) (hts _ q148) (fun _ h9 => h9) rfl dX2_takeBack_18 ?_
    refine lv_aload_n hx hb dX2_takeBack_21 rfl (lv_at hl 0 rfl) ?_
    refine va_get (D := E.1) (ci := 6) (v := .int (nI 5)) (C := RX2) (T := TX2) (N := 3) hx hb hts inX2 hown hK hP 0 rfl rfl 1 (by decide) (hts _ q149) (fun _ h9 => h9) rfl dX2_takeBack_22 ?_
    refine nv_aald (f := fun j => hs j 0) (i := 5) (n := 8) hx hb hK hP 1 3 rfl rfl (by omega) (by decide) dX2_takeBack_25 ?_
    refine run_v (S := Unit) (run_V (As := [.ref ((hs 5) 0)]) (rest := []) (bs := [hiC E b hs 5 ct, stC E (hs 0) (hg 0), stC E (hs 1) (hg 1), stC E (hs 2) (hg 2), stC E (hs 3) (hg 3), stC E (hs 4) (hg 4), stC E (hs 5) (hg 5), stC E (hs 6) (hg 6), stC E (hs 7) (hg 7), stC E a g]) (cb := [stC E a g, stC E (hs 5) (hg 5)]) hx hb hml hown hts hK hZ hA (c_X4_copyFrom l E _ a g (hs 5) (hg 5)) l_X2_23 rfl ⟨⟨rfl, rfl⟩, Nat.le_of_ble_eq_true rfl, Nat.le_of_ble_eq_true rfl⟩ 8 rfl [9, 6] rfl (by decide) rfl hP hD hS hl.1 rfl (Nat.le_of_ble_eq_true rfl) dX2_takeBack_26 ⟨Nat.zero_le _, Nat.zero_le _⟩) hA hP hD hS (isC := [9, 6]) rfl [0, 1, 2, 3, 4, 5, 7, 8] [0, 1, 2, 3, 4, 5, 9, 6, 7, 8] (br := [hiC E b hs 5 ct, stC E (hs 0) (hg 0), stC E (hs 1) (hg 1), stC E (hs 2) (hg 2), stC E (hs 3) (hg 3), stC E (hs 4) (hg 4), stC E (hs 6) (hg 6), stC E (hs 7) (hg 7)]) (bs2 := fun _ => [hiC E b hs 5 ct, stC E (hs 0) (hg 0), stC E (hs 1) (hg 1), stC E (hs 2) (hg 2), stC E (hs 3) (hg 3), stC E (hs 4) (hg 4), stC E (hs 5) (hg 5), stC E (hs 6) (hg 6), stC E (hs 7) (hg 7), stC E a (hg 5)]) rfl (by decide) (fun _ => rfl) (by decide) (fun u H locs hw hP hD hS => ?_)
    refine lv_aload_n hx hb dX2_takeBack_29 rfl (lv_at hl 0 rfl) ?_
    refine lv_dup hx hb dX2_takeBack_30 rfl ?_
    refine va_get (D := E.1) (ci := 6) (v := .int (nI ct)) (C := RX2) (T := TX2) (N := 3) hx hb hts inX2 hown hK hP 0 rfl rfl 2 (by decide) (hts _ q150) (fun _ h9 => h9) rfl dX2_takeBack_31 ?_
    refine lv_iconst (v := nI 1) hx hb dX2_takeBack_34 (by decide) ?_
    refine nv_isub hx hb (by omega) dX2_takeBack_35 ?_
    refine va_put (D := E.1) (ci := 6) (v := .int (nI (ct - 1))) (ty := .int) (C := RX2) (T := TX2) (N := 3) hx hb hts inX2 tyX2 tyX2_ok nmX2 hown hK hP hD hS 0 rfl rfl 2 (by decide) (hts _ q150) (fun _ h9 => h9) rfl (by decide +kernel) rfl rfl (Nat.le_of_ble_eq_true rfl) dX2_takeBack_36 (fun H locs hP hD hS => ?_)
    have hP : va_P E.1 vwCl ([hiC E b hs 5 (ct - 1), stC E (hs 0) (hg 0), stC E (hs 1) (hg 1), stC E (hs 2) (hg 2), stC E (hs 3) (hg 3), stC E (hs 4) (hg 4), stC E (hs 5) (hg 5), stC E (hs 6) (hg 6), stC E (hs 7) (hg 7), stC E a (hg 5)] : List va_W).flatten H := hP
    have hD : va_D A ([hiC E b hs 5 (ct - 1), stC E (hs 0) (hg 0), stC E (hs 1) (hg 1), stC E (hs 2) (hg 2), stC E (hs 3) (hg 3), stC E (hs 4) (hg 4), stC E (hs 5) (hg 5), stC E (hs 6) (hg 6), stC E (hs 7) (hg 7), stC E a (hg 5)] : List va_W).flatten := hD
    refine lv_aload_n hx hb dX2_takeBack_39 rfl (lv_at hl 0 rfl) ?_
    refine va_get (D := E.1) (ci := 6) (v := .int (nI (ct - 1))) (C := RX2) (T := TX2) (N := 3) hx hb hts inX2 hown hK hP 0 rfl rfl 2 (by decide) (hts _ q150) (fun _ h9 => h9) rfl dX2_takeBack_40 ?_
    have hP : va_P E.1 vwCl ([hhC E b hs hg ((6 + 8 - 1) % 8) (ct - 1), stC E a (hg ((6 + 8 - 1) % 8))] : List va_W).flatten H := by rw [hh_flat]; exact hP
    have hD : va_D A ([hhC E b hs hg ((6 + 8 - 1) % 8) (ct - 1), stC E a (hg ((6 + 8 - 1) % 8))] : List va_W).flatten := by rw [hh_flat]; exact hD
    exact hret _ _ (nI (ct - 1)) () _ _ hP hD hS rfl rfl dX2_takeBack_43
  · skip
    have hP : va_P E.1 vwCl ([hiC E b hs 7 ct, stC E (hs 0) (hg 0), stC E (hs 1) (hg 1), stC E (hs 2) (hg 2), stC E (hs 3) (hg 3), stC E (hs 4) (hg 4), stC E (hs 5) (hg 5), stC E (hs 6) (hg 6), stC E (hs 7) (hg 7), stC E a g] : List va_W).flatten s.heap := by rw [← hh_flat]; exact hP
    have hD : va_D A ([hiC E b hs 7 ct, stC E (hs 0) (hg 0), stC E (hs 1) (hg 1), stC E (hs 2) (hg 2), stC E (hs 3) (hg 3), stC E (hs 4) (hg 4), stC E (hs 5) (hg 5), stC E (hs 6) (hg 6), stC E (hs 7) (hg 7), stC E a g] : List va_W).flatten := by rw [← hh_flat]; exact hD
    refine lv_aload_n hx hb dX2_takeBack_0 rfl (lv_at hl 0 rfl) ?_
    refine lv_aload_n hx hb dX2_takeBack_1 rfl (lv_at hl 0 rfl) ?_
    refine va_get (D := E.1) (ci := 6) (v := .int (nI 7)) (C := RX2) (T := TX2) (N := 3) hx hb hts inX2 hown hK hP 0 rfl rfl 1 (by decide) (hts _ q149) (fun _ h9 => h9) rfl dX2_takeBack_2 ?_
    refine lv_bipush (v := nI 8) hx hb dX2_takeBack_5 (by decide) ?_
    refine nv_iadd hx hb dX2_takeBack_7 ?_
    refine lv_iconst (v := nI 1) hx hb dX2_takeBack_8 (by decide) ?_
    refine nv_isub hx hb (by omega) dX2_takeBack_9 ?_
    refine lv_bipush (v := nI 8) hx hb dX2_takeBack_10 (by decide) ?_
    refine nv_irem hx hb (by omega) (by omega) (by omega) dX2_takeBack_12 ?_
    refine tp_i (show nI (((7 + 8) - 1) % 8) = nI 6 from rfl) ?_
    refine va_put (D := E.1) (ci := 6) (v := .int (nI 6)) (ty := .int) (C := RX2) (T := TX2) (N := 3) hx hb hts inX2 tyX2 tyX2_ok nmX2 hown hK hP hD hS 0 rfl rfl 1 (by decide) (hts _ q149) (fun _ h9 => h9) rfl (by decide +kernel) rfl rfl (Nat.le_of_ble_eq_true rfl) dX2_takeBack_13 (fun H locs hP hD hS => ?_)
    have hP : va_P E.1 vwCl ([hiC E b hs 6 ct, stC E (hs 0) (hg 0), stC E (hs 1) (hg 1), stC E (hs 2) (hg 2), stC E (hs 3) (hg 3), stC E (hs 4) (hg 4), stC E (hs 5) (hg 5), stC E (hs 6) (hg 6), stC E (hs 7) (hg 7), stC E a g] : List va_W).flatten H := hP
    have hD : va_D A ([hiC E b hs 6 ct, stC E (hs 0) (hg 0), stC E (hs 1) (hg 1), stC E (hs 2) (hg 2), stC E (hs 3) (hg 3), stC E (hs 4) (hg 4), stC E (hs 5) (hg 5), stC E (hs 6) (hg 6), stC E (hs 7) (hg 7), stC E a g] : List va_W).flatten := hD
    refine lv_aload_n hx hb dX2_takeBack_16 rfl (lv_at hl 1 rfl) ?_
    refine lv_aload_n hx hb dX2_takeBack_17 rfl (lv_at hl 0 rfl) ?_
    refine va_get (D := E.1) (ci := 6) (v := .ref (b 1)) (C := RX2) (T := TX2) (N := 3) hx hb hts inX2 hown hK hP 0 rfl rfl 0 (by decide) (hts _ q148) (fun _ h9 => h9) rfl dX2_takeBack_18 ?_
    refine lv_aload_n hx hb dX2_takeBack_21 rfl (lv_at hl 0 rfl) ?_
    refine va_get (D := E.1) (ci := 6) (v := .int (nI 6)) (C := RX2) (T := TX2) (N := 3) hx hb hts inX2 hown hK hP 0 rfl rfl 1 (by decide) (hts _ q149) (fun _ h9 => h9) rfl dX2_takeBack_22 ?_
    refine nv_aald (f := fun j => hs j 0) (i := 6) (n := 8) hx hb hK hP 1 3 rfl rfl (by omega) (by decide) dX2_takeBack_25 ?_
    refine run_v (S := Unit) (run_V (As := [.ref ((hs 6) 0)]) (rest := []) (bs := [hiC E b hs 6 ct, stC E (hs 0) (hg 0), stC E (hs 1) (hg 1), stC E (hs 2) (hg 2), stC E (hs 3) (hg 3), stC E (hs 4) (hg 4), stC E (hs 5) (hg 5), stC E (hs 6) (hg 6), stC E (hs 7) (hg 7), stC E a g]) (cb := [stC E a g, stC E (hs 6) (hg 6)]) hx hb hml hown hts hK hZ hA (c_X4_copyFrom l E _ a g (hs 6) (hg 6)) l_X2_23 rfl ⟨⟨rfl, rfl⟩, Nat.le_of_ble_eq_true rfl, Nat.le_of_ble_eq_true rfl⟩ 8 rfl [9, 7] rfl (by decide) rfl hP hD hS hl.1 rfl (Nat.le_of_ble_eq_true rfl) dX2_takeBack_26 ⟨Nat.zero_le _, Nat.zero_le _⟩) hA hP hD hS (isC := [9, 7]) rfl [0, 1, 2, 3, 4, 5, 6, 8] [0, 1, 2, 3, 4, 5, 6, 9, 7, 8] (br := [hiC E b hs 6 ct, stC E (hs 0) (hg 0), stC E (hs 1) (hg 1), stC E (hs 2) (hg 2), stC E (hs 3) (hg 3), stC E (hs 4) (hg 4), stC E (hs 5) (hg 5), stC E (hs 7) (hg 7)]) (bs2 := fun _ => [hiC E b hs 6 ct, stC E (hs 0) (hg 0), stC E (hs 1) (hg 1), stC E (hs 2) (hg 2), stC E (hs 3) (hg 3), stC E (hs 4) (hg 4), stC E (hs 5) (hg 5), stC E (hs 6) (hg 6), stC E (hs 7) (hg 7), stC E a (hg 6)]) rfl (by decide) (fun _ => rfl) (by decide) (fun u H locs hw hP hD hS => ?_)
    refine lv_aload_n hx hb dX2_takeBack_29 rfl (lv_at hl 0 rfl) ?_
    refine lv_dup hx hb dX2_takeBack_30 rfl ?_
    refine va_get (D := E.1) (ci := 6) (v := .int (nI ct)) (C := RX2) (T := TX2) (N := 3) hx hb hts inX2 hown hK hP 0 rfl rfl 2 (by decide) (hts _ q150) (fun _ h9 => h9) rfl dX2_takeBack_31 ?_
    refine lv_iconst (v := nI 1) hx hb dX2_takeBack_34 (by decide) ?_
    refine nv_isub hx hb (by omega) dX2_takeBack_35 ?_
    refine va_put (D := E.1) (ci := 6) (v := .int (nI (ct - 1))) (ty := .int) (C := RX2) (T := TX2) (N := 3) hx hb hts inX2 tyX2 tyX2_ok nmX2 hown hK hP hD hS 0 rfl rfl 2 (by decide) (hts _ q150) (fun _ h9 => h9) rfl (by decide +kernel) rfl rfl (Nat.le_of_ble_eq_true rfl) dX2_takeBack_36 (fun H locs hP hD hS => ?_)
    have hP : va_P E.1 vwCl ([hiC E b hs 6 (ct - 1), stC E (hs 0) (hg 0), stC E (hs 1) (hg 1), stC E (hs 2) (hg 2), stC E (hs 3) (hg 3), stC E (hs 4) (hg 4), stC E (hs 5) (hg 5), stC E (hs 6) (hg 6), stC E (hs 7) (hg 7), stC E a (hg 6)] : List va_W).flatten H := hP
    have hD : va_D A ([hiC E b hs 6 (ct - 1), stC E (hs 0) (hg 0), stC E (hs 1) (hg 1), stC E (hs 2) (hg 2), stC E (hs 3) (hg 3), stC E (hs 4) (hg 4), stC E (hs 5) (hg 5), stC E (hs 6) (hg 6), stC E (hs 7) (hg 7), stC E a (hg 6)] : List va_W).flatten := hD
    refine lv_aload_n hx hb dX2_takeBack_39 rfl (lv_at hl 0 rfl) ?_
    refine va_get (D := E.1) (ci := 6) (v := .int (nI (ct - 1))) (C := RX2) (T := TX2) (N := 3) hx hb hts inX2 hown hK hP 0 rfl rfl 2 (by decide) (hts _ q150) (fun _ h9 => h9) rfl dX2_takeBack_40 ?_
    have hP : va_P E.1 vwCl ([hhC E b hs hg ((7 + 8 - 1) % 8) (ct - 1), stC E a (hg ((7 + 8 - 1) % 8))] : List va_W).flatten H := by rw [hh_flat]; exact hP
    have hD : va_D A ([hhC E b hs hg ((7 + 8 - 1) % 8) (ct - 1), stC E a (hg ((7 + 8 - 1) % 8))] : List va_W).flatten := by rw [hh_flat]; exact hD
    exact hret _ _ (nI (ct - 1)) () _ _ hP hD hS rfl rfl dX2_takeBack_43
abbrev rm_X2_forget : Room := { frames := 0, cells := 0, slots := 0, locals := 0 }
set_option maxHeartbeats 4000000 in
set_option maxRecDepth 100000 in
theorem c_X2_forget (l : Launch) (E : EE) (sz : Nat) (b : Nat → Nat) (hs : Nat → Nat → Nat) (hg : Nat → GG) (nx ct : Nat)  : MV l yX2_forget cX2_forget 1 rm_X2_forget [.ref (b 0)] E sz [hhC E b hs hg nx ct] (fun (_ : Unit) => True) (fun _ => [hhC E b hs hg nx 0]) 0 0 := by
  refine mv_go (by decide) (Nat.le_of_ble_eq_true rfl) ?_
  intro p e s m below meth c A Q ls hx hb hml hown hts hK hZ hA hsz hP hD hl hret hnm
  have hS : va_S A s.heap s.heap [] := va_S.rf
  have hl : lv_has ls 1 [(0, .ref (b 0))] := hl
  skip
  · skip
    have hP : va_P E.1 vwCl ([hiC E b hs nx ct, stC E (hs 0) (hg 0), stC E (hs 1) (hg 1), stC E (hs 2) (hg 2), stC E (hs 3) (hg 3), stC E (hs 4) (hg 4), stC E (hs 5) (hg 5), stC E (hs 6) (hg 6), stC E (hs 7) (hg 7)] : List va_W).flatten s.heap := by rw [← hh_flat]; exact hP
    have hD : va_D A ([hiC E b hs nx ct, stC E (hs 0) (hg 0), stC E (hs 1) (hg 1), stC E (hs 2) (hg 2), stC E (hs 3) (hg 3), stC E (hs 4) (hg 4), stC E (hs 5) (hg 5), stC E (hs 6) (hg 6), stC E (hs 7) (hg 7)] : List va_W).flatten := by rw [← hh_flat]; exact hD
    refine lv_aload_n hx hb dX2_forget_0 rfl (lv_at hl 0 rfl) ?_
    refine lv_iconst (v := nI 0) hx hb dX2_forget_1 (by decide) ?_
    refine va_put (D := E.1) (ci := 6) (v := .int (nI 0)) (ty := .int) (C := RX2) (T := TX2) (N := 3) hx hb hts inX2 tyX2 tyX2_ok nmX2 hown hK hP hD hS 0 rfl rfl 2 (by decide) (hts _ q150) (fun _ h9 => h9) rfl (by decide +kernel) rfl rfl (Nat.le_of_ble_eq_true rfl) dX2_forget_2 (fun H locs hP hD hS => ?_)
    have hP : va_P E.1 vwCl ([hiC E b hs nx 0, stC E (hs 0) (hg 0), stC E (hs 1) (hg 1), stC E (hs 2) (hg 2), stC E (hs 3) (hg 3), stC E (hs 4) (hg 4), stC E (hs 5) (hg 5), stC E (hs 6) (hg 6), stC E (hs 7) (hg 7)] : List va_W).flatten H := hP
    have hD : va_D A ([hiC E b hs nx 0, stC E (hs 0) (hg 0), stC E (hs 1) (hg 1), stC E (hs 2) (hg 2), stC E (hs 3) (hg 3), stC E (hs 4) (hg 4), stC E (hs 5) (hg 5), stC E (hs 6) (hg 6), stC E (hs 7) (hg 7)] : List va_W).flatten := hD
    have hP : va_P E.1 vwCl ([hhC E b hs hg nx 0] : List va_W).flatten H := by rw [hh_flat]; exact hP
    have hD : va_D A ([hhC E b hs hg nx 0] : List va_W).flatten := by rw [hh_flat]; exact hD
    exact hret _ _ () _ _ hP hD hS trivial dX2_forget_5
