/-! methods that answer a double, a float -/
abbrev MD (l : Launch) (y : MethodName) (b : ByteArray) (ml : Nat) (rm : Room) (Args : List Value) (E : EE) (sz : Nat) (bs : List va_W) {S : Type} (post : UInt64 → S → Prop) (bs' : S → List va_W) (mc ms : Nat) : Prop :=
  Met l y (Wd y b ml (some .double)) rm (va_Pc Args (PB E sz bs)) (va_Qd post (fun u t => QB E (va_A bs.flatten sz) (bs' u) t) (va_A bs.flatten sz)) mc ms (va_A bs.flatten sz)
abbrev MF (l : Launch) (y : MethodName) (b : ByteArray) (ml : Nat) (rm : Room) (Args : List Value) (E : EE) (sz : Nat) (bs : List va_W) {S : Type} (post : UInt32 → S → Prop) (bs' : S → List va_W) (mc ms : Nat) : Prop :=
  Met l y (Wd y b ml (some .float)) rm (va_Pc Args (PB E sz bs)) (va_Qf post (fun u t => QB E (va_A bs.flatten sz) (bs' u) t) (va_A bs.flatten sz)) mc ms (va_A bs.flatten sz)
section GOD
variable {l : Launch} {y : MethodName} {cc : ByteArray} {ml : Nat} {rt : FieldType} {rm : Room} {Args : List Value} {E : EE} {sz : Nat} {bs : List va_W} {S : Type} {bs' : S → List va_W} {mc ms : Nat}
theorem md_go {post : UInt64 → S → Prop} (hy : plainName y.cls = true) (hlen : (lg_sl Args).length ≤ ml)
    (body : ∀ (p : Program) (e : Env) (s : State) (m : MethodId) (below : List Frame) (meth : Method) (c : Code) (A : Nat → Prop) (Q : State → Prop) (ls : Array Slot), p.tables.exec = Jvm.exec → c.code = cc → c.maxLocals = ml → s.vm.findClass y.cls = some m.cls → (∀ w ∈ TG, w.before Args.toArray s = true) → va_K E.1 vwCl (tyl E.2.1) s → ZZ E A s s.heap → (∀ q, s.heap.size ≤ q → A q) → s.heap.size = sz → va_P E.1 vwCl bs.flatten s.heap → va_D A bs.flatten → lv_has ls ml (lv_args 0 Args) →
      (∀ (H : Heap) (locs : List Loc) (v : UInt64) (u : S) (pc : Nat) (ls : Array Slot), va_P E.1 vwCl (bs' u).flatten H → va_D A (bs' u).flatten → va_S A s.heap H locs → post v u → decode cc pc = .ok (.dreturn, 1) → W p l e rm s m Args.toArray below meth c H locs mc ms Q (F0 m pc ls [.double v])) →
      W p l e rm s m Args.toArray below meth c s.heap [] 0 0 Q (F0 m 0 ls [])) : MD l y cc ml rm Args E sz bs post bs' mc ms := by
  refine Met.ofW (cc := cc) (maxL := ml) (ret := some .double) hy rfl ?_
  intro p e s m args below meth c s₁ B hml hv
  obtain ⟨rfl, hsz, hP, hK, hD0, hZ⟩ := hv
  rw [lg_entry_eq]
  refine body p e s m below meth c (va_A bs.flatten sz) _ _ B.exec B.bytes hml (findClass_of_methodNamed B.named) (fun w hw => atoms_spec B.pre w (List.mem_cons_of_mem _ hw)) hK hZ (fun q hq => Or.inr (by rw [← hsz]; exact hq)) hsz hP hD0.self (lv_entry Args hlen) ?_
  intro H locs v u pc ls hP' hD' hS' hpost hdg
  exact W.dret B.exec B.bytes B.returns (fun t ht hW => ⟨⟨v, u, rfl, hpost, by rw [ht]; exact hP', va_K.moved hW.alike hK, hD'⟩, hS'.F ht⟩) hS'.2.2 hdg B.notSynchronized
theorem mf_go {post : UInt32 → S → Prop} (hy : plainName y.cls = true) (hlen : (lg_sl Args).length ≤ ml)
    (body : ∀ (p : Program) (e : Env) (s : State) (m : MethodId) (below : List Frame) (meth : Method) (c : Code) (A : Nat → Prop) (Q : State → Prop) (ls : Array Slot), p.tables.exec = Jvm.exec → c.code = cc → c.maxLocals = ml → s.vm.findClass y.cls = some m.cls → (∀ w ∈ TG, w.before Args.toArray s = true) → va_K E.1 vwCl (tyl E.2.1) s → ZZ E A s s.heap → (∀ q, s.heap.size ≤ q → A q) → s.heap.size = sz → va_P E.1 vwCl bs.flatten s.heap → va_D A bs.flatten → lv_has ls ml (lv_args 0 Args) →
      (∀ (H : Heap) (locs : List Loc) (v : UInt32) (u : S) (pc : Nat) (ls : Array Slot), va_P E.1 vwCl (bs' u).flatten H → va_D A (bs' u).flatten → va_S A s.heap H locs → post v u → decode cc pc = .ok (.freturn, 1) → W p l e rm s m Args.toArray below meth c H locs mc ms Q (F0 m pc ls [.float v])) →
      W p l e rm s m Args.toArray below meth c s.heap [] 0 0 Q (F0 m 0 ls [])) : MF l y cc ml rm Args E sz bs post bs' mc ms := by
  refine Met.ofW (cc := cc) (maxL := ml) (ret := some .float) hy rfl ?_
  intro p e s m args below meth c s₁ B hml hv
  obtain ⟨rfl, hsz, hP, hK, hD0, hZ⟩ := hv
  rw [lg_entry_eq]
  refine body p e s m below meth c (va_A bs.flatten sz) _ _ B.exec B.bytes hml (findClass_of_methodNamed B.named) (fun w hw => atoms_spec B.pre w (List.mem_cons_of_mem _ hw)) hK hZ (fun q hq => Or.inr (by rw [← hsz]; exact hq)) hsz hP hD0.self (lv_entry Args hlen) ?_
  intro H locs v u pc ls hP' hD' hS' hpost hdg
  exact W.fret B.exec B.bytes B.returns (fun t ht hW => ⟨⟨v, u, rfl, hpost, by rw [ht]; exact hP', va_K.moved hW.alike hK, hD'⟩, hS'.F ht⟩) hS'.2.2 hdg B.notSynchronized
end GOD
abbrev rm_X6_meanPurse : Room := { frames := 2, cells := 0, slots := 0, locals := 44 }
set_option maxHeartbeats 4000000 in
set_option maxRecDepth 100000 in
theorem c_X6_meanPurse (l : Launch) (E : EE) (sz : Nat) (b : Nat → Nat) (z : Nat → Nat) (g : GG) (gs : Nat → GG) (ar : GG) (B : Nat) (hI : IB B g)  : MD l yX6_meanPurse cX6_meanPurse 1 rm_X6_meanPurse [.ref (b 0)] E sz [moC E b z g gs ar] (fun (r : UInt64) (_ : Unit) => r = (if g 8 0 = 0 then FP.dconst0 else mpD g)) (fun _ => [moC E b (upn z 0 (if g 8 0 = 0 then 1 else 0)) g gs ar]) 0 0 := by
  refine md_go (by decide) (Nat.le_of_ble_eq_true rfl) ?_
  intro p e s m below meth c A Q ls hx hb hml hown hts hK hZ hA hsz hP hD hl hret
  have hS : va_S A s.heap s.heap [] := va_S.rf
  have hl : lv_has ls 1 [(0, .ref (b 0))] := hl
  skip
  have hmc := hI.mc
  have hbu := hI.bud
  have hpn : pursN g ≤ sm (g 5) 8 := sm_mono hmc
  refine lv_aload_n hx hb dX6_meanPurse_0 rfl (lv_at hl 0 rfl) ?_
  refine lv_aload_n hx hb dX6_meanPurse_1 rfl (lv_at hl 0 rfl) ?_
  refine va_get (D := E.1) (ci := 10) (v := .ref (b 1)) (C := RX6) (T := TX6) (N := 20) hx hb hts inX6 hown hK hP 0 rfl rfl 1 (by decide) (hts _ q1435) (fun _ h9 => h9) rfl dX6_meanPurse_2 ?_
  refine lv_iconst (v := nI 0) hx hb dX6_meanPurse_5 (by decide) ?_
  refine nv_iald (f := (flat g)) (i := 0) (n := 74) hx hb hK hP 1 0 rfl rfl (by omega) (by decide) dX6_meanPurse_6 ?_
  refine tp_i (show nI ((flat g) 0) = nI (g 8 0) from rfl) ?_
  refine nv_if_ne (X := ((g 8 0 : Nat) : Int)) hx hb (nI_toInt (by omega)) (tgt := 14) dX6_meanPurse_7 (by decide) (fun c_1 => ?_) (fun c_1 => ?_)
  · skip
    have h0 : ¬ g 8 0 = 0 := by omega
    refine lv_iconst (v := nI 0) hx hb dX6_meanPurse_14 (by decide) ?_
    refine va_put (D := E.1) (ci := 10) (v := .int (nI 0)) (ty := .int) (C := RX6) (T := TX6) (N := 20) hx hb hts inX6 tyX6 tyX6_ok nmX6 hown hK hP hD hS 0 rfl rfl 0 (by decide) (hts _ q1434) (fun _ h9 => h9) rfl (by decide +kernel) rfl rfl (Nat.le_of_ble_eq_true rfl) dX6_meanPurse_15 (fun H locs hP hD hS => ?_)
    have hP : va_P E.1 vwCl ([moC E b (upn z 0 0) g gs ar] : List va_W).flatten H := hP
    have hD : va_D A ([moC E b (upn z 0 0) g gs ar] : List va_W).flatten := hD
    refine lv_aload_n hx hb dX6_meanPurse_18 rfl (lv_at hl 0 rfl) ?_
    refine va_get (D := E.1) (ci := 10) (v := .int (nI 0)) (C := RX6) (T := TX6) (N := 20) hx hb hts inX6 hown hK hP 0 rfl rfl 0 (by decide) (hts _ q1434) (fun _ h9 => h9) rfl dX6_meanPurse_19 ?_
    refine nv_if_le (X := ((0 : Nat) : Int)) hx hb (nI_toInt (by omega)) (tgt := 29) dX6_meanPurse_22 (by decide) (fun c_2 => ?_) (fun c_2 => ?_)
    · skip
      refine lv_aload_n hx hb dX6_meanPurse_29 rfl (lv_at hl 0 rfl) ?_
      refine run_i (S := Unit) (run_V (As := []) (rest := []) (bs := [moC E b (upn z 0 0) g gs ar]) (cb := [moC E b (upn z 0 0) g gs ar]) hx hb hml hown hts hK hZ hA (c_X6_purses l E _ b (upn z 0 0) g gs ar   hmc) l_X6_158 rfl ⟨⟨rfl, rfl⟩, Nat.le_of_ble_eq_true rfl, Nat.le_of_ble_eq_true rfl⟩ 10 rfl [0] rfl (by decide) rfl hP hD hS hl.1 rfl (Nat.le_of_ble_eq_true rfl) dX6_meanPurse_30 ⟨Nat.zero_le _, Nat.zero_le _⟩) hA hP hD hS (isC := [0]) rfl [] [0] (br := []) (bs2 := fun _ => [moC E b (upn z 0 0) g gs ar]) rfl (by decide) (fun _ => rfl) (by decide) (fun r u H locs hw hP hD hS => ?_)
      subst hw
      refine lv_i2d hx hb dX6_meanPurse_33 ?_
      refine lv_aload_n hx hb dX6_meanPurse_34 rfl (lv_at hl 0 rfl) ?_
      refine va_get (D := E.1) (ci := 10) (v := .ref (b 1)) (C := RX6) (T := TX6) (N := 20) hx hb hts inX6 hown hK hP 0 rfl rfl 1 (by decide) (hts _ q1435) (fun _ h9 => h9) rfl dX6_meanPurse_35 ?_
      refine lv_iconst (v := nI 0) hx hb dX6_meanPurse_38 (by decide) ?_
      refine nv_iald (f := (flat g)) (i := 0) (n := 74) hx hb hK hP 1 0 rfl rfl (by omega) (by decide) dX6_meanPurse_39 ?_
      refine tp_i (show nI ((flat g) 0) = nI (g 8 0) from rfl) ?_
      refine lv_i2d hx hb dX6_meanPurse_40 ?_
      refine lv_ddiv hx hb dX6_meanPurse_41 (mp_n hI (by omega)) ?_
      have hvE : (if g 8 0 = 0 then 1 else 0) = 0 := by rw [if_neg h0]
      have hP : va_P E.1 vwCl ([moC E b (upn z 0 (if g 8 0 = 0 then 1 else 0)) g gs ar] : List va_W).flatten H := by rw [hvE]; exact hP
      have hD : va_D A ([moC E b (upn z 0 (if g 8 0 = 0 then 1 else 0)) g gs ar] : List va_W).flatten := by rw [hvE]; exact hD
      clear hvE
      exact hret _ _ (mpD g) () _ _ hP hD hS (by rw [if_neg h0]) dX6_meanPurse_42
    · exact absurd c_2 (by omega)
  · skip
    have h0 : g 8 0 = 0 := by omega
    refine lv_iconst (v := nI 1) hx hb dX6_meanPurse_10 (by decide) ?_
    refine lv_goto (tgt := 15) hx hb dX6_meanPurse_11 (by decide) ?_
    refine va_put (D := E.1) (ci := 10) (v := .int (nI 1)) (ty := .int) (C := RX6) (T := TX6) (N := 20) hx hb hts inX6 tyX6 tyX6_ok nmX6 hown hK hP hD hS 0 rfl rfl 0 (by decide) (hts _ q1434) (fun _ h9 => h9) rfl (by decide +kernel) rfl rfl (Nat.le_of_ble_eq_true rfl) dX6_meanPurse_15 (fun H locs hP hD hS => ?_)
    have hP : va_P E.1 vwCl ([moC E b (upn z 0 1) g gs ar] : List va_W).flatten H := hP
    have hD : va_D A ([moC E b (upn z 0 1) g gs ar] : List va_W).flatten := hD
    refine lv_aload_n hx hb dX6_meanPurse_18 rfl (lv_at hl 0 rfl) ?_
    refine va_get (D := E.1) (ci := 10) (v := .int (nI 1)) (C := RX6) (T := TX6) (N := 20) hx hb hts inX6 hown hK hP 0 rfl rfl 0 (by decide) (hts _ q1434) (fun _ h9 => h9) rfl dX6_meanPurse_19 ?_
    refine nv_if_le (X := ((1 : Nat) : Int)) hx hb (nI_toInt (by omega)) (tgt := 29) dX6_meanPurse_22 (by decide) (fun c_3 => ?_) (fun c_3 => ?_)
    · exact absurd c_3 (by omega)
    · skip
      refine lv_dconst0 hx hb dX6_meanPurse_25 ?_
      refine lv_goto (tgt := 42) hx hb dX6_meanPurse_26 (by decide) ?_
      have hvE : (if g 8 0 = 0 then 1 else 0) = 1 := by rw [if_pos h0]
      have hP : va_P E.1 vwCl ([moC E b (upn z 0 (if g 8 0 = 0 then 1 else 0)) g gs ar] : List va_W).flatten H := by rw [hvE]; exact hP
      have hD : va_D A ([moC E b (upn z 0 (if g 8 0 = 0 then 1 else 0)) g gs ar] : List va_W).flatten := by rw [hvE]; exact hD
      clear hvE
      exact hret _ _ FP.dconst0 () _ _ hP hD hS (by rw [if_pos h0]) dX6_meanPurse_42
abbrev rm_X6_powerShare : Room := { frames := 4, cells := 0, slots := 0, locals := 88 }
set_option maxHeartbeats 4000000 in
set_option maxRecDepth 100000 in
theorem c_X6_powerShare (l : Launch) (E : EE) (sz : Nat) (b : Nat → Nat) (z : Nat → Nat) (g : GG) (gs : Nat → GG) (ar : GG) (B : Nat) (hI : IB B g) (p0 : Int32)  : MF l yX6_powerShare cX6_powerShare 4 rm_X6_powerShare [.ref (b 0), .int p0] E sz [moC E b z g gs ar] (fun (r : UInt32) (_ : Unit) => r = (if hasM g p0 = true then psF g (tn p0) else FP.fconst0)) (fun _ => [moC E b (upn z 0 (if hasM g p0 = true then 0 else 1)) g gs ar]) 0 0 := by
  refine mf_go (by decide) (Nat.le_of_ble_eq_true rfl) ?_
  intro p e s m below meth c A Q ls hx hb hml hown hts hK hZ hA hsz hP hD hl hret
  have hS : va_S A s.heap s.heap [] := va_S.rf
  have hl : lv_has ls 4 [(0, .ref (b 0)), (1, .int p0)] := hl
  skip
  have hmc := hI.mc
  have hbu := hI.bud
  refine lv_aload_n hx hb dX6_powerShare_0 rfl (lv_at hl 0 rfl) ?_
  refine lv_iload_n hx hb dX6_powerShare_1 rfl (lv_at hl 1 rfl) ?_
  refine run_i (S := Unit) (run_V (As := [.int p0]) (rest := []) (bs := [moC E b z g gs ar]) (cb := [moC E b z g gs ar]) hx hb hml hown hts hK hZ hA (c_X6_isAsked l E _ b z g gs ar  p0 hmc) l_X6_133 rfl ⟨⟨rfl, rfl⟩, Nat.le_of_ble_eq_true rfl, Nat.le_of_ble_eq_true rfl⟩ 10 rfl [0] rfl (by decide) rfl hP hD hS hl.1 rfl (Nat.le_of_ble_eq_true rfl) dX6_powerShare_2 ⟨Nat.zero_le _, Nat.zero_le _⟩) hA hP hD hS (isC := [0]) rfl [] [0] (br := []) (bs2 := fun _ => [moC E b (upn z 0 (if hasM g p0 = true then 0 else 1)) g gs ar]) rfl (by decide) (fun _ => rfl) (by decide) (fun r u H locs hw hP hD hS => ?_)
  subst hw
  refine bv_if_ne hx hb (tgt := 10) dX6_powerShare_5 (by decide) (fun c_1 => ?_) (fun c_1 => ?_)
  · skip
    have hh := c_1
    have hh1 := of_decide_eq_true (show decide (0 ≤ p0.toInt ∧ p0.toInt < (g 8 0 : Int)) = true from hh)
    obtain ⟨m0, hm0, rfl, em0⟩ := raw_n (x := p0) (by omega)
    refine lv_iconst (v := nI 0) hx hb dX6_powerShare_10 (by decide) ?_
    refine lv_istore_n (lv' := [(2, .int (nI 0)), (0, .ref (b 0)), (1, .int (nI m0))]) hx hb dX6_powerShare_11 rfl hl (by decide) rfl (fun ls hl => ?_)
    refine lv_iconst (v := nI 0) hx hb dX6_powerShare_12 (by decide) ?_
    refine lv_istore_n (lv' := [(3, .int (nI 0)), (2, .int (nI 0)), (0, .ref (b 0)), (1, .int (nI m0))]) hx hb dX6_powerShare_13 rfl hl (by decide) rfl (fun ls hl => ?_)
    have loop14 : ∀ (n : Nat) (i : Nat), (i ≤ g 8 0) → g 8 0 - i < n → ∀ (H : Heap) (locs : List Loc) (ls : Array Slot), va_P E.1 vwCl ([moC E b (upn z 0 (if hasM g (nI m0) = true then 0 else 1)) g gs ar] : List va_W).flatten H → va_D A ([moC E b (upn z 0 (if hasM g (nI m0) = true then 0 else 1)) g gs ar] : List va_W).flatten → va_S A s.heap H locs → lv_has ls 4 [(0, .ref (b 0)), (1, .int (nI m0)), (2, .int (nI (sm (powN g) i))), (3, .int (nI i))] → W p l e rm_X6_powerShare s m ([.ref (b 0), .int (nI m0)] : List Value).toArray below meth c H locs 0 0 Q (F0 m 14 ls []) := by
      intro n14
      induction n14 with
      | zero => intro i hi hn14; exact absurd hn14 (Nat.not_lt_zero _)
      | succ n14 ih14 =>
        intro i hi hn14 H locs ls hP hD hS hl
        refine lv_iload_n hx hb dX6_powerShare_14 rfl (lv_at hl 3 rfl) ?_
        refine lv_aload_n hx hb dX6_powerShare_15 rfl (lv_at hl 0 rfl) ?_
        refine va_get (D := E.1) (ci := 10) (v := .ref (b 1)) (C := RX6) (T := TX6) (N := 20) hx hb hts inX6 hown hK hP 0 rfl rfl 1 (by decide) (hts _ q1435) (fun _ h9 => h9) rfl dX6_powerShare_16 ?_
        refine lv_iconst (v := nI 0) hx hb dX6_powerShare_19 (by decide) ?_
        refine nv_iald (f := (flat g)) (i := 0) (n := 74) hx hb hK hP 1 0 rfl rfl (by omega) (by decide) dX6_powerShare_20 ?_
        refine tp_i (show nI ((flat g) 0) = nI (g 8 0) from rfl) ?_
        refine nv_icmp_ge (X := ((i : Nat) : Int)) (Y := ((g 8 0 : Nat) : Int)) hx hb (nI_toInt (by omega)) (nI_toInt (by omega)) (tgt := 38) dX6_powerShare_21 (by decide) (fun c_2 => ?_) (fun c_2 => ?_)
        · skip
          rw [show sm (powN g) i = sm (powN g) (g 8 0) from by rw [show i = g 8 0 by omega]] at hl
          refine lv_aload_n hx hb dX6_powerShare_38 rfl (lv_at hl 0 rfl) ?_
          refine lv_iload_n hx hb dX6_powerShare_39 rfl (lv_at hl 1 rfl) ?_
          refine run_i (S := Unit) (run_V (As := [.int (nI m0)]) (rest := []) (bs := [moC E b (upn z 0 (if hasM g (nI m0) = true then 0 else 1)) g gs ar]) (cb := [moC E b (upn z 0 (if hasM g (nI m0) = true then 0 else 1)) g gs ar]) hx hb hml hown hts hK hZ hA (c_X6_decisive l E _ b (upn z 0 (if hasM g (nI m0) = true then 0 else 1)) g gs ar _ hI m0 (by omega)) l_X6_152 rfl ⟨⟨rfl, rfl⟩, Nat.le_of_ble_eq_true rfl, Nat.le_of_ble_eq_true rfl⟩ 10 rfl [0] rfl (by decide) rfl hP hD hS hl.1 rfl (Nat.le_of_ble_eq_true rfl) dX6_powerShare_40 ⟨Nat.zero_le _, Nat.zero_le _⟩) hA hP hD hS (isC := [0]) rfl [] [0] (br := []) (bs2 := fun _ => [moC E b (upn z 0 (if hasM g (nI m0) = true then 0 else 1)) g gs ar]) rfl (by decide) (fun _ => rfl) (by decide) (fun r u H locs hw hP hD hS => ?_)
          subst hw
          refine lv_i2f hx hb dX6_powerShare_43 ?_
          refine lv_iload_n hx hb dX6_powerShare_44 rfl (lv_at hl 2 rfl) ?_
          refine lv_i2f hx hb dX6_powerShare_45 ?_
          refine lv_fdiv hx hb dX6_powerShare_46 (ps_n hI (by omega) _) ?_
          exact hret _ _ (psF g m0) () _ _ hP hD hS (by rw [if_pos hh, tn_nI hm0]) dX6_powerShare_47
        · skip
          have hp1 := powN_le hI i
          have hp2 := powN_sum hI i
          refine lv_iload_n hx hb dX6_powerShare_24 rfl (lv_at hl 2 rfl) ?_
          refine lv_aload_n hx hb dX6_powerShare_25 rfl (lv_at hl 0 rfl) ?_
          refine lv_iload_n hx hb dX6_powerShare_26 rfl (lv_at hl 3 rfl) ?_
          refine run_i (S := Unit) (run_V (As := [.int (nI i)]) (rest := [.int (nI (sm (powN g) i))]) (bs := [moC E b (upn z 0 (if hasM g (nI m0) = true then 0 else 1)) g gs ar]) (cb := [moC E b (upn z 0 (if hasM g (nI m0) = true then 0 else 1)) g gs ar]) hx hb hml hown hts hK hZ hA (c_X6_decisive l E _ b (upn z 0 (if hasM g (nI m0) = true then 0 else 1)) g gs ar _ hI i (by omega)) l_X6_152 rfl ⟨⟨rfl, rfl⟩, Nat.le_of_ble_eq_true rfl, Nat.le_of_ble_eq_true rfl⟩ 10 rfl [0] rfl (by decide) rfl hP hD hS hl.1 rfl (Nat.le_of_ble_eq_true rfl) dX6_powerShare_27 ⟨Nat.zero_le _, Nat.zero_le _⟩) hA hP hD hS (isC := [0]) rfl [] [0] (br := []) (bs2 := fun _ => [moC E b (upn z 0 (if hasM g (nI m0) = true then 0 else 1)) g gs ar]) rfl (by decide) (fun _ => rfl) (by decide) (fun r u H locs hw hP hD hS => ?_)
          subst hw
          refine nv_iadd hx hb dX6_powerShare_30 ?_
          refine lv_istore_n (lv' := [(2, .int (nI (sm (powN g) i + (powN g i)))), (0, .ref (b 0)), (1, .int (nI m0)), (3, .int (nI i))]) hx hb dX6_powerShare_31 rfl hl (by decide) rfl (fun ls hl => ?_)
          refine lv_iinc (v := nI (i + 1)) (lv' := [(3, .int (nI (i + 1))), (2, .int (nI (sm (powN g) i + (powN g i)))), (0, .ref (b 0)), (1, .int (nI m0))]) hx hb dX6_powerShare_32 hl (k := 3) rfl (nI_add i 1) (by decide) rfl (fun ls hl => ?_)
          refine lv_goto (tgt := 14) hx hb dX6_powerShare_35 (by decide) ?_
          exact ih14 (i + 1) (by omega) (by omega) _ _ _ hP hD hS (lv_sub hl [2, 3, 1, 0] rfl)
    exact loop14 _ 0 (by omega) (Nat.lt_succ_self _) _ _ _ hP hD hS (lv_sub hl [2, 3, 1, 0] rfl)
  · skip
    have hh := c_1
    refine lv_fconst0 hx hb dX6_powerShare_8 ?_
    exact hret _ _ FP.fconst0 () _ _ hP hD hS (by rw [if_neg (by rw [hh]; decide)]) dX6_powerShare_9
