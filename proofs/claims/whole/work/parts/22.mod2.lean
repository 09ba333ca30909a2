/-! the reference's calls -/
def tn (x : Int32) : Nat := x.toInt.toNat
theorem tn_nI {n : Nat} (h : n < 2147483648) : tn (nI n) = n := by unfold tn; rw [nI_toInt h]; exact Int.toNat_natCast n
def fPay (g : GG) : Nat := if g 8 0 = 0 then 3 else 0
def aVot (g : GG) (t k : Nat) : Nat := if favN g t k < quo g then 0 else 1
theorem flat_set64' {g : GG} {v : Nat} : upn (flat g) 64 v = flat (up2 g 7 0 v) := flat_setb (k := 0)
theorem spo_bI {A B : Bool} (h : A = B) : nI (if A = true then 1 else 0) = bI B := by subst h; cases A <;> rfl
theorem cl2_f1 {g : GG} {x y k : Nat} (hx : x < k) (h : (stM g k).testBit x = false) : cl2 g x y = false := by
  rw [stM_bit, decide_eq_true hx, Bool.true_and] at h
  unfold cl2; rw [h]; rfl
theorem cl2_f2 {g : GG} {x y k : Nat} (hy : y < k) (h : (stM g k).testBit y = false) : cl2 g x y = false := by
  rw [stM_bit, decide_eq_true hy, Bool.true_and] at h
  unfold cl2; rw [h, Bool.and_false]; rfl
theorem cl2_3 {g : GG} {x y k : Nat} {b : Bool} (hx : x < k) (hy : y < k) (h1 : (stM g k).testBit x = true) (h2 : (stM g k).testBit y = true) (h : decide (ap (g 3 x) (g 3 y) = 1 ∨ ap (g 3 x) (g 3 y) = 6) = b) : cl2 g x y = b := by
  rw [stM_bit, decide_eq_true hx, Bool.true_and] at h1
  rw [stM_bit, decide_eq_true hy, Bool.true_and] at h2
  unfold cl2; rw [h1, h2, h]; rfl
abbrev rm_X6_oneBeat : Room := { frames := 2, cells := 0, slots := 0, locals := 44 }
set_option maxHeartbeats 4000000 in
set_option maxRecDepth 100000 in
theorem c_X6_oneBeat (l : Launch) (E : EE) (sz : Nat) (b : Nat → Nat) (z : Nat → Nat) (g : GG) (gs : Nat → GG) (ar : GG) (B : Nat) (hI : IB B g)  : MI l yX6_oneBeat cX6_oneBeat 6 .int rm_X6_oneBeat [.ref (b 0)] E sz [moC E b z g gs ar] (fun (r : Int32) (_ : Unit) => r = nI (oneN g)) (fun _ => [moC E b z (oneG g) gs ar]) 0 0 := by
  refine mi_go (by decide) (Nat.le_of_ble_eq_true rfl) ?_
  intro p e s m below meth c A Q ls hx hb hml hown hts hK hZ hA hsz hP hD hl hret
  have hS : va_S A s.heap s.heap [] := va_S.rf
  have hl : lv_has ls 6 [(0, .ref (b 0))] := hl
  skip
  have hmc := hI.mc
  have hbu := hI.bud
  have h107 : g 8 7 ≤ 10 := hI.1.2.2
  have h256 : stM g (g 8 0) < 2 ^ 8 := Nat.lt_of_lt_of_le stM_lt (Nat.pow_le_pow_right (by decide) hmc)
  have hce : spO g (g 8 0) = clM (msk g (g 8 0)) := clash_eq (fun m hm => (hI.mem hm).2.2.1)
  refine lv_aload_n hx hb dX6_oneBeat_0 rfl (lv_at hl 0 rfl) ?_
  refine va_get (D := E.1) (ci := 10) (v := .ref (b 1)) (C := RX6) (T := TX6) (N := 20) hx hb hts inX6 hown hK hP 0 rfl rfl 1 (by decide) (hts _ q1435) (fun _ h9 => h9) rfl dX6_oneBeat_1 ?_
  refine lv_iconst (v := nI 1) hx hb dX6_oneBeat_4 (by decide) ?_
  refine lv_dup2_11 hx hb dX6_oneBeat_5 rfl rfl ?_
  refine nv_iald (f := (flat g)) (i := 1) (n := 74) hx hb hK hP 1 0 rfl rfl (by omega) (by decide) dX6_oneBeat_6 ?_
  refine tp_i (show nI ((flat g) 1) = nI (g 8 1) from rfl) ?_
  refine lv_iconst (v := nI 1) hx hb dX6_oneBeat_7 (by decide) ?_
  refine nv_iadd hx hb dX6_oneBeat_8 ?_
  refine nv_iast (f := (flat g)) (i := 1) (v := g 8 1 + 1) (n := 74) hx hb hK hP hD hS 1 0 rfl rfl (by omega) (by decide) dX6_oneBeat_9 (fun H locs hP hD hS => ?_)
  rw [flat_set8 (by decide)] at hP hD
  have hP : va_P E.1 vwCl ([moC E b z (up2 g 8 1 (g 8 1 + 1)) gs ar] : List va_W).flatten H := hP
  have hD : va_D A ([moC E b z (up2 g 8 1 (g 8 1 + 1)) gs ar] : List va_W).flatten := hD
  refine lv_iconst (v := nI 0) hx hb dX6_oneBeat_10 (by decide) ?_
  refine lv_istore_n (lv' := [(1, .int (nI 0)), (0, .ref (b 0))]) hx hb dX6_oneBeat_11 rfl hl (by decide) rfl (fun ls hl => ?_)
  refine lv_iconst (v := nI 0) hx hb dX6_oneBeat_12 (by decide) ?_
  refine lv_istore_n (lv' := [(2, .int (nI 0)), (1, .int (nI 0)), (0, .ref (b 0))]) hx hb dX6_oneBeat_13 rfl hl (by decide) rfl (fun ls hl => ?_)
  refine lv_iconst (v := nI 0) hx hb dX6_oneBeat_14 (by decide) ?_
  refine lv_istore_n (lv' := [(3, .int (nI 0)), (2, .int (nI 0)), (1, .int (nI 0)), (0, .ref (b 0))]) hx hb dX6_oneBeat_15 rfl hl (by decide) rfl (fun ls hl => ?_)
  have loop16 : ∀ (n : Nat) (i : Nat), (i ≤ g 8 0) → g 8 0 - i < n → ∀ (H : Heap) (locs : List Loc) (ls : Array Slot), va_P E.1 vwCl ([moC E b z (upr (up2 g 8 1 (g 8 1 + 1)) 4 (fl (g 4) (spN g) i)) gs ar] : List va_W).flatten H → va_D A ([moC E b z (upr (up2 g 8 1 (g 8 1 + 1)) 4 (fl (g 4) (spN g) i)) gs ar] : List va_W).flatten → va_S A s.heap H locs → lv_has ls 6 [(0, .ref (b 0)), (1, .int (nI (stM g i))), (2, .int (nI (chN g i))), (3, .int (nI i))] → W p l e rm_X6_oneBeat s m ([.ref (b 0)] : List Value).toArray below meth c H locs 0 0 Q (F0 m 16 ls []) := by
    intro n16
    induction n16 with
    | zero => intro i hi hn16; exact absurd hn16 (Nat.not_lt_zero _)
    | succ n16 ih16 =>
      intro i hi hn16 H locs ls hP hD hS hl
      refine lv_iload_n hx hb dX6_oneBeat_16 rfl (lv_at hl 3 rfl) ?_
      refine lv_aload_n hx hb dX6_oneBeat_17 rfl (lv_at hl 0 rfl) ?_
      refine va_get (D := E.1) (ci := 10) (v := .ref (b 1)) (C := RX6) (T := TX6) (N := 20) hx hb hts inX6 hown hK hP 0 rfl rfl 1 (by decide) (hts _ q1435) (fun _ h9 => h9) rfl dX6_oneBeat_18 ?_
      refine lv_iconst (v := nI 0) hx hb dX6_oneBeat_21 (by decide) ?_
      refine nv_iald (f := (flat (upr (up2 g 8 1 (g 8 1 + 1)) 4 (fl (g 4) (spN g) i)))) (i := 0) (n := 74) hx hb hK hP 1 0 rfl rfl (by omega) (by decide) dX6_oneBeat_22 ?_
      refine tp_i (show nI ((flat (upr (up2 g 8 1 (g 8 1 + 1)) 4 (fl (g 4) (spN g) i))) 0) = nI (g 8 0) from rfl) ?_
      refine nv_icmp_ge (X := ((i : Nat) : Int)) (Y := ((g 8 0 : Nat) : Int)) hx hb (nI_toInt (by omega)) (nI_toInt (by omega)) (tgt := 81) dX6_oneBeat_23 (by decide) (fun c_1 => ?_) (fun c_1 => ?_)
      · skip
        rw [show stM g i = stM g (g 8 0) from by rw [show i = g 8 0 by omega]] at hl
        rw [show chN g i = chN g (g 8 0) from by rw [show i = g 8 0 by omega]] at hl
        have hgE : (upr (up2 g 8 1 (g 8 1 + 1)) 4 (fl (g 4) (spN g) i)) = (upr (up2 g 8 1 (g 8 1 + 1)) 4 (fl (g 4) (spN g) (g 8 0))) := by rw [show i = g 8 0 by omega]
        rw [hgE] at hP hD; clear hgE
        refine lv_aload_n hx hb dX6_oneBeat_81 rfl (lv_at hl 0 rfl) ?_
        refine va_get (D := E.1) (ci := 10) (v := .ref (b 1)) (C := RX6) (T := TX6) (N := 20) hx hb hts inX6 hown hK hP 0 rfl rfl 1 (by decide) (hts _ q1435) (fun _ h9 => h9) rfl dX6_oneBeat_82 ?_
        refine lv_bipush (v := nI 6) hx hb dX6_oneBeat_85 (by decide) ?_
        refine lv_dup2_11 hx hb dX6_oneBeat_87 rfl rfl ?_
        refine nv_iald (f := (flat (upr (up2 g 8 1 (g 8 1 + 1)) 4 (fl (g 4) (spN g) (g 8 0))))) (i := 6) (n := 74) hx hb hK hP 1 0 rfl rfl (by omega) (by decide) dX6_oneBeat_88 ?_
        refine tp_i (show nI ((flat (upr (up2 g 8 1 (g 8 1 + 1)) 4 (fl (g 4) (spN g) (g 8 0)))) 6) = nI (g 8 6) from rfl) ?_
        refine lv_iload_n hx hb dX6_oneBeat_89 rfl (lv_at hl 2 rfl) ?_
        refine nv_iadd hx hb dX6_oneBeat_90 ?_
        refine nv_iast (f := (flat (upr (up2 g 8 1 (g 8 1 + 1)) 4 (fl (g 4) (spN g) (g 8 0))))) (i := 6) (v := g 8 6 + (chN g (g 8 0))) (n := 74) hx hb hK hP hD hS 1 0 rfl rfl (by omega) (by decide) dX6_oneBeat_91 (fun H locs hP hD hS => ?_)
        rw [flat_set8 (by decide)] at hP hD
        have hP : va_P E.1 vwCl ([moC E b z (up2 (upr (up2 g 8 1 (g 8 1 + 1)) 4 (fl (g 4) (spN g) (g 8 0))) 8 6 (g 8 6 + (chN g (g 8 0)))) gs ar] : List va_W).flatten H := hP
        have hD : va_D A ([moC E b z (up2 (upr (up2 g 8 1 (g 8 1 + 1)) 4 (fl (g 4) (spN g) (g 8 0))) 8 6 (g 8 6 + (chN g (g 8 0)))) gs ar] : List va_W).flatten := hD
        refine lv_iconst (v := nI 0) hx hb dX6_oneBeat_92 (by decide) ?_
        refine lv_istore_n (lv' := [(3, .int (nI 0)), (0, .ref (b 0)), (1, .int (nI (stM g (g 8 0)))), (2, .int (nI (chN g (g 8 0))))]) hx hb dX6_oneBeat_93 rfl hl (by decide) rfl (fun ls hl => ?_)
        refine lv_iconst (v := nI 0) hx hb dX6_oneBeat_94 (by decide) ?_
        refine lv_istore (lv' := [(4, .int (nI 0)), (3, .int (nI 0)), (0, .ref (b 0)), (1, .int (nI (stM g (g 8 0)))), (2, .int (nI (chN g (g 8 0))))]) hx hb dX6_oneBeat_95 hl (by decide) rfl (fun ls hl => ?_)
        have loop97 : ∀ (n : Nat) (i : Nat), (i ≤ g 8 0) → g 8 0 - i < n → ∀ (H : Heap) (locs : List Loc) (ls : Array Slot), va_P E.1 vwCl ([moC E b z (up2 (upr (up2 g 8 1 (g 8 1 + 1)) 4 (fl (g 4) (spN g) (g 8 0))) 8 6 (g 8 6 + (chN g (g 8 0)))) gs ar] : List va_W).flatten H → va_D A ([moC E b z (up2 (upr (up2 g 8 1 (g 8 1 + 1)) 4 (fl (g 4) (spN g) (g 8 0))) 8 6 (g 8 6 + (chN g (g 8 0)))) gs ar] : List va_W).flatten → va_S A s.heap H locs → lv_has ls 6 [(0, .ref (b 0)), (1, .int (nI (stM g (g 8 0)))), (2, .int (nI (chN g (g 8 0)))), (3, .int (nI (if spO g i = true then 1 else 0))), (4, .int (nI i))] → W p l e rm_X6_oneBeat s m ([.ref (b 0)] : List Value).toArray below meth c H locs 0 0 Q (F0 m 97 ls []) := by
          intro n97
          induction n97 with
          | zero => intro i hi hn97; exact absurd hn97 (Nat.not_lt_zero _)
          | succ n97 ih97 =>
            intro i hi hn97 H locs ls hP hD hS hl
            refine lv_iload hx hb dX6_oneBeat_97 (lv_at hl 4 rfl) ?_
            refine lv_aload_n hx hb dX6_oneBeat_99 rfl (lv_at hl 0 rfl) ?_
            refine va_get (D := E.1) (ci := 10) (v := .ref (b 1)) (C := RX6) (T := TX6) (N := 20) hx hb hts inX6 hown hK hP 0 rfl rfl 1 (by decide) (hts _ q1435) (fun _ h9 => h9) rfl dX6_oneBeat_100 ?_
            refine lv_iconst (v := nI 0) hx hb dX6_oneBeat_103 (by decide) ?_
            refine nv_iald (f := (flat (up2 (upr (up2 g 8 1 (g 8 1 + 1)) 4 (fl (g 4) (spN g) (g 8 0))) 8 6 (g 8 6 + (chN g (g 8 0)))))) (i := 0) (n := 74) hx hb hK hP 1 0 rfl rfl (by omega) (by decide) dX6_oneBeat_104 ?_
            refine tp_i (show nI ((flat (up2 (upr (up2 g 8 1 (g 8 1 + 1)) 4 (fl (g 4) (spN g) (g 8 0))) 8 6 (g 8 6 + (chN g (g 8 0))))) 0) = nI (g 8 0) from rfl) ?_
            refine nv_icmp_ge (X := ((i : Nat) : Int)) (Y := ((g 8 0 : Nat) : Int)) hx hb (nI_toInt (by omega)) (nI_toInt (by omega)) (tgt := 178) dX6_oneBeat_105 (by decide) (fun c_2 => ?_) (fun c_2 => ?_)
            · skip
              rw [show (if spO g i = true then 1 else 0) = (if spO g (g 8 0) = true then 1 else 0) from by rw [show i = g 8 0 by omega]] at hl
              have hl : lv_has ls 6 [(0, .ref (b 0)), (1, .int (nI (stM g (g 8 0)))), (2, .int (nI (chN g (g 8 0)))), (3, .int (bI (clM (msk g (g 8 0))))), (4, .int (nI i))] := by rw [← spo_bI hce]; exact hl
              refine lv_iload_n hx hb dX6_oneBeat_178 rfl (lv_at hl 3 rfl) ?_
              refine bv_if_eq hx hb (tgt := 261) dX6_oneBeat_179 (by decide) (fun c_3 => ?_) (fun c_3 => ?_)
              · skip
                have hcl := c_3
                refine lv_aload_n hx hb dX6_oneBeat_261 rfl (lv_at hl 0 rfl) ?_
                refine va_get (D := E.1) (ci := 10) (v := .ref (b 1)) (C := RX6) (T := TX6) (N := 20) hx hb hts inX6 hown hK hP 0 rfl rfl 1 (by decide) (hts _ q1435) (fun _ h9 => h9) rfl dX6_oneBeat_262 ?_
                refine lv_iconst (v := nI 2) hx hb dX6_oneBeat_265 (by decide) ?_
                refine lv_dup2_11 hx hb dX6_oneBeat_266 rfl rfl ?_
                refine nv_iald (f := (flat (up2 (upr (up2 g 8 1 (g 8 1 + 1)) 4 (fl (g 4) (spN g) (g 8 0))) 8 6 (g 8 6 + (chN g (g 8 0)))))) (i := 2) (n := 74) hx hb hK hP 1 0 rfl rfl (by omega) (by decide) dX6_oneBeat_267 ?_
                refine tp_i (show nI ((flat (up2 (upr (up2 g 8 1 (g 8 1 + 1)) 4 (fl (g 4) (spN g) (g 8 0))) 8 6 (g 8 6 + (chN g (g 8 0))))) 2) = nI (g 8 2) from rfl) ?_
                refine lv_iload_n hx hb dX6_oneBeat_268 rfl (lv_at hl 2 rfl) ?_
                refine nv_iadd hx hb dX6_oneBeat_269 ?_
                refine nv_iast (f := (flat (up2 (upr (up2 g 8 1 (g 8 1 + 1)) 4 (fl (g 4) (spN g) (g 8 0))) 8 6 (g 8 6 + (chN g (g 8 0)))))) (i := 2) (v := g 8 2 + (chN g (g 8 0))) (n := 74) hx hb hK hP hD hS 1 0 rfl rfl (by omega) (by decide) dX6_oneBeat_270 (fun H locs hP hD hS => ?_)
                rw [flat_set8 (by decide)] at hP hD
                have hP : va_P E.1 vwCl ([moC E b z (up2 (up2 (upr (up2 g 8 1 (g 8 1 + 1)) 4 (fl (g 4) (spN g) (g 8 0))) 8 6 (g 8 6 + (chN g (g 8 0)))) 8 2 (g 8 2 + (chN g (g 8 0)))) gs ar] : List va_W).flatten H := hP
                have hD : va_D A ([moC E b z (up2 (up2 (upr (up2 g 8 1 (g 8 1 + 1)) 4 (fl (g 4) (spN g) (g 8 0))) 8 6 (g 8 6 + (chN g (g 8 0)))) 8 2 (g 8 2 + (chN g (g 8 0)))) gs ar] : List va_W).flatten := hD
                refine lv_aload_n hx hb dX6_oneBeat_271 rfl (lv_at hl 0 rfl) ?_
                refine va_get (D := E.1) (ci := 10) (v := .ref (b 1)) (C := RX6) (T := TX6) (N := 20) hx hb hts inX6 hown hK hP 0 rfl rfl 1 (by decide) (hts _ q1435) (fun _ h9 => h9) rfl dX6_oneBeat_272 ?_
                refine lv_iconst (v := nI 5) hx hb dX6_oneBeat_275 (by decide) ?_
                refine lv_dup2_11 hx hb dX6_oneBeat_276 rfl rfl ?_
                refine nv_iald (f := (flat (up2 (up2 (upr (up2 g 8 1 (g 8 1 + 1)) 4 (fl (g 4) (spN g) (g 8 0))) 8 6 (g 8 6 + (chN g (g 8 0)))) 8 2 (g 8 2 + (chN g (g 8 0)))))) (i := 5) (n := 74) hx hb hK hP 1 0 rfl rfl (by omega) (by decide) dX6_oneBeat_277 ?_
                refine tp_i (show nI ((flat (up2 (up2 (upr (up2 g 8 1 (g 8 1 + 1)) 4 (fl (g 4) (spN g) (g 8 0))) 8 6 (g 8 6 + (chN g (g 8 0)))) 8 2 (g 8 2 + (chN g (g 8 0))))) 5) = nI (g 8 5) from rfl) ?_
                refine lv_iload_n hx hb dX6_oneBeat_278 rfl (lv_at hl 2 rfl) ?_
                refine nv_iadd hx hb dX6_oneBeat_279 ?_
                refine nv_iast (f := (flat (up2 (up2 (upr (up2 g 8 1 (g 8 1 + 1)) 4 (fl (g 4) (spN g) (g 8 0))) 8 6 (g 8 6 + (chN g (g 8 0)))) 8 2 (g 8 2 + (chN g (g 8 0)))))) (i := 5) (v := g 8 5 + (chN g (g 8 0))) (n := 74) hx hb hK hP hD hS 1 0 rfl rfl (by omega) (by decide) dX6_oneBeat_280 (fun H locs hP hD hS => ?_)
                rw [flat_set8 (by decide)] at hP hD
                have hP : va_P E.1 vwCl ([moC E b z (up2 (up2 (up2 (upr (up2 g 8 1 (g 8 1 + 1)) 4 (fl (g 4) (spN g) (g 8 0))) 8 6 (g 8 6 + (chN g (g 8 0)))) 8 2 (g 8 2 + (chN g (g 8 0)))) 8 5 (g 8 5 + (chN g (g 8 0)))) gs ar] : List va_W).flatten H := hP
                have hD : va_D A ([moC E b z (up2 (up2 (up2 (upr (up2 g 8 1 (g 8 1 + 1)) 4 (fl (g 4) (spN g) (g 8 0))) 8 6 (g 8 6 + (chN g (g 8 0)))) 8 2 (g 8 2 + (chN g (g 8 0)))) 8 5 (g 8 5 + (chN g (g 8 0)))) gs ar] : List va_W).flatten := hD
                refine lv_iload_n hx hb dX6_oneBeat_281 rfl (lv_at hl 2 rfl) ?_
                have hgE : (up2 (up2 (up2 (upr (up2 g 8 1 (g 8 1 + 1)) 4 (fl (g 4) (spN g) (g 8 0))) 8 6 (g 8 6 + (chN g (g 8 0)))) 8 2 (g 8 2 + (chN g (g 8 0)))) 8 5 (g 8 5 + (chN g (g 8 0)))) = (oneG g) := by unfold oneG; rw [if_neg (by rw [hcl]; decide)]; rfl
                rw [hgE] at hP hD; clear hgE
                exact hret _ _ (nI (chN g (g 8 0))) () _ _ hP hD hS rfl (by unfold oneN; rw [if_neg (by rw [hcl]; decide)]) dX6_oneBeat_282
              · skip
                have hcl := c_3
                refine lv_bipush (v := nI 9) hx hb dX6_oneBeat_182 (by decide) ?_
                refine lv_istore (lv' := [(4, .int (nI 9)), (0, .ref (b 0)), (1, .int (nI (stM g (g 8 0)))), (2, .int (nI (chN g (g 8 0)))), (3, .int (bI (clM (msk g (g 8 0)))))]) hx hb dX6_oneBeat_184 hl (by decide) rfl (fun ls hl => ?_)
                have loop186 : ∀ (n : Nat) (q : Nat), (q ≤ 9) → q < n → ∀ (H : Heap) (locs : List Loc) (ls : Array Slot), va_P E.1 vwCl ([moC E b z (upr (up2 (upr (up2 g 8 1 (g 8 1 + 1)) 4 (fl (g 4) (spN g) (g 8 0))) 8 6 (g 8 6 + chN g (g 8 0))) 7 (shf (g 7) q)) gs ar] : List va_W).flatten H → va_D A ([moC E b z (upr (up2 (upr (up2 g 8 1 (g 8 1 + 1)) 4 (fl (g 4) (spN g) (g 8 0))) 8 6 (g 8 6 + chN g (g 8 0))) 7 (shf (g 7) q)) gs ar] : List va_W).flatten → va_S A s.heap H locs → lv_has ls 6 [(0, .ref (b 0)), (1, .int (nI (stM g (g 8 0)))), (2, .int (nI (chN g (g 8 0)))), (3, .int (bI (clM (msk g (g 8 0))))), (4, .int (nI q))] → W p l e rm_X6_oneBeat s m ([.ref (b 0)] : List Value).toArray below meth c H locs 0 0 Q (F0 m 186 ls []) := by
                  intro n186
                  induction n186 with
                  | zero => intro q hq hn186; exact absurd hn186 (Nat.not_lt_zero _)
                  | succ n186 ih186 =>
                    intro q hq hn186 H locs ls hP hD hS hl
                    refine lv_iload hx hb dX6_oneBeat_186 (lv_at hl 4 rfl) ?_
                    refine nv_if_le (X := ((q : Nat) : Int)) hx hb (nI_toInt (by omega)) (tgt := 219) dX6_oneBeat_188 (by decide) (fun c_4 => ?_) (fun c_4 => ?_)
                    · skip
                      have hgE : (upr (up2 (upr (up2 g 8 1 (g 8 1 + 1)) 4 (fl (g 4) (spN g) (g 8 0))) 8 6 (g 8 6 + chN g (g 8 0))) 7 (shf (g 7) q)) = (upr (up2 (upr (up2 g 8 1 (g 8 1 + 1)) 4 (fl (g 4) (spN g) (g 8 0))) 8 6 (g 8 6 + chN g (g 8 0))) 7 (shf (g 7) 0)) := by rw [show q = 0 by omega]
                      rw [hgE] at hP hD; clear hgE
                      refine lv_aload_n hx hb dX6_oneBeat_219 rfl (lv_at hl 0 rfl) ?_
                      refine va_get (D := E.1) (ci := 10) (v := .ref (b 1)) (C := RX6) (T := TX6) (N := 20) hx hb hts inX6 hown hK hP 0 rfl rfl 1 (by decide) (hts _ q1435) (fun _ h9 => h9) rfl dX6_oneBeat_220 ?_
                      refine lv_bipush (v := nI 64) hx hb dX6_oneBeat_223 (by decide) ?_
                      refine lv_aload_n hx hb dX6_oneBeat_225 rfl (lv_at hl 0 rfl) ?_
                      refine va_get (D := E.1) (ci := 10) (v := .ref (b 1)) (C := RX6) (T := TX6) (N := 20) hx hb hts inX6 hown hK hP 0 rfl rfl 1 (by decide) (hts _ q1435) (fun _ h9 => h9) rfl dX6_oneBeat_226 ?_
                      refine lv_iconst (v := nI 1) hx hb dX6_oneBeat_229 (by decide) ?_
                      refine nv_iald (f := (flat (upr (up2 (upr (up2 g 8 1 (g 8 1 + 1)) 4 (fl (g 4) (spN g) (g 8 0))) 8 6 (g 8 6 + chN g (g 8 0))) 7 (shf (g 7) 0)))) (i := 1) (n := 74) hx hb hK hP 1 0 rfl rfl (by omega) (by decide) dX6_oneBeat_230 ?_
                      refine tp_i (show nI ((flat (upr (up2 (upr (up2 g 8 1 (g 8 1 + 1)) 4 (fl (g 4) (spN g) (g 8 0))) 8 6 (g 8 6 + chN g (g 8 0))) 7 (shf (g 7) 0))) 1) = nI (g 8 1 + 1) from rfl) ?_
                      refine nv_iast (f := (flat (upr (up2 (upr (up2 g 8 1 (g 8 1 + 1)) 4 (fl (g 4) (spN g) (g 8 0))) 8 6 (g 8 6 + chN g (g 8 0))) 7 (shf (g 7) 0)))) (i := 64) (v := g 8 1 + 1) (n := 74) hx hb hK hP hD hS 1 0 rfl rfl (by omega) (by decide) dX6_oneBeat_231 (fun H locs hP hD hS => ?_)
                      rw [flat_set64] at hP hD
                      have hP : va_P E.1 vwCl ([moC E b z (up2 (upr (up2 (upr (up2 g 8 1 (g 8 1 + 1)) 4 (fl (g 4) (spN g) (g 8 0))) 8 6 (g 8 6 + chN g (g 8 0))) 7 (shf (g 7) 0)) 7 0 (g 8 1 + 1)) gs ar] : List va_W).flatten H := hP
                      have hD : va_D A ([moC E b z (up2 (upr (up2 (upr (up2 g 8 1 (g 8 1 + 1)) 4 (fl (g 4) (spN g) (g 8 0))) 8 6 (g 8 6 + chN g (g 8 0))) 7 (shf (g 7) 0)) 7 0 (g 8 1 + 1)) gs ar] : List va_W).flatten := hD
                      refine lv_aload_n hx hb dX6_oneBeat_232 rfl (lv_at hl 0 rfl) ?_
                      refine va_get (D := E.1) (ci := 10) (v := .ref (b 1)) (C := RX6) (T := TX6) (N := 20) hx hb hts inX6 hown hK hP 0 rfl rfl 1 (by decide) (hts _ q1435) (fun _ h9 => h9) rfl dX6_oneBeat_233 ?_
                      refine lv_bipush (v := nI 7) hx hb dX6_oneBeat_236 (by decide) ?_
                      refine lv_dup2_11 hx hb dX6_oneBeat_238 rfl rfl ?_
                      refine nv_iald (f := (flat (up2 (upr (up2 (upr (up2 g 8 1 (g 8 1 + 1)) 4 (fl (g 4) (spN g) (g 8 0))) 8 6 (g 8 6 + chN g (g 8 0))) 7 (shf (g 7) 0)) 7 0 (g 8 1 + 1)))) (i := 7) (n := 74) hx hb hK hP 1 0 rfl rfl (by omega) (by decide) dX6_oneBeat_239 ?_
                      refine tp_i (show nI ((flat (up2 (upr (up2 (upr (up2 g 8 1 (g 8 1 + 1)) 4 (fl (g 4) (spN g) (g 8 0))) 8 6 (g 8 6 + chN g (g 8 0))) 7 (shf (g 7) 0)) 7 0 (g 8 1 + 1))) 7) = nI (g 8 7) from rfl) ?_
                      refine lv_aload_n hx hb dX6_oneBeat_240 rfl (lv_at hl 0 rfl) ?_
                      refine va_get (D := E.1) (ci := 10) (v := .ref (b 1)) (C := RX6) (T := TX6) (N := 20) hx hb hts inX6 hown hK hP 0 rfl rfl 1 (by decide) (hts _ q1435) (fun _ h9 => h9) rfl dX6_oneBeat_241 ?_
                      refine lv_bipush (v := nI 7) hx hb dX6_oneBeat_244 (by decide) ?_
                      refine nv_iald (f := (flat (up2 (upr (up2 (upr (up2 g 8 1 (g 8 1 + 1)) 4 (fl (g 4) (spN g) (g 8 0))) 8 6 (g 8 6 + chN g (g 8 0))) 7 (shf (g 7) 0)) 7 0 (g 8 1 + 1)))) (i := 7) (n := 74) hx hb hK hP 1 0 rfl rfl (by omega) (by decide) dX6_oneBeat_246 ?_
                      refine tp_i (show nI ((flat (up2 (upr (up2 (upr (up2 g 8 1 (g 8 1 + 1)) 4 (fl (g 4) (spN g) (g 8 0))) 8 6 (g 8 6 + chN g (g 8 0))) 7 (shf (g 7) 0)) 7 0 (g 8 1 + 1))) 7) = nI (g 8 7) from rfl) ?_
                      refine lv_bipush (v := nI 10) hx hb dX6_oneBeat_247 (by decide) ?_
                      refine nv_icmp_ge (X := ((g 8 7 : Nat) : Int)) (Y := ((10 : Nat) : Int)) hx hb (nI_toInt (by omega)) (nI_toInt (by omega)) (tgt := 256) dX6_oneBeat_249 (by decide) (fun c_5 => ?_) (fun c_5 => ?_)
                      · skip
                        refine lv_iconst (v := nI 0) hx hb dX6_oneBeat_256 (by decide) ?_
                        refine nv_iadd hx hb dX6_oneBeat_257 ?_
                        refine nv_iast (f := (flat (up2 (upr (up2 (upr (up2 g 8 1 (g 8 1 + 1)) 4 (fl (g 4) (spN g) (g 8 0))) 8 6 (g 8 6 + chN g (g 8 0))) 7 (shf (g 7) 0)) 7 0 (g 8 1 + 1)))) (i := 7) (v := g 8 7 + 0) (n := 74) hx hb hK hP hD hS 1 0 rfl rfl (by omega) (by decide) dX6_oneBeat_258 (fun H locs hP hD hS => ?_)
                        rw [flat_set8 (by decide)] at hP hD
                        have hP : va_P E.1 vwCl ([moC E b z (up2 (up2 (upr (up2 (upr (up2 g 8 1 (g 8 1 + 1)) 4 (fl (g 4) (spN g) (g 8 0))) 8 6 (g 8 6 + chN g (g 8 0))) 7 (shf (g 7) 0)) 7 0 (g 8 1 + 1)) 8 7 (g 8 7 + 0)) gs ar] : List va_W).flatten H := hP
                        have hD : va_D A ([moC E b z (up2 (up2 (upr (up2 (upr (up2 g 8 1 (g 8 1 + 1)) 4 (fl (g 4) (spN g) (g 8 0))) 8 6 (g 8 6 + chN g (g 8 0))) 7 (shf (g 7) 0)) 7 0 (g 8 1 + 1)) 8 7 (g 8 7 + 0)) gs ar] : List va_W).flatten := hD
                        refine lv_iconst (v := nI 0) hx hb dX6_oneBeat_259 (by decide) ?_
                        have hgE : (up2 (up2 (upr (up2 (upr (up2 g 8 1 (g 8 1 + 1)) 4 (fl (g 4) (spN g) (g 8 0))) 8 6 (g 8 6 + chN g (g 8 0))) 7 (shf (g 7) 0)) 7 0 (g 8 1 + 1)) 8 7 (g 8 7 + 0)) = (oneG g) := by show up2 _ 8 7 _ = oneG g; unfold oneG; rw [if_pos hcl]; show up2 _ 8 7 _ = up2 _ 8 7 (if 10 < g 8 7 + 1 then 10 else g 8 7 + 1); rw [show (if 10 < g 8 7 + 1 then 10 else g 8 7 + 1) = g 8 7 + 0 by split <;> omega]; rfl
                        rw [hgE] at hP hD; clear hgE
                        exact hret _ _ (nI 0) () _ _ hP hD hS rfl (by unfold oneN; rw [if_pos hcl]) dX6_oneBeat_260
                      · skip
                        refine lv_iconst (v := nI 1) hx hb dX6_oneBeat_252 (by decide) ?_
                        refine lv_goto (tgt := 257) hx hb dX6_oneBeat_253 (by decide) ?_
                        refine nv_iadd hx hb dX6_oneBeat_257 ?_
                        refine nv_iast (f := (flat (up2 (upr (up2 (upr (up2 g 8 1 (g 8 1 + 1)) 4 (fl (g 4) (spN g) (g 8 0))) 8 6 (g 8 6 + chN g (g 8 0))) 7 (shf (g 7) 0)) 7 0 (g 8 1 + 1)))) (i := 7) (v := g 8 7 + 1) (n := 74) hx hb hK hP hD hS 1 0 rfl rfl (by omega) (by decide) dX6_oneBeat_258 (fun H locs hP hD hS => ?_)
                        rw [flat_set8 (by decide)] at hP hD
                        have hP : va_P E.1 vwCl ([moC E b z (up2 (up2 (upr (up2 (upr (up2 g 8 1 (g 8 1 + 1)) 4 (fl (g 4) (spN g) (g 8 0))) 8 6 (g 8 6 + chN g (g 8 0))) 7 (shf (g 7) 0)) 7 0 (g 8 1 + 1)) 8 7 (g 8 7 + 1)) gs ar] : List va_W).flatten H := hP
                        have hD : va_D A ([moC E b z (up2 (up2 (upr (up2 (upr (up2 g 8 1 (g 8 1 + 1)) 4 (fl (g 4) (spN g) (g 8 0))) 8 6 (g 8 6 + chN g (g 8 0))) 7 (shf (g 7) 0)) 7 0 (g 8 1 + 1)) 8 7 (g 8 7 + 1)) gs ar] : List va_W).flatten := hD
                        refine lv_iconst (v := nI 0) hx hb dX6_oneBeat_259 (by decide) ?_
                        have hgE : (up2 (up2 (upr (up2 (upr (up2 g 8 1 (g 8 1 + 1)) 4 (fl (g 4) (spN g) (g 8 0))) 8 6 (g 8 6 + chN g (g 8 0))) 7 (shf (g 7) 0)) 7 0 (g 8 1 + 1)) 8 7 (g 8 7 + 1)) = (oneG g) := by show up2 _ 8 7 _ = oneG g; unfold oneG; rw [if_pos hcl]; show up2 _ 8 7 _ = up2 _ 8 7 (if 10 < g 8 7 + 1 then 10 else g 8 7 + 1); rw [show (if 10 < g 8 7 + 1 then 10 else g 8 7 + 1) = g 8 7 + 1 by split <;> omega]; rfl
                        rw [hgE] at hP hD; clear hgE
                        exact hret _ _ (nI 0) () _ _ hP hD hS rfl (by unfold oneN; rw [if_pos hcl]) dX6_oneBeat_260
                    · skip
                      refine lv_aload_n hx hb dX6_oneBeat_191 rfl (lv_at hl 0 rfl) ?_
                      refine va_get (D := E.1) (ci := 10) (v := .ref (b 1)) (C := RX6) (T := TX6) (N := 20) hx hb hts inX6 hown hK hP 0 rfl rfl 1 (by decide) (hts _ q1435) (fun _ h9 => h9) rfl dX6_oneBeat_192 ?_
                      refine lv_bipush (v := nI 64) hx hb dX6_oneBeat_195 (by decide) ?_
                      refine lv_iload hx hb dX6_oneBeat_197 (lv_at hl 4 rfl) ?_
                      refine nv_iadd hx hb dX6_oneBeat_199 ?_
                      refine lv_aload_n hx hb dX6_oneBeat_200 rfl (lv_at hl 0 rfl) ?_
                      refine va_get (D := E.1) (ci := 10) (v := .ref (b 1)) (C := RX6) (T := TX6) (N := 20) hx hb hts inX6 hown hK hP 0 rfl rfl 1 (by decide) (hts _ q1435) (fun _ h9 => h9) rfl dX6_oneBeat_201 ?_
                      refine lv_bipush (v := nI 64) hx hb dX6_oneBeat_204 (by decide) ?_
                      refine lv_iload hx hb dX6_oneBeat_206 (lv_at hl 4 rfl) ?_
                      refine nv_iadd hx hb dX6_oneBeat_208 ?_
                      refine lv_iconst (v := nI 1) hx hb dX6_oneBeat_209 (by decide) ?_
                      refine nv_isub hx hb (by omega) dX6_oneBeat_210 ?_
                      refine nv_iald (f := (flat (upr (up2 (upr (up2 g 8 1 (g 8 1 + 1)) 4 (fl (g 4) (spN g) (g 8 0))) 8 6 (g 8 6 + chN g (g 8 0))) 7 (shf (g 7) q)))) (i := (64 + q) - 1) (n := 74) hx hb hK hP 1 0 rfl rfl (by omega) (by decide) dX6_oneBeat_211 ?_
                      refine tp_i (show nI ((flat (upr (up2 (upr (up2 g 8 1 (g 8 1 + 1)) 4 (fl (g 4) (spN g) (g 8 0))) 8 6 (g 8 6 + chN g (g 8 0))) 7 (shf (g 7) q))) ((64 + q) - 1)) = nI ((upr (up2 (upr (up2 g 8 1 (g 8 1 + 1)) 4 (fl (g 4) (spN g) (g 8 0))) 8 6 (g 8 6 + chN g (g 8 0))) 7 (shf (g 7) q)) 7 (q - 1)) from congrArg nI (show flat _ (64 + q - 1) = _ by rw [show 64 + q - 1 = 64 + (q - 1) by omega]; exact flat_bad)) ?_
                      refine tp_i (show nI ((upr (up2 (upr (up2 g 8 1 (g 8 1 + 1)) 4 (fl (g 4) (spN g) (g 8 0))) 8 6 (g 8 6 + chN g (g 8 0))) 7 (shf (g 7) q)) 7 (q - 1)) = nI (shf (g 7) q (q - 1)) from rfl) ?_
                      refine nv_iast (f := (flat (upr (up2 (upr (up2 g 8 1 (g 8 1 + 1)) 4 (fl (g 4) (spN g) (g 8 0))) 8 6 (g 8 6 + chN g (g 8 0))) 7 (shf (g 7) q)))) (i := 64 + q) (v := shf (g 7) q (q - 1)) (n := 74) hx hb hK hP hD hS 1 0 rfl rfl (by omega) (by decide) dX6_oneBeat_212 (fun H locs hP hD hS => ?_)
                      rw [flat_setb] at hP hD
                      have hP : va_P E.1 vwCl ([moC E b z (up2 (upr (up2 (upr (up2 g 8 1 (g 8 1 + 1)) 4 (fl (g 4) (spN g) (g 8 0))) 8 6 (g 8 6 + chN g (g 8 0))) 7 (shf (g 7) q)) 7 q (shf (g 7) q (q - 1))) gs ar] : List va_W).flatten H := hP
                      have hD : va_D A ([moC E b z (up2 (upr (up2 (upr (up2 g 8 1 (g 8 1 + 1)) 4 (fl (g 4) (spN g) (g 8 0))) 8 6 (g 8 6 + chN g (g 8 0))) 7 (shf (g 7) q)) 7 q (shf (g 7) q (q - 1))) gs ar] : List va_W).flatten := hD
                      have hgE : (up2 (upr (up2 (upr (up2 g 8 1 (g 8 1 + 1)) 4 (fl (g 4) (spN g) (g 8 0))) 8 6 (g 8 6 + chN g (g 8 0))) 7 (shf (g 7) q)) 7 q (shf (g 7) q (q - 1))) = (upr (up2 (upr (up2 g 8 1 (g 8 1 + 1)) 4 (fl (g 4) (spN g) (g 8 0))) 8 6 (g 8 6 + chN g (g 8 0))) 7 (shf (g 7) (q - 1))) := upr_up2.trans (by rw [shf_step (by omega) (by omega)])
                      rw [hgE] at hP hD; clear hgE
                      refine lv_iinc (v := nI (q - 1)) (lv' := [(4, .int (nI (q - 1))), (0, .ref (b 0)), (1, .int (nI (stM g (g 8 0)))), (2, .int (nI (chN g (g 8 0)))), (3, .int (bI (clM (msk g (g 8 0)))))]) hx hb dX6_oneBeat_213 hl (k := 4) rfl (by rw [show Int32.ofInt (-1) = -nI 1 from by decide, ← Int32.sub_eq_add_neg]; exact pk_sub (by omega)) (by decide) rfl (fun ls hl => ?_)
                      refine lv_goto (tgt := 186) hx hb dX6_oneBeat_216 (by decide) ?_
                      exact ih186 (q - 1) (by omega) (by omega) _ _ _ hP hD hS (lv_sub hl [1, 2, 3, 4, 0] rfl)
                rw [show (up2 (upr (up2 g 8 1 (g 8 1 + 1)) 4 (fl (g 4) (spN g) (g 8 0))) 8 6 (g 8 6 + chN g (g 8 0))) = upr (up2 (upr (up2 g 8 1 (g 8 1 + 1)) 4 (fl (g 4) (spN g) (g 8 0))) 8 6 (g 8 6 + chN g (g 8 0))) 7 (shf (g 7) 9) from by rw [shf_9]; exact (upr_id (g := (up2 (upr (up2 g 8 1 (g 8 1 + 1)) 4 (fl (g 4) (spN g) (g 8 0))) 8 6 (g 8 6 + chN g (g 8 0)))) (w := 7)).symm] at hP hD
                exact loop186 _ 9 (by omega) (Nat.lt_succ_self _) _ _ _ hP hD hS (lv_sub hl [1, 2, 3, 4, 0] rfl)
            · skip
              have hqa : g 3 i ≤ 11 := (hI.mem (m := i) (by omega)).2.2.1
              refine lv_iconst (v := nI 0) hx hb dX6_oneBeat_108 (by decide) ?_
              refine lv_istore (lv' := [(5, .int (nI 0)), (0, .ref (b 0)), (1, .int (nI (stM g (g 8 0)))), (2, .int (nI (chN g (g 8 0)))), (3, .int (nI (if spO g i = true then 1 else 0))), (4, .int (nI i))]) hx hb dX6_oneBeat_109 hl (by decide) rfl (fun ls hl => ?_)
              have loop111 : ∀ (n : Nat) (j : Nat), (j ≤ i) → i - j < n → ∀ (H : Heap) (locs : List Loc) (ls : Array Slot), va_P E.1 vwCl ([moC E b z (up2 (upr (up2 g 8 1 (g 8 1 + 1)) 4 (fl (g 4) (spN g) (g 8 0))) 8 6 (g 8 6 + (chN g (g 8 0)))) gs ar] : List va_W).flatten H → va_D A ([moC E b z (up2 (upr (up2 g 8 1 (g 8 1 + 1)) 4 (fl (g 4) (spN g) (g 8 0))) 8 6 (g 8 6 + (chN g (g 8 0)))) gs ar] : List va_W).flatten → va_S A s.heap H locs → lv_has ls 6 [(0, .ref (b 0)), (1, .int (nI (stM g (g 8 0)))), (2, .int (nI (chN g (g 8 0)))), (3, .int (nI (if (spO g i || spI g i j) = true then 1 else 0))), (4, .int (nI i)), (5, .int (nI j))] → W p l e rm_X6_oneBeat s m ([.ref (b 0)] : List Value).toArray below meth c H locs 0 0 Q (F0 m 111 ls []) := by
                intro n111
                induction n111 with
                | zero => intro j hj hn111; exact absurd hn111 (Nat.not_lt_zero _)
                | succ n111 ih111 =>
                  intro j hj hn111 H locs ls hP hD hS hl
                  refine lv_iload hx hb dX6_oneBeat_111 (lv_at hl 5 rfl) ?_
                  refine lv_iload hx hb dX6_oneBeat_113 (lv_at hl 4 rfl) ?_
                  refine nv_icmp_ge (X := ((j : Nat) : Int)) (Y := ((i : Nat) : Int)) hx hb (nI_toInt (by omega)) (nI_toInt (by omega)) (tgt := 172) dX6_oneBeat_115 (by decide) (fun c_6 => ?_) (fun c_6 => ?_)
                  · skip
                    have hl : lv_has ls 6 [(0, .ref (b 0)), (1, .int (nI (stM g (g 8 0)))), (2, .int (nI (chN g (g 8 0)))), (3, .int (nI (if spO g (i + 1) = true then 1 else 0))), (4, .int (nI i)), (5, .int (nI j))] := by rw [show (if spO g (i + 1) = true then 1 else 0) = (if (spO g i || spI g i j) = true then 1 else 0) from by rw [show j = i by omega]; rfl]; exact hl
                    refine lv_iinc (v := nI (i + 1)) (lv' := [(4, .int (nI (i + 1))), (0, .ref (b 0)), (1, .int (nI (stM g (g 8 0)))), (2, .int (nI (chN g (g 8 0)))), (3, .int (nI (if spO g (i + 1) = true then 1 else 0))), (5, .int (nI j))]) hx hb dX6_oneBeat_172 hl (k := 4) rfl (nI_add i 1) (by decide) rfl (fun ls hl => ?_)
                    refine lv_goto (tgt := 97) hx hb dX6_oneBeat_175 (by decide) ?_
                    exact ih97 (i + 1) (by omega) (by omega) _ _ _ hP hD hS (lv_sub hl [1, 2, 3, 4, 0] rfl)
                  · skip
                    have hqb : g 3 j ≤ 11 := (hI.mem (m := j) (by omega)).2.2.1
                    refine lv_iload_n hx hb dX6_oneBeat_118 rfl (lv_at hl 3 rfl) ?_
                    refine lv_iload_n hx hb dX6_oneBeat_119 rfl (lv_at hl 1 rfl) ?_
                    refine lv_iload hx hb dX6_oneBeat_120 (lv_at hl 4 rfl) ?_
                    refine nv_ishr hx hb (by omega) (by omega) dX6_oneBeat_122 ?_
                    refine lv_iconst (v := nI 1) hx hb dX6_oneBeat_123 (by decide) ?_
                    refine nv_iand hx hb dX6_oneBeat_124 ?_
                    refine tp_i (congrArg nI bit1) ?_
                    refine lv_iconst (v := nI 1) hx hb dX6_oneBeat_125 (by decide) ?_
                    refine nv_icmp_ne (X := (((if (stM g (g 8 0)).testBit i then 1 else 0) : Nat) : Int)) (Y := ((1 : Nat) : Int)) hx hb (nI_toInt (by split <;> omega)) (nI_toInt (by omega)) (tgt := 163) dX6_oneBeat_126 (by decide) (fun c_7 => ?_) (fun c_7 => ?_)
                    · skip
                      have hta : (stM g (g 8 0)).testBit i = false := by cases hb9 : (stM g (g 8 0)).testBit i with | false => rfl | true => rw [hb9] at c_7; exact absurd rfl c_7
                      have hcc : cl2 g i j = false := cl2_f1 (by omega) hta
                      refine lv_iconst (v := nI 0) hx hb dX6_oneBeat_163 (by decide) ?_
                      refine nv_ior hx hb dX6_oneBeat_164 ?_
                      refine lv_istore_n (lv' := [(3, .int (nI ((if (spO g i || spI g i j) = true then 1 else 0) ||| 0))), (0, .ref (b 0)), (1, .int (nI (stM g (g 8 0)))), (2, .int (nI (chN g (g 8 0)))), (4, .int (nI i)), (5, .int (nI j))]) hx hb dX6_oneBeat_165 rfl hl (by decide) rfl (fun ls hl => ?_)
                      have hl : lv_has ls 6 [(3, .int (nI (if (spO g i || spI g i (j + 1)) = true then 1 else 0))), (0, .ref (b 0)), (1, .int (nI (stM g (g 8 0)))), (2, .int (nI (chN g (g 8 0)))), (4, .int (nI i)), (5, .int (nI j))] := by rw [show (if (spO g i || spI g i (j + 1)) = true then 1 else 0) = ((if (spO g i || spI g i j) = true then 1 else 0) ||| 0) from ors_f hcc]; exact hl
                      refine lv_iinc (v := nI (j + 1)) (lv' := [(5, .int (nI (j + 1))), (3, .int (nI (if (spO g i || spI g i (j + 1)) = true then 1 else 0))), (0, .ref (b 0)), (1, .int (nI (stM g (g 8 0)))), (2, .int (nI (chN g (g 8 0)))), (4, .int (nI i))]) hx hb dX6_oneBeat_166 hl (k := 5) rfl (nI_add j 1) (by decide) rfl (fun ls hl => ?_)
                      refine lv_goto (tgt := 111) hx hb dX6_oneBeat_169 (by decide) ?_
                      exact ih111 (j + 1) (by omega) (by omega) _ _ _ hP hD hS (lv_sub hl [2, 3, 4, 1, 5, 0] rfl)
                    · skip
                      have hta : (stM g (g 8 0)).testBit i = true := by cases hb9 : (stM g (g 8 0)).testBit i with | true => rfl | false => rw [hb9] at c_7; exact absurd c_7 (by decide)
                      refine lv_iload_n hx hb dX6_oneBeat_129 rfl (lv_at hl 1 rfl) ?_
                      refine lv_iload hx hb dX6_oneBeat_130 (lv_at hl 5 rfl) ?_
                      refine nv_ishr hx hb (by omega) (by omega) dX6_oneBeat_132 ?_
                      refine lv_iconst (v := nI 1) hx hb dX6_oneBeat_133 (by decide) ?_
                      refine nv_iand hx hb dX6_oneBeat_134 ?_
                      refine tp_i (congrArg nI bit1) ?_
                      refine lv_iconst (v := nI 1) hx hb dX6_oneBeat_135 (by decide) ?_
                      refine nv_icmp_ne (X := (((if (stM g (g 8 0)).testBit j then 1 else 0) : Nat) : Int)) (Y := ((1 : Nat) : Int)) hx hb (nI_toInt (by split <;> omega)) (nI_toInt (by omega)) (tgt := 163) dX6_oneBeat_136 (by decide) (fun c_8 => ?_) (fun c_8 => ?_)
                      · skip
                        have htb : (stM g (g 8 0)).testBit j = false := by cases hb9 : (stM g (g 8 0)).testBit j with | false => rfl | true => rw [hb9] at c_8; exact absurd rfl c_8
                        have hcc : cl2 g i j = false := cl2_f2 (by omega) htb
                        refine lv_iconst (v := nI 0) hx hb dX6_oneBeat_163 (by decide) ?_
                        refine nv_ior hx hb dX6_oneBeat_164 ?_
                        refine lv_istore_n (lv' := [(3, .int (nI ((if (spO g i || spI g i j) = true then 1 else 0) ||| 0))), (0, .ref (b 0)), (1, .int (nI (stM g (g 8 0)))), (2, .int (nI (chN g (g 8 0)))), (4, .int (nI i)), (5, .int (nI j))]) hx hb dX6_oneBeat_165 rfl hl (by decide) rfl (fun ls hl => ?_)
                        have hl : lv_has ls 6 [(3, .int (nI (if (spO g i || spI g i (j + 1)) = true then 1 else 0))), (0, .ref (b 0)), (1, .int (nI (stM g (g 8 0)))), (2, .int (nI (chN g (g 8 0)))), (4, .int (nI i)), (5, .int (nI j))] := by rw [show (if (spO g i || spI g i (j + 1)) = true then 1 else 0) = ((if (spO g i || spI g i j) = true then 1 else 0) ||| 0) from ors_f hcc]; exact hl
                        refine lv_iinc (v := nI (j + 1)) (lv' := [(5, .int (nI (j + 1))), (3, .int (nI (if (spO g i || spI g i (j + 1)) = true then 1 else 0))), (0, .ref (b 0)), (1, .int (nI (stM g (g 8 0)))), (2, .int (nI (chN g (g 8 0)))), (4, .int (nI i))]) hx hb dX6_oneBeat_166 hl (k := 5) rfl (nI_add j 1) (by decide) rfl (fun ls hl => ?_)
                        refine lv_goto (tgt := 111) hx hb dX6_oneBeat_169 (by decide) ?_
                        exact ih111 (j + 1) (by omega) (by omega) _ _ _ hP hD hS (lv_sub hl [2, 3, 4, 1, 5, 0] rfl)
                      · skip
                        have htb : (stM g (g 8 0)).testBit j = true := by cases hb9 : (stM g (g 8 0)).testBit j with | true => rfl | false => rw [hb9] at c_8; exact absurd c_8 (by decide)
                        refine lv_aload_n hx hb dX6_oneBeat_139 rfl (lv_at hl 0 rfl) ?_
                        refine lv_iload hx hb dX6_oneBeat_140 (lv_at hl 4 rfl) ?_
                        refine lv_iconst (v := nI 3) hx hb dX6_oneBeat_142 (by decide) ?_
                        refine run_i (S := Unit) (run_V (As := [.int (nI i), .int (nI 3)]) (rest := [.int (nI (if (spO g i || spI g i j) = true then 1 else 0))]) (bs := [moC E b z (up2 (upr (up2 g 8 1 (g 8 1 + 1)) 4 (fl (g 4) (spN g) (g 8 0))) 8 6 (g 8 6 + (chN g (g 8 0)))) gs ar]) (cb := [moC E b z (up2 (upr (up2 g 8 1 (g 8 1 + 1)) 4 (fl (g 4) (spN g) (g 8 0))) 8 6 (g 8 6 + (chN g (g 8 0)))) gs ar]) hx hb hml hown hts hK hZ hA (c_X6_of l E _ b z (up2 (upr (up2 g 8 1 (g 8 1 + 1)) 4 (fl (g 4) (spN g) (g 8 0))) 8 6 (g 8 6 + (chN g (g 8 0)))) gs ar  i 3 (by omega) (by decide)) l_X6_65 rfl ⟨⟨rfl, rfl⟩, Nat.le_of_ble_eq_true rfl, Nat.le_of_ble_eq_true rfl⟩ 10 rfl [0] rfl (by decide) rfl hP hD hS hl.1 rfl (Nat.le_of_ble_eq_true rfl) dX6_oneBeat_143 ⟨Nat.zero_le _, Nat.zero_le _⟩) hA hP hD hS (isC := [0]) rfl [] [0] (br := []) (bs2 := fun _ => [moC E b z (up2 (upr (up2 g 8 1 (g 8 1 + 1)) 4 (fl (g 4) (spN g) (g 8 0))) 8 6 (g 8 6 + (chN g (g 8 0)))) gs ar]) rfl (by decide) (fun _ => rfl) (by decide) (fun r u H locs hw hP hD hS => ?_)
                        rw [show (up2 (upr (up2 g 8 1 (g 8 1 + 1)) 4 (fl (g 4) (spN g) (g 8 0))) 8 6 (g 8 6 + (chN g (g 8 0)))) 3 i = g 3 i from rfl] at hw
                        subst hw
                        refine lv_aload_n hx hb dX6_oneBeat_146 rfl (lv_at hl 0 rfl) ?_
                        refine lv_iload hx hb dX6_oneBeat_147 (lv_at hl 5 rfl) ?_
                        refine lv_iconst (v := nI 3) hx hb dX6_oneBeat_149 (by decide) ?_
                        refine run_i (S := Unit) (run_V (As := [.int (nI j), .int (nI 3)]) (rest := [.int (nI (g 3 i)), .int (nI (if (spO g i || spI g i j) = true then 1 else 0))]) (bs := [moC E b z (up2 (upr (up2 g 8 1 (g 8 1 + 1)) 4 (fl (g 4) (spN g) (g 8 0))) 8 6 (g 8 6 + (chN g (g 8 0)))) gs ar]) (cb := [moC E b z (up2 (upr (up2 g 8 1 (g 8 1 + 1)) 4 (fl (g 4) (spN g) (g 8 0))) 8 6 (g 8 6 + (chN g (g 8 0)))) gs ar]) hx hb hml hown hts hK hZ hA (c_X6_of l E _ b z (up2 (upr (up2 g 8 1 (g 8 1 + 1)) 4 (fl (g 4) (spN g) (g 8 0))) 8 6 (g 8 6 + (chN g (g 8 0)))) gs ar  j 3 (by omega) (by decide)) l_X6_65 rfl ⟨⟨rfl, rfl⟩, Nat.le_of_ble_eq_true rfl, Nat.le_of_ble_eq_true rfl⟩ 10 rfl [0] rfl (by decide) rfl hP hD hS hl.1 rfl (Nat.le_of_ble_eq_true rfl) dX6_oneBeat_150 ⟨Nat.zero_le _, Nat.zero_le _⟩) hA hP hD hS (isC := [0]) rfl [] [0] (br := []) (bs2 := fun _ => [moC E b z (up2 (upr (up2 g 8 1 (g 8 1 + 1)) 4 (fl (g 4) (spN g) (g 8 0))) 8 6 (g 8 6 + (chN g (g 8 0)))) gs ar]) rfl (by decide) (fun _ => rfl) (by decide) (fun r u H locs hw hP hD hS => ?_)
                        rw [show (up2 (upr (up2 g 8 1 (g 8 1 + 1)) 4 (fl (g 4) (spN g) (g 8 0))) 8 6 (g 8 6 + (chN g (g 8 0)))) 3 j = g 3 j from rfl] at hw
                        subst hw
                        refine run_i (S := Unit) (run_S (As := [.int (nI (g 3 i)), .int (nI (g 3 j))]) (rest := [.int (nI (if (spO g i || spI g i j) = true then 1 else 0))]) (bs := [moC E b z (up2 (upr (up2 g 8 1 (g 8 1 + 1)) 4 (fl (g 4) (spN g) (g 8 0))) 8 6 (g 8 6 + (chN g (g 8 0)))) gs ar]) (cb := []) hx hb hml hown hts hK hZ hA (c_X6_isClash l E _ (g 3 i) (g 3 j) (by omega) (by omega)) l_X6_80 rfl ⟨⟨rfl, rfl⟩, Nat.le_of_ble_eq_true rfl, Nat.le_of_ble_eq_true rfl⟩ [] rfl (by decide) hP hD hS hl.1 rfl (Nat.le_of_ble_eq_true rfl) dX6_oneBeat_153 ⟨Nat.zero_le _, Nat.zero_le _⟩) hA hP hD hS (isC := []) rfl [0] [0] (br := [moC E b z (up2 (upr (up2 g 8 1 (g 8 1 + 1)) 4 (fl (g 4) (spN g) (g 8 0))) 8 6 (g 8 6 + (chN g (g 8 0)))) gs ar]) (bs2 := fun _ => [moC E b z (up2 (upr (up2 g 8 1 (g 8 1 + 1)) 4 (fl (g 4) (spN g) (g 8 0))) 8 6 (g 8 6 + (chN g (g 8 0)))) gs ar]) rfl (by decide) (fun _ => rfl) (by decide) (fun r u H locs hw hP hD hS => ?_)
                        subst hw
                        refine bv_if_eq hx hb (tgt := 163) dX6_oneBeat_156 (by decide) (fun c_9 => ?_) (fun c_9 => ?_)
                        · skip
                          have hcc : cl2 g i j = false := cl2_3 (by omega) (by omega) hta htb c_9
                          refine lv_iconst (v := nI 0) hx hb dX6_oneBeat_163 (by decide) ?_
                          refine nv_ior hx hb dX6_oneBeat_164 ?_
                          refine lv_istore_n (lv' := [(3, .int (nI ((if (spO g i || spI g i j) = true then 1 else 0) ||| 0))), (0, .ref (b 0)), (1, .int (nI (stM g (g 8 0)))), (2, .int (nI (chN g (g 8 0)))), (4, .int (nI i)), (5, .int (nI j))]) hx hb dX6_oneBeat_165 rfl hl (by decide) rfl (fun ls hl => ?_)
                          have hl : lv_has ls 6 [(3, .int (nI (if (spO g i || spI g i (j + 1)) = true then 1 else 0))), (0, .ref (b 0)), (1, .int (nI (stM g (g 8 0)))), (2, .int (nI (chN g (g 8 0)))), (4, .int (nI i)), (5, .int (nI j))] := by rw [show (if (spO g i || spI g i (j + 1)) = true then 1 else 0) = ((if (spO g i || spI g i j) = true then 1 else 0) ||| 0) from ors_f hcc]; exact hl
                          refine lv_iinc (v := nI (j + 1)) (lv' := [(5, .int (nI (j + 1))), (3, .int (nI (if (spO g i || spI g i (j + 1)) = true then 1 else 0))), (0, .ref (b 0)), (1, .int (nI (stM g (g 8 0)))), (2, .int (nI (chN g (g 8 0)))), (4, .int (nI i))]) hx hb dX6_oneBeat_166 hl (k := 5) rfl (nI_add j 1) (by decide) rfl (fun ls hl => ?_)
                          refine lv_goto (tgt := 111) hx hb dX6_oneBeat_169 (by decide) ?_
                          exact ih111 (j + 1) (by omega) (by omega) _ _ _ hP hD hS (lv_sub hl [2, 3, 4, 1, 5, 0] rfl)
                        · skip
                          have hcc : cl2 g i j = true := cl2_3 (by omega) (by omega) hta htb c_9
                          refine lv_iconst (v := nI 1) hx hb dX6_oneBeat_159 (by decide) ?_
                          refine lv_goto (tgt := 164) hx hb dX6_oneBeat_160 (by decide) ?_
                          refine nv_ior hx hb dX6_oneBeat_164 ?_
                          refine lv_istore_n (lv' := [(3, .int (nI ((if (spO g i || spI g i j) = true then 1 else 0) ||| 1))), (0, .ref (b 0)), (1, .int (nI (stM g (g 8 0)))), (2, .int (nI (chN g (g 8 0)))), (4, .int (nI i)), (5, .int (nI j))]) hx hb dX6_oneBeat_165 rfl hl (by decide) rfl (fun ls hl => ?_)
                          have hl : lv_has ls 6 [(3, .int (nI (if (spO g i || spI g i (j + 1)) = true then 1 else 0))), (0, .ref (b 0)), (1, .int (nI (stM g (g 8 0)))), (2, .int (nI (chN g (g 8 0)))), (4, .int (nI i)), (5, .int (nI j))] := by rw [show (if (spO g i || spI g i (j + 1)) = true then 1 else 0) = ((if (spO g i || spI g i j) = true then 1 else 0) ||| 1) from ors_t hcc]; exact hl
                          refine lv_iinc (v := nI (j + 1)) (lv' := [(5, .int (nI (j + 1))), (3, .int (nI (if (spO g i || spI g i (j + 1)) = true then 1 else 0))), (0, .ref (b 0)), (1, .int (nI (stM g (g 8 0)))), (2, .int (nI (chN g (g 8 0)))), (4, .int (nI i))]) hx hb dX6_oneBeat_166 hl (k := 5) rfl (nI_add j 1) (by decide) rfl (fun ls hl => ?_)
                          refine lv_goto (tgt := 111) hx hb dX6_oneBeat_169 (by decide) ?_
                          exact ih111 (j + 1) (by omega) (by omega) _ _ _ hP hD hS (lv_sub hl [2, 3, 4, 1, 5, 0] rfl)
              have hl : lv_has ls 6 [(5, .int (nI 0)), (0, .ref (b 0)), (1, .int (nI (stM g (g 8 0)))), (2, .int (nI (chN g (g 8 0)))), (3, .int (nI (if (spO g i || spI g i 0) = true then 1 else 0))), (4, .int (nI i))] := by rw [show (if (spO g i || spI g i 0) = true then 1 else 0) = (if spO g i = true then 1 else 0) from by rw [show spI g i 0 = false from rfl, Bool.or_false]]; exact hl
              exact loop111 _ 0 (by omega) (Nat.lt_succ_self _) _ _ _ hP hD hS (lv_sub hl [1, 2, 3, 4, 5, 0] rfl)
        exact loop97 _ 0 (by omega) (Nat.lt_succ_self _) _ _ _ hP hD hS (lv_sub hl [2, 3, 4, 1, 0] rfl)
      · skip
        have hmb := hI.mem (m := i) (by omega)
        have hq0 : 0 < g 1 i := by omega
        have hq1 : g 1 i ≤ 12 := hmb.2.1.2.1
        have hq2 : g 2 i ≤ 12 := by omega
        have hfa : fl (g 4) (spN g) i i = g 4 i := fl_at
        refine lv_aload_n hx hb dX6_oneBeat_26 rfl (lv_at hl 0 rfl) ?_
        refine lv_iload_n hx hb dX6_oneBeat_27 rfl (lv_at hl 3 rfl) ?_
        refine lv_aload_n hx hb dX6_oneBeat_28 rfl (lv_at hl 0 rfl) ?_
        refine va_get (D := E.1) (ci := 10) (v := .ref (b 1)) (C := RX6) (T := TX6) (N := 20) hx hb hts inX6 hown hK hP 0 rfl rfl 1 (by decide) (hts _ q1435) (fun _ h9 => h9) rfl dX6_oneBeat_29 ?_
        refine lv_iconst (v := nI 1) hx hb dX6_oneBeat_32 (by decide) ?_
        refine nv_iald (f := (flat (upr (up2 g 8 1 (g 8 1 + 1)) 4 (fl (g 4) (spN g) i)))) (i := 1) (n := 74) hx hb hK hP 1 0 rfl rfl (by omega) (by decide) dX6_oneBeat_33 ?_
        refine tp_i (show nI ((flat (upr (up2 g 8 1 (g 8 1 + 1)) 4 (fl (g 4) (spN g) i))) 1) = nI (g 8 1 + 1) from rfl) ?_
        refine run_i (S := Unit) (run_V (As := [.int (nI i), .int (nI (g 8 1 + 1))]) (rest := []) (bs := [moC E b z (upr (up2 g 8 1 (g 8 1 + 1)) 4 (fl (g 4) (spN g) i)) gs ar]) (cb := [moC E b z (upr (up2 g 8 1 (g 8 1 + 1)) 4 (fl (g 4) (spN g) i)) gs ar]) hx hb hml hown hts hK hZ hA (c_X6_isDue l E _ b z (upr (up2 g 8 1 (g 8 1 + 1)) 4 (fl (g 4) (spN g) i)) gs ar  i (g 8 1 + 1) (by omega) hq0 hq1 hq2 (by omega)) l_X6_72 rfl ⟨⟨rfl, rfl⟩, Nat.le_of_ble_eq_true rfl, Nat.le_of_ble_eq_true rfl⟩ 10 rfl [0] rfl (by decide) rfl hP hD hS hl.1 rfl (Nat.le_of_ble_eq_true rfl) dX6_oneBeat_34 ⟨Nat.zero_le _, Nat.zero_le _⟩) hA hP hD hS (isC := [0]) rfl [] [0] (br := []) (bs2 := fun _ => [moC E b z (upr (up2 g 8 1 (g 8 1 + 1)) 4 (fl (g 4) (spN g) i)) gs ar]) rfl (by decide) (fun _ => rfl) (by decide) (fun r u H locs hw hP hD hS => ?_)
        subst hw
        refine bv_if_eq hx hb (tgt := 75) dX6_oneBeat_37 (by decide) (fun c_10 => ?_) (fun c_10 => ?_)
        · skip
          have hdu : dueB g i (g 8 1 + 1) = false := c_10
          have hcp : chp g i = false := by unfold chp; rw [hdu]; rfl
          rw [show stM g i = stM g (i + 1) from stM_f hcp] at hl
          rw [show chN g i = chN g (i + 1) from chN_f hcp] at hl
          have hsp : spN g i = g 4 i := if_neg (by rw [hcp]; decide)
          have hgE : (upr (up2 g 8 1 (g 8 1 + 1)) 4 (fl (g 4) (spN g) i)) = (upr (up2 g 8 1 (g 8 1 + 1)) 4 (fl (g 4) (spN g) (i + 1))) := by rw [fl_same hsp]
          rw [hgE] at hP hD; clear hgE
          refine lv_iinc (v := nI (i + 1)) (lv' := [(3, .int (nI (i + 1))), (0, .ref (b 0)), (1, .int (nI (stM g (i + 1)))), (2, .int (nI (chN g (i + 1))))]) hx hb dX6_oneBeat_75 hl (k := 3) rfl (nI_add i 1) (by decide) rfl (fun ls hl => ?_)
          refine lv_goto (tgt := 16) hx hb dX6_oneBeat_78 (by decide) ?_
          exact ih16 (i + 1) (by omega) (by omega) _ _ _ hP hD hS (lv_sub hl [1, 2, 3, 0] rfl)
        · skip
          have hdu : dueB g i (g 8 1 + 1) = true := c_10
          refine lv_aload_n hx hb dX6_oneBeat_40 rfl (lv_at hl 0 rfl) ?_
          refine lv_iload_n hx hb dX6_oneBeat_41 rfl (lv_at hl 3 rfl) ?_
          refine lv_iconst (v := nI 4) hx hb dX6_oneBeat_42 (by decide) ?_
          refine run_i (S := Unit) (run_V (As := [.int (nI i), .int (nI 4)]) (rest := []) (bs := [moC E b z (upr (up2 g 8 1 (g 8 1 + 1)) 4 (fl (g 4) (spN g) i)) gs ar]) (cb := [moC E b z (upr (up2 g 8 1 (g 8 1 + 1)) 4 (fl (g 4) (spN g) i)) gs ar]) hx hb hml hown hts hK hZ hA (c_X6_of l E _ b z (upr (up2 g 8 1 (g 8 1 + 1)) 4 (fl (g 4) (spN g) i)) gs ar  i 4 (by omega) (by decide)) l_X6_65 rfl ⟨⟨rfl, rfl⟩, Nat.le_of_ble_eq_true rfl, Nat.le_of_ble_eq_true rfl⟩ 10 rfl [0] rfl (by decide) rfl hP hD hS hl.1 rfl (Nat.le_of_ble_eq_true rfl) dX6_oneBeat_43 ⟨Nat.zero_le _, Nat.zero_le _⟩) hA hP hD hS (isC := [0]) rfl [] [0] (br := []) (bs2 := fun _ => [moC E b z (upr (up2 g 8 1 (g 8 1 + 1)) 4 (fl (g 4) (spN g) i)) gs ar]) rfl (by decide) (fun _ => rfl) (by decide) (fun r u H locs hw hP hD hS => ?_)
          rw [show (upr (up2 g 8 1 (g 8 1 + 1)) 4 (fl (g 4) (spN g) i)) 4 i = (fl (g 4) (spN g) i) i from rfl] at hw
          subst hw
          refine nv_if_ne (X := (((fl (g 4) (spN g) i) i : Nat) : Int)) hx hb (nI_toInt (by omega)) (tgt := 52) dX6_oneBeat_46 (by decide) (fun c_11 => ?_) (fun c_11 => ?_)
          · skip
            have hcp : chp g i = true := by unfold chp; rw [hdu, decide_eq_true (by omega)]; rfl
            have hsp : g 4 i - 1 = spN g i := (if_pos hcp).symm
            refine lv_aload_n hx hb dX6_oneBeat_52 rfl (lv_at hl 0 rfl) ?_
            refine lv_iload_n hx hb dX6_oneBeat_53 rfl (lv_at hl 3 rfl) ?_
            refine lv_iconst (v := nI 4) hx hb dX6_oneBeat_54 (by decide) ?_
            refine lv_aload_n hx hb dX6_oneBeat_55 rfl (lv_at hl 0 rfl) ?_
            refine lv_iload_n hx hb dX6_oneBeat_56 rfl (lv_at hl 3 rfl) ?_
            refine lv_iconst (v := nI 4) hx hb dX6_oneBeat_57 (by decide) ?_
            refine run_i (S := Unit) (run_V (As := [.int (nI i), .int (nI 4)]) (rest := [.int (nI 4), .int (nI i), .ref (b 0)]) (bs := [moC E b z (upr (up2 g 8 1 (g 8 1 + 1)) 4 (fl (g 4) (spN g) i)) gs ar]) (cb := [moC E b z (upr (up2 g 8 1 (g 8 1 + 1)) 4 (fl (g 4) (spN g) i)) gs ar]) hx hb hml hown hts hK hZ hA (c_X6_of l E _ b z (upr (up2 g 8 1 (g 8 1 + 1)) 4 (fl (g 4) (spN g) i)) gs ar  i 4 (by omega) (by decide)) l_X6_65 rfl ⟨⟨rfl, rfl⟩, Nat.le_of_ble_eq_true rfl, Nat.le_of_ble_eq_true rfl⟩ 10 rfl [0] rfl (by decide) rfl hP hD hS hl.1 rfl (Nat.le_of_ble_eq_true rfl) dX6_oneBeat_58 ⟨Nat.zero_le _, Nat.zero_le _⟩) hA hP hD hS (isC := [0]) rfl [] [0] (br := []) (bs2 := fun _ => [moC E b z (upr (up2 g 8 1 (g 8 1 + 1)) 4 (fl (g 4) (spN g) i)) gs ar]) rfl (by decide) (fun _ => rfl) (by decide) (fun r u H locs hw hP hD hS => ?_)
            rw [show (upr (up2 g 8 1 (g 8 1 + 1)) 4 (fl (g 4) (spN g) i)) 4 i = (fl (g 4) (spN g) i) i from rfl] at hw
            subst hw
            refine lv_iconst (v := nI 1) hx hb dX6_oneBeat_61 (by decide) ?_
            refine nv_isub hx hb (by omega) dX6_oneBeat_62 ?_
            refine run_v (S := Unit) (run_V (As := [.int (nI i), .int (nI 4), .int (nI (((fl (g 4) (spN g) i) i) - 1))]) (rest := []) (bs := [moC E b z (upr (up2 g 8 1 (g 8 1 + 1)) 4 (fl (g 4) (spN g) i)) gs ar]) (cb := [moC E b z (upr (up2 g 8 1 (g 8 1 + 1)) 4 (fl (g 4) (spN g) i)) gs ar]) hx hb hml hown hts hK hZ hA (c_X6_sets l E _ b z (upr (up2 g 8 1 (g 8 1 + 1)) 4 (fl (g 4) (spN g) i)) gs ar  i 4 (((fl (g 4) (spN g) i) i) - 1) (by omega) (by decide)) l_X6_76 rfl ⟨⟨rfl, rfl⟩, Nat.le_of_ble_eq_true rfl, Nat.le_of_ble_eq_true rfl⟩ 10 rfl [0] rfl (by decide) rfl hP hD hS hl.1 rfl (Nat.le_of_ble_eq_true rfl) dX6_oneBeat_63 ⟨Nat.zero_le _, Nat.zero_le _⟩) hA hP hD hS (isC := [0]) rfl [] [0] (br := []) (bs2 := fun _ => [moC E b z (up2 (upr (up2 g 8 1 (g 8 1 + 1)) 4 (fl (g 4) (spN g) i)) 4 i (((fl (g 4) (spN g) i) i) - 1)) gs ar]) rfl (by decide) (fun _ => rfl) (by decide) (fun u H locs hw hP hD hS => ?_)
            have hgE : (up2 (upr (up2 g 8 1 (g 8 1 + 1)) 4 (fl (g 4) (spN g) i)) 4 i (((fl (g 4) (spN g) i) i) - 1)) = (upr (up2 g 8 1 (g 8 1 + 1)) 4 (fl (g 4) (spN g) (i + 1))) := upr_up2.trans (by rw [hfa, fl_step hsp])
            rw [hgE] at hP hD; clear hgE
            refine lv_iload_n hx hb dX6_oneBeat_66 rfl (lv_at hl 1 rfl) ?_
            refine lv_iconst (v := nI 1) hx hb dX6_oneBeat_67 (by decide) ?_
            refine lv_iload_n hx hb dX6_oneBeat_68 rfl (lv_at hl 3 rfl) ?_
            refine nv_ishl hx hb (by omega) (by have := Nat.pow_le_pow_right (n := 2) (by decide) (show i ≤ 8 by omega); omega) dX6_oneBeat_69 ?_
            refine nv_ior hx hb dX6_oneBeat_70 ?_
            refine lv_istore_n (lv' := [(1, .int (nI (stM g i ||| 1 * 2 ^ i))), (0, .ref (b 0)), (2, .int (nI (chN g i))), (3, .int (nI i))]) hx hb dX6_oneBeat_71 rfl hl (by decide) rfl (fun ls hl => ?_)
            refine lv_iinc (v := nI (chN g i + 1)) (lv' := [(2, .int (nI (chN g i + 1))), (1, .int (nI (stM g i ||| 1 * 2 ^ i))), (0, .ref (b 0)), (3, .int (nI i))]) hx hb dX6_oneBeat_72 hl (k := 2) rfl (nI_add (chN g i) 1) (by decide) rfl (fun ls hl => ?_)
            rw [show (stM g i ||| 1 * 2 ^ i) = stM g (i + 1) from stM_t hcp] at hl
            rw [show chN g i + 1 = chN g (i + 1) from chN_t hcp] at hl
            refine lv_iinc (v := nI (i + 1)) (lv' := [(3, .int (nI (i + 1))), (2, .int (nI (chN g (i + 1)))), (1, .int (nI (stM g (i + 1)))), (0, .ref (b 0))]) hx hb dX6_oneBeat_75 hl (k := 3) rfl (nI_add i 1) (by decide) rfl (fun ls hl => ?_)
            refine lv_goto (tgt := 16) hx hb dX6_oneBeat_78 (by decide) ?_
            exact ih16 (i + 1) (by omega) (by omega) _ _ _ hP hD hS (lv_sub hl [3, 2, 1, 0] rfl)
          · skip
            have hcp0 : chp g i = false := by unfold chp; rw [hdu, decide_eq_false (by omega)]; rfl
            have hcp : chp g i = false := hcp0
            rw [show stM g i = stM g (i + 1) from stM_f hcp] at hl
            rw [show chN g i = chN g (i + 1) from chN_f hcp] at hl
            have hsp : spN g i = g 4 i := if_neg (by rw [hcp]; decide)
            have hgE : (upr (up2 g 8 1 (g 8 1 + 1)) 4 (fl (g 4) (spN g) i)) = (upr (up2 g 8 1 (g 8 1 + 1)) 4 (fl (g 4) (spN g) (i + 1))) := by rw [fl_same hsp]
            rw [hgE] at hP hD; clear hgE
            refine lv_goto (tgt := 75) hx hb dX6_oneBeat_49 (by decide) ?_
            refine lv_iinc (v := nI (i + 1)) (lv' := [(3, .int (nI (i + 1))), (0, .ref (b 0)), (1, .int (nI (stM g (i + 1)))), (2, .int (nI (chN g (i + 1))))]) hx hb dX6_oneBeat_75 hl (k := 3) rfl (nI_add i 1) (by decide) rfl (fun ls hl => ?_)
            refine lv_goto (tgt := 16) hx hb dX6_oneBeat_78 (by decide) ?_
            exact ih16 (i + 1) (by omega) (by omega) _ _ _ hP hD hS (lv_sub hl [1, 2, 3, 0] rfl)
  rw [show (up2 g 8 1 (g 8 1 + 1)) = upr (up2 g 8 1 (g 8 1 + 1)) 4 (fl (g 4) (spN g) 0) from by rw [fl_0]; exact (upr_id (g := up2 g 8 1 (g 8 1 + 1)) (w := 4)).symm] at hP hD
  exact loop16 _ 0 (by omega) (Nat.lt_succ_self _) _ _ _ hP hD hS (lv_sub hl [3, 2, 1, 0] rfl)
