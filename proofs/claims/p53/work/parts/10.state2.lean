abbrev rm_X4_copyFrom : Room := { frames := 1, cells := 0, slots := 0, locals := 120 }
set_option maxHeartbeats 4000000 in
set_option maxRecDepth 100000 in
theorem c_X4_copyFrom (l : Launch) (E : EE) (sz : Nat) (a : Nat → Nat) (g : GG) (a2 : Nat → Nat) (g2 : GG) : MV l yX4_copyFrom cX4_copyFrom 2 rm_X4_copyFrom [.ref (a 0), .ref (a2 0)] E sz [stC E a g, stC E a2 g2] (fun (_ : Unit) => True) (fun _ => [stC E a g2, stC E a2 g2]) 0 0 := by
  refine mv_go (by decide) (Nat.le_of_ble_eq_true rfl) ?_
  intro p e s m below meth c A Q ls hx hb hml hown hts hK hZ hA hsz hP hD hl hret hnm
  have hS : va_S A s.heap s.heap [] := va_S.rf
  have hl : lv_has ls 2 [(0, .ref (a 0)), (1, .ref (a2 0))] := hl
  skip
  refine lv_aload_n hx hb dX4_copyFrom_0 rfl (lv_at hl 1 rfl) ?_
  refine va_get (D := E.1) (ci := 8) (v := .ref (a2 1)) (C := RX4) (T := TX4) (N := 16) hx hb hts inX4 hown hK hP 9 rfl rfl 0 (by decide) (hts _ q66) (fun _ h9 => h9) rfl dX4_copyFrom_1 ?_
  refine lv_iconst (v := nI 0) hx hb dX4_copyFrom_4 (by decide) ?_
  refine lv_aload_n hx hb dX4_copyFrom_5 rfl (lv_at hl 0 rfl) ?_
  refine va_get (D := E.1) (ci := 8) (v := .ref (a 1)) (C := RX4) (T := TX4) (N := 16) hx hb hts inX4 hown hK hP 0 rfl rfl 0 (by decide) (hts _ q66) (fun _ h9 => h9) rfl dX4_copyFrom_6 ?_
  refine lv_iconst (v := nI 0) hx hb dX4_copyFrom_9 (by decide) ?_
  refine lv_bipush (v := nI 8) hx hb dX4_copyFrom_10 (by decide) ?_
  refine nv_copy (f := (g2 0)) (g := (g 0)) (n := 8) hx hb (hml.trans hl.1.symm) hown (hts _ q476) (hts _ q478) (hts _ q477) (hts _ q38) hK hP hD hS 10 1 0 rfl rfl rfl (by decide) (Nat.le_of_ble_eq_true rfl) (by decide +kernel) dX4_copyFrom_12 (fun H locs hP hD hS => ?_)
  have hP : va_P E.1 vwCl ([stC E a (upr g 0 (g2 0)), stC E a2 g2] : List va_W).flatten H := hP
  have hD : va_D A ([stC E a (upr g 0 (g2 0)), stC E a2 g2] : List va_W).flatten := hD
  refine lv_aload_n hx hb dX4_copyFrom_15 rfl (lv_at hl 1 rfl) ?_
  refine va_get (D := E.1) (ci := 8) (v := .ref (a2 2)) (C := RX4) (T := TX4) (N := 16) hx hb hts inX4 hown hK hP 9 rfl rfl 1 (by decide) (hts _ q70) (fun _ h9 => h9) rfl dX4_copyFrom_16 ?_
  refine lv_iconst (v := nI 0) hx hb dX4_copyFrom_19 (by decide) ?_
  refine lv_aload_n hx hb dX4_copyFrom_20 rfl (lv_at hl 0 rfl) ?_
  refine va_get (D := E.1) (ci := 8) (v := .ref (a 2)) (C := RX4) (T := TX4) (N := 16) hx hb hts inX4 hown hK hP 0 rfl rfl 1 (by decide) (hts _ q70) (fun _ h9 => h9) rfl dX4_copyFrom_21 ?_
  refine lv_iconst (v := nI 0) hx hb dX4_copyFrom_24 (by decide) ?_
  refine lv_bipush (v := nI 8) hx hb dX4_copyFrom_25 (by decide) ?_
  refine nv_copy (f := (g2 1)) (g := (g 1)) (n := 8) hx hb (hml.trans hl.1.symm) hown (hts _ q476) (hts _ q478) (hts _ q477) (hts _ q38) hK hP hD hS 11 2 0 rfl rfl rfl (by decide) (Nat.le_of_ble_eq_true rfl) (by decide +kernel) dX4_copyFrom_27 (fun H locs hP hD hS => ?_)
  have hP : va_P E.1 vwCl ([stC E a (upr (upr g 0 (g2 0)) 1 (g2 1)), stC E a2 g2] : List va_W).flatten H := hP
  have hD : va_D A ([stC E a (upr (upr g 0 (g2 0)) 1 (g2 1)), stC E a2 g2] : List va_W).flatten := hD
  refine lv_aload_n hx hb dX4_copyFrom_30 rfl (lv_at hl 1 rfl) ?_
  refine va_get (D := E.1) (ci := 8) (v := .ref (a2 3)) (C := RX4) (T := TX4) (N := 16) hx hb hts inX4 hown hK hP 9 rfl rfl 2 (by decide) (hts _ q72) (fun _ h9 => h9) rfl dX4_copyFrom_31 ?_
  refine lv_iconst (v := nI 0) hx hb dX4_copyFrom_34 (by decide) ?_
  refine lv_aload_n hx hb dX4_copyFrom_35 rfl (lv_at hl 0 rfl) ?_
  refine va_get (D := E.1) (ci := 8) (v := .ref (a 3)) (C := RX4) (T := TX4) (N := 16) hx hb hts inX4 hown hK hP 0 rfl rfl 2 (by decide) (hts _ q72) (fun _ h9 => h9) rfl dX4_copyFrom_36 ?_
  refine lv_iconst (v := nI 0) hx hb dX4_copyFrom_39 (by decide) ?_
  refine lv_bipush (v := nI 8) hx hb dX4_copyFrom_40 (by decide) ?_
  refine nv_copy (f := (g2 2)) (g := (g 2)) (n := 8) hx hb (hml.trans hl.1.symm) hown (hts _ q476) (hts _ q478) (hts _ q477) (hts _ q38) hK hP hD hS 12 3 0 rfl rfl rfl (by decide) (Nat.le_of_ble_eq_true rfl) (by decide +kernel) dX4_copyFrom_42 (fun H locs hP hD hS => ?_)
  have hP : va_P E.1 vwCl ([stC E a (upr (upr (upr g 0 (g2 0)) 1 (g2 1)) 2 (g2 2)), stC E a2 g2] : List va_W).flatten H := hP
  have hD : va_D A ([stC E a (upr (upr (upr g 0 (g2 0)) 1 (g2 1)) 2 (g2 2)), stC E a2 g2] : List va_W).flatten := hD
  refine lv_aload_n hx hb dX4_copyFrom_45 rfl (lv_at hl 1 rfl) ?_
  refine va_get (D := E.1) (ci := 8) (v := .ref (a2 4)) (C := RX4) (T := TX4) (N := 16) hx hb hts inX4 hown hK hP 9 rfl rfl 3 (by decide) (hts _ q74) (fun _ h9 => h9) rfl dX4_copyFrom_46 ?_
  refine lv_iconst (v := nI 0) hx hb dX4_copyFrom_49 (by decide) ?_
  refine lv_aload_n hx hb dX4_copyFrom_50 rfl (lv_at hl 0 rfl) ?_
  refine va_get (D := E.1) (ci := 8) (v := .ref (a 4)) (C := RX4) (T := TX4) (N := 16) hx hb hts inX4 hown hK hP 0 rfl rfl 3 (by decide) (hts _ q74) (fun _ h9 => h9) rfl dX4_copyFrom_51 ?_
  refine lv_iconst (v := nI 0) hx hb dX4_copyFrom_54 (by decide) ?_
  refine lv_bipush (v := nI 8) hx hb dX4_copyFrom_55 (by decide) ?_
  refine nv_copy (f := (g2 3)) (g := (g 3)) (n := 8) hx hb (hml.trans hl.1.symm) hown (hts _ q476) (hts _ q478) (hts _ q477) (hts _ q38) hK hP hD hS 13 4 0 rfl rfl rfl (by decide) (Nat.le_of_ble_eq_true rfl) (by decide +kernel) dX4_copyFrom_57 (fun H locs hP hD hS => ?_)
  have hP : va_P E.1 vwCl ([stC E a (upr (upr (upr (upr g 0 (g2 0)) 1 (g2 1)) 2 (g2 2)) 3 (g2 3)), stC E a2 g2] : List va_W).flatten H := hP
  have hD : va_D A ([stC E a (upr (upr (upr (upr g 0 (g2 0)) 1 (g2 1)) 2 (g2 2)) 3 (g2 3)), stC E a2 g2] : List va_W).flatten := hD
  refine lv_aload_n hx hb dX4_copyFrom_60 rfl (lv_at hl 1 rfl) ?_
  refine va_get (D := E.1) (ci := 8) (v := .ref (a2 5)) (C := RX4) (T := TX4) (N := 16) hx hb hts inX4 hown hK hP 9 rfl rfl 4 (by decide) (hts _ q76) (fun _ h9 => h9) rfl dX4_copyFrom_61 ?_
  refine lv_iconst (v := nI 0) hx hb dX4_copyFrom_64 (by decide) ?_
  refine lv_aload_n hx hb dX4_copyFrom_65 rfl (lv_at hl 0 rfl) ?_
  refine va_get (D := E.1) (ci := 8) (v := .ref (a 5)) (C := RX4) (T := TX4) (N := 16) hx hb hts inX4 hown hK hP 0 rfl rfl 4 (by decide) (hts _ q76) (fun _ h9 => h9) rfl dX4_copyFrom_66 ?_
  refine lv_iconst (v := nI 0) hx hb dX4_copyFrom_69 (by decide) ?_
  refine lv_bipush (v := nI 8) hx hb dX4_copyFrom_70 (by decide) ?_
  refine nv_copy (f := (g2 4)) (g := (g 4)) (n := 8) hx hb (hml.trans hl.1.symm) hown (hts _ q476) (hts _ q478) (hts _ q477) (hts _ q38) hK hP hD hS 14 5 0 rfl rfl rfl (by decide) (Nat.le_of_ble_eq_true rfl) (by decide +kernel) dX4_copyFrom_72 (fun H locs hP hD hS => ?_)
  have hP : va_P E.1 vwCl ([stC E a (upr (upr (upr (upr (upr g 0 (g2 0)) 1 (g2 1)) 2 (g2 2)) 3 (g2 3)) 4 (g2 4)), stC E a2 g2] : List va_W).flatten H := hP
  have hD : va_D A ([stC E a (upr (upr (upr (upr (upr g 0 (g2 0)) 1 (g2 1)) 2 (g2 2)) 3 (g2 3)) 4 (g2 4)), stC E a2 g2] : List va_W).flatten := hD
  refine lv_aload_n hx hb dX4_copyFrom_75 rfl (lv_at hl 1 rfl) ?_
  refine va_get (D := E.1) (ci := 8) (v := .ref (a2 6)) (C := RX4) (T := TX4) (N := 16) hx hb hts inX4 hown hK hP 9 rfl rfl 5 (by decide) (hts _ q78) (fun _ h9 => h9) rfl dX4_copyFrom_76 ?_
  refine lv_iconst (v := nI 0) hx hb dX4_copyFrom_79 (by decide) ?_
  refine lv_aload_n hx hb dX4_copyFrom_80 rfl (lv_at hl 0 rfl) ?_
  refine va_get (D := E.1) (ci := 8) (v := .ref (a 6)) (C := RX4) (T := TX4) (N := 16) hx hb hts inX4 hown hK hP 0 rfl rfl 5 (by decide) (hts _ q78) (fun _ h9 => h9) rfl dX4_copyFrom_81 ?_
  refine lv_iconst (v := nI 0) hx hb dX4_copyFrom_84 (by decide) ?_
  refine lv_bipush (v := nI 8) hx hb dX4_copyFrom_85 (by decide) ?_
  refine nv_copy (f := (g2 5)) (g := (g 5)) (n := 8) hx hb (hml.trans hl.1.symm) hown (hts _ q476) (hts _ q478) (hts _ q477) (hts _ q38) hK hP hD hS 15 6 0 rfl rfl rfl (by decide) (Nat.le_of_ble_eq_true rfl) (by decide +kernel) dX4_copyFrom_87 (fun H locs hP hD hS => ?_)
  have hP : va_P E.1 vwCl ([stC E a (upr (upr (upr (upr (upr (upr g 0 (g2 0)) 1 (g2 1)) 2 (g2 2)) 3 (g2 3)) 4 (g2 4)) 5 (g2 5)), stC E a2 g2] : List va_W).flatten H := hP
  have hD : va_D A ([stC E a (upr (upr (upr (upr (upr (upr g 0 (g2 0)) 1 (g2 1)) 2 (g2 2)) 3 (g2 3)) 4 (g2 4)) 5 (g2 5)), stC E a2 g2] : List va_W).flatten := hD
  refine lv_aload_n hx hb dX4_copyFrom_90 rfl (lv_at hl 1 rfl) ?_
  refine va_get (D := E.1) (ci := 8) (v := .ref (a2 7)) (C := RX4) (T := TX4) (N := 16) hx hb hts inX4 hown hK hP 9 rfl rfl 6 (by decide) (hts _ q81) (fun _ h9 => h9) rfl dX4_copyFrom_91 ?_
  refine lv_iconst (v := nI 0) hx hb dX4_copyFrom_94 (by decide) ?_
  refine lv_aload_n hx hb dX4_copyFrom_95 rfl (lv_at hl 0 rfl) ?_
  refine va_get (D := E.1) (ci := 8) (v := .ref (a 7)) (C := RX4) (T := TX4) (N := 16) hx hb hts inX4 hown hK hP 0 rfl rfl 6 (by decide) (hts _ q81) (fun _ h9 => h9) rfl dX4_copyFrom_96 ?_
  refine lv_iconst (v := nI 0) hx hb dX4_copyFrom_99 (by decide) ?_
  refine lv_bipush (v := nI 8) hx hb dX4_copyFrom_100 (by decide) ?_
  refine nv_copy (f := (g2 6)) (g := (g 6)) (n := 8) hx hb (hml.trans hl.1.symm) hown (hts _ q476) (hts _ q478) (hts _ q477) (hts _ q38) hK hP hD hS 16 7 0 rfl rfl rfl (by decide) (Nat.le_of_ble_eq_true rfl) (by decide +kernel) dX4_copyFrom_102 (fun H locs hP hD hS => ?_)
  have hP : va_P E.1 vwCl ([stC E a (upr (upr (upr (upr (upr (upr (upr g 0 (g2 0)) 1 (g2 1)) 2 (g2 2)) 3 (g2 3)) 4 (g2 4)) 5 (g2 5)) 6 (g2 6)), stC E a2 g2] : List va_W).flatten H := hP
  have hD : va_D A ([stC E a (upr (upr (upr (upr (upr (upr (upr g 0 (g2 0)) 1 (g2 1)) 2 (g2 2)) 3 (g2 3)) 4 (g2 4)) 5 (g2 5)) 6 (g2 6)), stC E a2 g2] : List va_W).flatten := hD
  refine lv_aload_n hx hb dX4_copyFrom_105 rfl (lv_at hl 1 rfl) ?_
  refine va_get (D := E.1) (ci := 8) (v := .ref (a2 8)) (C := RX4) (T := TX4) (N := 16) hx hb hts inX4 hown hK hP 9 rfl rfl 7 (by decide) (hts _ q83) (fun _ h9 => h9) rfl dX4_copyFrom_106 ?_
  refine lv_iconst (v := nI 0) hx hb dX4_copyFrom_109 (by decide) ?_
  refine lv_aload_n hx hb dX4_copyFrom_110 rfl (lv_at hl 0 rfl) ?_
  refine va_get (D := E.1) (ci := 8) (v := .ref (a 8)) (C := RX4) (T := TX4) (N := 16) hx hb hts inX4 hown hK hP 0 rfl rfl 7 (by decide) (hts _ q83) (fun _ h9 => h9) rfl dX4_copyFrom_111 ?_
  refine lv_iconst (v := nI 0) hx hb dX4_copyFrom_114 (by decide) ?_
  refine lv_bipush (v := nI 10) hx hb dX4_copyFrom_115 (by decide) ?_
  refine nv_copy (f := (g2 7)) (g := (g 7)) (n := 10) hx hb (hml.trans hl.1.symm) hown (hts _ q476) (hts _ q478) (hts _ q477) (hts _ q38) hK hP hD hS 17 8 0 rfl rfl rfl (by decide) (Nat.le_of_ble_eq_true rfl) (by decide +kernel) dX4_copyFrom_117 (fun H locs hP hD hS => ?_)
  have hP : va_P E.1 vwCl ([stC E a (upr (upr (upr (upr (upr (upr (upr (upr g 0 (g2 0)) 1 (g2 1)) 2 (g2 2)) 3 (g2 3)) 4 (g2 4)) 5 (g2 5)) 6 (g2 6)) 7 (g2 7)), stC E a2 g2] : List va_W).flatten H := hP
  have hD : va_D A ([stC E a (upr (upr (upr (upr (upr (upr (upr (upr g 0 (g2 0)) 1 (g2 1)) 2 (g2 2)) 3 (g2 3)) 4 (g2 4)) 5 (g2 5)) 6 (g2 6)) 7 (g2 7)), stC E a2 g2] : List va_W).flatten := hD
  refine lv_aload_n hx hb dX4_copyFrom_120 rfl (lv_at hl 0 rfl) ?_
  refine lv_aload_n hx hb dX4_copyFrom_121 rfl (lv_at hl 1 rfl) ?_
  refine va_get (D := E.1) (ci := 8) (v := .int (nI (g2 8 0))) (C := RX4) (T := TX4) (N := 16) hx hb hts inX4 hown hK hP 9 rfl rfl 8 (by decide) (hts _ q85) (fun _ h9 => h9) rfl dX4_copyFrom_122 ?_
  refine va_put (D := E.1) (ci := 8) (v := .int (nI (g2 8 0))) (ty := .int) (C := RX4) (T := TX4) (N := 16) hx hb hts inX4 tyX4 tyX4_ok nmX4 hown hK hP hD hS 0 rfl rfl 8 (by decide) (hts _ q85) (fun _ h9 => h9) rfl (by decide +kernel) rfl rfl (Nat.le_of_ble_eq_true rfl) dX4_copyFrom_125 (fun H locs hP hD hS => ?_)
  have hP : va_P E.1 vwCl ([stC E a (up2 (upr (upr (upr (upr (upr (upr (upr (upr g 0 (g2 0)) 1 (g2 1)) 2 (g2 2)) 3 (g2 3)) 4 (g2 4)) 5 (g2 5)) 6 (g2 6)) 7 (g2 7)) 8 0 (g2 8 0)), stC E a2 g2] : List va_W).flatten H := hP
  have hD : va_D A ([stC E a (up2 (upr (upr (upr (upr (upr (upr (upr (upr g 0 (g2 0)) 1 (g2 1)) 2 (g2 2)) 3 (g2 3)) 4 (g2 4)) 5 (g2 5)) 6 (g2 6)) 7 (g2 7)) 8 0 (g2 8 0)), stC E a2 g2] : List va_W).flatten := hD
  refine lv_aload_n hx hb dX4_copyFrom_128 rfl (lv_at hl 0 rfl) ?_
  refine lv_aload_n hx hb dX4_copyFrom_129 rfl (lv_at hl 1 rfl) ?_
  refine va_get (D := E.1) (ci := 8) (v := .int (nI (g2 8 7))) (C := RX4) (T := TX4) (N := 16) hx hb hts inX4 hown hK hP 9 rfl rfl 9 (by decide) (hts _ q89) (fun _ h9 => h9) rfl dX4_copyFrom_130 ?_
  refine va_put (D := E.1) (ci := 8) (v := .int (nI (g2 8 7))) (ty := .int) (C := RX4) (T := TX4) (N := 16) hx hb hts inX4 tyX4 tyX4_ok nmX4 hown hK hP hD hS 0 rfl rfl 9 (by decide) (hts _ q89) (fun _ h9 => h9) rfl (by decide +kernel) rfl rfl (Nat.le_of_ble_eq_true rfl) dX4_copyFrom_133 (fun H locs hP hD hS => ?_)
  have hP : va_P E.1 vwCl ([stC E a (up2 (up2 (upr (upr (upr (upr (upr (upr (upr (upr g 0 (g2 0)) 1 (g2 1)) 2 (g2 2)) 3 (g2 3)) 4 (g2 4)) 5 (g2 5)) 6 (g2 6)) 7 (g2 7)) 8 0 (g2 8 0)) 8 7 (g2 8 7)), stC E a2 g2] : List va_W).flatten H := hP
  have hD : va_D A ([stC E a (up2 (up2 (upr (upr (upr (upr (upr (upr (upr (upr g 0 (g2 0)) 1 (g2 1)) 2 (g2 2)) 3 (g2 3)) 4 (g2 4)) 5 (g2 5)) 6 (g2 6)) 7 (g2 7)) 8 0 (g2 8 0)) 8 7 (g2 8 7)), stC E a2 g2] : List va_W).flatten := hD
  refine lv_aload_n hx hb dX4_copyFrom_136 rfl (lv_at hl 0 rfl) ?_
  refine lv_aload_n hx hb dX4_copyFrom_137 rfl (lv_at hl 1 rfl) ?_
  refine va_get (D := E.1) (ci := 8) (v := .int (nI (g2 8 1))) (C := RX4) (T := TX4) (N := 16) hx hb hts inX4 hown hK hP 9 rfl rfl 10 (by decide) (hts _ q91) (fun _ h9 => h9) rfl dX4_copyFrom_138 ?_
  refine va_put (D := E.1) (ci := 8) (v := .int (nI (g2 8 1))) (ty := .int) (C := RX4) (T := TX4) (N := 16) hx hb hts inX4 tyX4 tyX4_ok nmX4 hown hK hP hD hS 0 rfl rfl 10 (by decide) (hts _ q91) (fun _ h9 => h9) rfl (by decide +kernel) rfl rfl (Nat.le_of_ble_eq_true rfl) dX4_copyFrom_141 (fun H locs hP hD hS => ?_)
  have hP : va_P E.1 vwCl ([stC E a (up2 (up2 (up2 (upr (upr (upr (upr (upr (upr (upr (upr g 0 (g2 0)) 1 (g2 1)) 2 (g2 2)) 3 (g2 3)) 4 (g2 4)) 5 (g2 5)) 6 (g2 6)) 7 (g2 7)) 8 0 (g2 8 0)) 8 7 (g2 8 7)) 8 1 (g2 8 1)), stC E a2 g2] : List va_W).flatten H := hP
  have hD : va_D A ([stC E a (up2 (up2 (up2 (upr (upr (upr (upr (upr (upr (upr (upr g 0 (g2 0)) 1 (g2 1)) 2 (g2 2)) 3 (g2 3)) 4 (g2 4)) 5 (g2 5)) 6 (g2 6)) 7 (g2 7)) 8 0 (g2 8 0)) 8 7 (g2 8 7)) 8 1 (g2 8 1)), stC E a2 g2] : List va_W).flatten := hD
  refine lv_aload_n hx hb dX4_copyFrom_144 rfl (lv_at hl 0 rfl) ?_
  refine lv_aload_n hx hb dX4_copyFrom_145 rfl (lv_at hl 1 rfl) ?_
  refine va_get (D := E.1) (ci := 8) (v := .int (nI (g2 8 2))) (C := RX4) (T := TX4) (N := 16) hx hb hts inX4 hown hK hP 9 rfl rfl 11 (by decide) (hts _ q93) (fun _ h9 => h9) rfl dX4_copyFrom_146 ?_
  refine va_put (D := E.1) (ci := 8) (v := .int (nI (g2 8 2))) (ty := .int) (C := RX4) (T := TX4) (N := 16) hx hb hts inX4 tyX4 tyX4_ok nmX4 hown hK hP hD hS 0 rfl rfl 11 (by decide) (hts _ q93) (fun _ h9 => h9) rfl (by decide +kernel) rfl rfl (Nat.le_of_ble_eq_true rfl) dX4_copyFrom_149 (fun H locs hP hD hS => ?_)
  have hP : va_P E.1 vwCl ([stC E a (up2 (up2 (up2 (up2 (upr (upr (upr (upr (upr (upr (upr (upr g 0 (g2 0)) 1 (g2 1)) 2 (g2 2)) 3 (g2 3)) 4 (g2 4)) 5 (g2 5)) 6 (g2 6)) 7 (g2 7)) 8 0 (g2 8 0)) 8 7 (g2 8 7)) 8 1 (g2 8 1)) 8 2 (g2 8 2)), stC E a2 g2] : List va_W).flatten H := hP
  have hD : va_D A ([stC E a (up2 (up2 (up2 (up2 (upr (upr (upr (upr (upr (upr (upr (upr g 0 (g2 0)) 1 (g2 1)) 2 (g2 2)) 3 (g2 3)) 4 (g2 4)) 5 (g2 5)) 6 (g2 6)) 7 (g2 7)) 8 0 (g2 8 0)) 8 7 (g2 8 7)) 8 1 (g2 8 1)) 8 2 (g2 8 2)), stC E a2 g2] : List va_W).flatten := hD
  refine lv_aload_n hx hb dX4_copyFrom_152 rfl (lv_at hl 0 rfl) ?_
  refine lv_aload_n hx hb dX4_copyFrom_153 rfl (lv_at hl 1 rfl) ?_
  refine va_get (D := E.1) (ci := 8) (v := .int (nI (g2 8 3))) (C := RX4) (T := TX4) (N := 16) hx hb hts inX4 hown hK hP 9 rfl rfl 12 (by decide) (hts _ q96) (fun _ h9 => h9) rfl dX4_copyFrom_154 ?_
  refine va_put (D := E.1) (ci := 8) (v := .int (nI (g2 8 3))) (ty := .int) (C := RX4) (T := TX4) (N := 16) hx hb hts inX4 tyX4 tyX4_ok nmX4 hown hK hP hD hS 0 rfl rfl 12 (by decide) (hts _ q96) (fun _ h9 => h9) rfl (by decide +kernel) rfl rfl (Nat.le_of_ble_eq_true rfl) dX4_copyFrom_157 (fun H locs hP hD hS => ?_)
  have hP : va_P E.1 vwCl ([stC E a (up2 (up2 (up2 (up2 (up2 (upr (upr (upr (upr (upr (upr (upr (upr g 0 (g2 0)) 1 (g2 1)) 2 (g2 2)) 3 (g2 3)) 4 (g2 4)) 5 (g2 5)) 6 (g2 6)) 7 (g2 7)) 8 0 (g2 8 0)) 8 7 (g2 8 7)) 8 1 (g2 8 1)) 8 2 (g2 8 2)) 8 3 (g2 8 3)), stC E a2 g2] : List va_W).flatten H := hP
  have hD : va_D A ([stC E a (up2 (up2 (up2 (up2 (up2 (upr (upr (upr (upr (upr (upr (upr (upr g 0 (g2 0)) 1 (g2 1)) 2 (g2 2)) 3 (g2 3)) 4 (g2 4)) 5 (g2 5)) 6 (g2 6)) 7 (g2 7)) 8 0 (g2 8 0)) 8 7 (g2 8 7)) 8 1 (g2 8 1)) 8 2 (g2 8 2)) 8 3 (g2 8 3)), stC E a2 g2] : List va_W).flatten := hD
  refine lv_aload_n hx hb dX4_copyFrom_160 rfl (lv_at hl 0 rfl) ?_
  refine lv_aload_n hx hb dX4_copyFrom_161 rfl (lv_at hl 1 rfl) ?_
  refine va_get (D := E.1) (ci := 8) (v := .int (nI (g2 8 4))) (C := RX4) (T := TX4) (N := 16) hx hb hts inX4 hown hK hP 9 rfl rfl 13 (by decide) (hts _ q98) (fun _ h9 => h9) rfl dX4_copyFrom_162 ?_
  refine va_put (D := E.1) (ci := 8) (v := .int (nI (g2 8 4))) (ty := .int) (C := RX4) (T := TX4) (N := 16) hx hb hts inX4 tyX4 tyX4_ok nmX4 hown hK hP hD hS 0 rfl rfl 13 (by decide) (hts _ q98) (fun _ h9 => h9) rfl (by decide +kernel) rfl rfl (Nat.le_of_ble_eq_true rfl) dX4_copyFrom_165 (fun H locs hP hD hS => ?_)
  have hP : va_P E.1 vwCl ([stC E a (up2 (up2 (up2 (up2 (up2 (up2 (upr (upr (upr (upr (upr (upr (upr (upr g 0 (g2 0)) 1 (g2 1)) 2 (g2 2)) 3 (g2 3)) 4 (g2 4)) 5 (g2 5)) 6 (g2 6)) 7 (g2 7)) 8 0 (g2 8 0)) 8 7 (g2 8 7)) 8 1 (g2 8 1)) 8 2 (g2 8 2)) 8 3 (g2 8 3)) 8 4 (g2 8 4)), stC E a2 g2] : List va_W).flatten H := hP
  have hD : va_D A ([stC E a (up2 (up2 (up2 (up2 (up2 (up2 (upr (upr (upr (upr (upr (upr (upr (upr g 0 (g2 0)) 1 (g2 1)) 2 (g2 2)) 3 (g2 3)) 4 (g2 4)) 5 (g2 5)) 6 (g2 6)) 7 (g2 7)) 8 0 (g2 8 0)) 8 7 (g2 8 7)) 8 1 (g2 8 1)) 8 2 (g2 8 2)) 8 3 (g2 8 3)) 8 4 (g2 8 4)), stC E a2 g2] : List va_W).flatten := hD
  refine lv_aload_n hx hb dX4_copyFrom_168 rfl (lv_at hl 0 rfl) ?_
  refine lv_aload_n hx hb dX4_copyFrom_169 rfl (lv_at hl 1 rfl) ?_
  refine va_get (D := E.1) (ci := 8) (v := .int (nI (g2 8 5))) (C := RX4) (T := TX4) (N := 16) hx hb hts inX4 hown hK hP 9 rfl rfl 14 (by decide) (hts _ q101) (fun _ h9 => h9) rfl dX4_copyFrom_170 ?_
  refine va_put (D := E.1) (ci := 8) (v := .int (nI (g2 8 5))) (ty := .int) (C := RX4) (T := TX4) (N := 16) hx hb hts inX4 tyX4 tyX4_ok nmX4 hown hK hP hD hS 0 rfl rfl 14 (by decide) (hts _ q101) (fun _ h9 => h9) rfl (by decide +kernel) rfl rfl (Nat.le_of_ble_eq_true rfl) dX4_copyFrom_173 (fun H locs hP hD hS => ?_)
  have hP : va_P E.1 vwCl ([stC E a (up2 (up2 (up2 (up2 (up2 (up2 (up2 (upr (upr (upr (upr (upr (upr (upr (upr g 0 (g2 0)) 1 (g2 1)) 2 (g2 2)) 3 (g2 3)) 4 (g2 4)) 5 (g2 5)) 6 (g2 6)) 7 (g2 7)) 8 0 (g2 8 0)) 8 7 (g2 8 7)) 8 1 (g2 8 1)) 8 2 (g2 8 2)) 8 3 (g2 8 3)) 8 4 (g2 8 4)) 8 5 (g2 8 5)), stC E a2 g2] : List va_W).flatten H := hP
  have hD : va_D A ([stC E a (up2 (up2 (up2 (up2 (up2 (up2 (up2 (upr (upr (upr (upr (upr (upr (upr (upr g 0 (g2 0)) 1 (g2 1)) 2 (g2 2)) 3 (g2 3)) 4 (g2 4)) 5 (g2 5)) 6 (g2 6)) 7 (g2 7)) 8 0 (g2 8 0)) 8 7 (g2 8 7)) 8 1 (g2 8 1)) 8 2 (g2 8 2)) 8 3 (g2 8 3)) 8 4 (g2 8 4)) 8 5 (g2 8 5)), stC E a2 g2] : List va_W).flatten := hD
  refine lv_aload_n hx hb dX4_copyFrom_176 rfl (lv_at hl 0 rfl) ?_
  refine lv_aload_n hx hb dX4_copyFrom_177 rfl (lv_at hl 1 rfl) ?_
  refine va_get (D := E.1) (ci := 8) (v := .int (nI (g2 8 6))) (C := RX4) (T := TX4) (N := 16) hx hb hts inX4 hown hK hP 9 rfl rfl 15 (by decide) (hts _ q103) (fun _ h9 => h9) rfl dX4_copyFrom_178 ?_
  refine va_put (D := E.1) (ci := 8) (v := .int (nI (g2 8 6))) (ty := .int) (C := RX4) (T := TX4) (N := 16) hx hb hts inX4 tyX4 tyX4_ok nmX4 hown hK hP hD hS 0 rfl rfl 15 (by decide) (hts _ q103) (fun _ h9 => h9) rfl (by decide +kernel) rfl rfl (Nat.le_of_ble_eq_true rfl) dX4_copyFrom_181 (fun H locs hP hD hS => ?_)
  have hP : va_P E.1 vwCl ([stC E a (up2 (up2 (up2 (up2 (up2 (up2 (up2 (up2 (upr (upr (upr (upr (upr (upr (upr (upr g 0 (g2 0)) 1 (g2 1)) 2 (g2 2)) 3 (g2 3)) 4 (g2 4)) 5 (g2 5)) 6 (g2 6)) 7 (g2 7)) 8 0 (g2 8 0)) 8 7 (g2 8 7)) 8 1 (g2 8 1)) 8 2 (g2 8 2)) 8 3 (g2 8 3)) 8 4 (g2 8 4)) 8 5 (g2 8 5)) 8 6 (g2 8 6)), stC E a2 g2] : List va_W).flatten H := hP
  have hD : va_D A ([stC E a (up2 (up2 (up2 (up2 (up2 (up2 (up2 (up2 (upr (upr (upr (upr (upr (upr (upr (upr g 0 (g2 0)) 1 (g2 1)) 2 (g2 2)) 3 (g2 3)) 4 (g2 4)) 5 (g2 5)) 6 (g2 6)) 7 (g2 7)) 8 0 (g2 8 0)) 8 7 (g2 8 7)) 8 1 (g2 8 1)) 8 2 (g2 8 2)) 8 3 (g2 8 3)) 8 4 (g2 8 4)) 8 5 (g2 8 5)) 8 6 (g2 8 6)), stC E a2 g2] : List va_W).flatten := hD
  exact hret _ _ () _ _ hP hD hS trivial dX4_copyFrom_184
abbrev rm_X4_isDue : Room := { frames := 0, cells := 0, slots := 0, locals := 0 }
set_option maxHeartbeats 4000000 in
set_option maxRecDepth 100000 in
theorem c_X4_isDue (l : Launch) (E : EE) (sz : Nat) (a : Nat → Nat) (g : GG) (m0 b0 : Nat) (hm : m0 < 8) (h1 : g 1 m0 ≤ 12) (h2 : g 2 m0 ≤ 12) (h3 : b0 < 1000000) : MI l yX4_isDue cX4_isDue 4 .boolean rm_X4_isDue [.ref (a 0), .int (nI m0), .int (nI b0)] E sz [stC E a g] (fun (r : Int32) (_ : Unit) => r = bI (dueB g m0 b0)) (fun _ => [stC E a g]) 0 0 := by
  refine mi_go (by decide) (Nat.le_of_ble_eq_true rfl) ?_
  intro p e s m below meth c A Q ls hx hb hml hown hts hK hZ hA hsz hP hD hl hret
  have hS : va_S A s.heap s.heap [] := va_S.rf
  have hl : lv_has ls 4 [(0, .ref (a 0)), (1, .int (nI m0)), (2, .int (nI b0))] := hl
  skip
  refine lv_aload_n hx hb dX4_isDue_0 rfl (lv_at hl 0 rfl) ?_
  refine va_get (D := E.1) (ci := 8) (v := .ref (a 2)) (C := RX4) (T := TX4) (N := 16) hx hb hts inX4 hown hK hP 0 rfl rfl 1 (by decide) (hts _ q70) (fun _ h9 => h9) rfl dX4_isDue_1 ?_
  refine lv_iload_n hx hb dX4_isDue_4 rfl (lv_at hl 1 rfl) ?_
  refine nv_iald (f := (g 1)) (i := m0) (n := 8) hx hb hK hP 2 0 rfl rfl (by omega) (by decide) dX4_isDue_5 ?_
  refine lv_istore_n (lv' := [(3, .int (nI (g 1 m0))), (0, .ref (a 0)), (1, .int (nI m0)), (2, .int (nI b0))]) hx hb dX4_isDue_6 rfl hl (by decide) rfl (fun ls hl => ?_)
  refine lv_iload_n hx hb dX4_isDue_7 rfl (lv_at hl 0 rfl) ?_
  refine nv_if_le (X := ((g 1 m0 : Nat) : Int)) hx hb (nI_toInt (by omega)) (tgt := 28) dX4_isDue_8 (by decide) (fun c_1 => ?_) (fun c_1 => ?_)
  · skip
    refine lv_iconst (v := nI 0) hx hb dX4_isDue_28 (by decide) ?_
    exact hret _ _ (nI 0) () _ _ hP hD hS (by decide) (bf_of (fun q => by first | exact c_2 q.2 | omega)) dX4_isDue_29
  · skip
    refine lv_iload_n hx hb dX4_isDue_11 rfl (lv_at hl 3 rfl) ?_
    refine lv_aload_n hx hb dX4_isDue_12 rfl (lv_at hl 1 rfl) ?_
    refine va_get (D := E.1) (ci := 8) (v := .ref (a 3)) (C := RX4) (T := TX4) (N := 16) hx hb hts inX4 hown hK hP 0 rfl rfl 2 (by decide) (hts _ q72) (fun _ h9 => h9) rfl dX4_isDue_13 ?_
    refine lv_iload_n hx hb dX4_isDue_16 rfl (lv_at hl 2 rfl) ?_
    refine nv_iald (f := (g 2)) (i := m0) (n := 8) hx hb hK hP 3 0 rfl rfl (by omega) (by decide) dX4_isDue_17 ?_
    refine lv_isub hx hb dX4_isDue_18 ?_
    refine lv_iload_n hx hb dX4_isDue_19 rfl (lv_at hl 0 rfl) ?_
    refine lv_irem hx hb dX4_isDue_20 (nI_ne0 (by omega) (by omega)) ?_
    refine nv_if_ne (X := ((b0 : Int) - (g 2 m0 : Int)).tmod (g 1 m0 : Int)) hx hb (irem_t (isub_t (nI_toInt (by omega)) (nI_toInt (by omega)) (by omega) (by omega)) (nI_toInt (by omega)) (by omega) (by omega) (by omega) (by omega)) (tgt := 28) dX4_isDue_21 (by decide) (fun c_2 => ?_) (fun c_2 => ?_)
    · skip
      have c_2 : ¬ (g 1 m0 : Int) ∣ ((b0 : Int) - (g 2 m0 : Int)) := fun q => c_2 (Int.dvd_iff_tmod_eq_zero.mp q)
      refine lv_iconst (v := nI 0) hx hb dX4_isDue_28 (by decide) ?_
      exact hret _ _ (nI 0) () _ _ hP hD hS (by decide) (bf_of (fun q => by first | exact c_2 q.2 | omega)) dX4_isDue_29
    · skip
      have c_2 := Int.dvd_iff_tmod_eq_zero.mpr c_2
      refine lv_iconst (v := nI 1) hx hb dX4_isDue_24 (by decide) ?_
      refine lv_goto (tgt := 29) hx hb dX4_isDue_25 (by decide) ?_
      exact hret _ _ (nI 1) () _ _ hP hD hS (by decide) (bt_of ⟨by omega, c_2⟩) dX4_isDue_29
abbrev rm_X4_turned : Room := { frames := 0, cells := 0, slots := 0, locals := 0 }
set_option maxHeartbeats 4000000 in
set_option maxRecDepth 100000 in
theorem c_X4_turned (l : Launch) (E : EE) (sz : Nat) (n0 k0 : Nat) (h1 : n0 < 4096) (h2 : k0 ≤ 6) : MI l yX4_turned cX4_turned 2 .int rm_X4_turned [.int (nI n0), .int (nI k0)] E sz [] (fun (r : Int32) (_ : Unit) => r = nI (rotN n0 k0)) (fun _ => []) 0 0 := by
  refine mi_go (by decide) (Nat.le_of_ble_eq_true rfl) ?_
  intro p e s m below meth c A Q ls hx hb hml hown hts hK hZ hA hsz hP hD hl hret
  have hS : va_S A s.heap s.heap [] := va_S.rf
  have hl : lv_has ls 2 [(0, .int (nI n0)), (1, .int (nI k0))] := hl
  skip
  have h3 : (2 : Nat) ^ k0 ≤ 2 ^ 6 := Nat.pow_le_pow_right (by decide) h2
  have h4 : n0 * 2 ^ k0 ≤ 4096 * 64 := Nat.mul_le_mul (by omega) h3
  refine lv_iload_n hx hb dX4_turned_0 rfl (lv_at hl 0 rfl) ?_
  refine lv_iload_n hx hb dX4_turned_1 rfl (lv_at hl 1 rfl) ?_
  refine nv_ishl hx hb (by omega) (by omega) dX4_turned_2 ?_
  refine lv_iload_n hx hb dX4_turned_3 rfl (lv_at hl 0 rfl) ?_
  refine lv_bipush (v := nI 12) hx hb dX4_turned_4 (by decide) ?_
  refine lv_iload_n hx hb dX4_turned_6 rfl (lv_at hl 1 rfl) ?_
  refine nv_isub hx hb (by omega) dX4_turned_7 ?_
  refine nv_iushr hx hb (by omega) (by omega) dX4_turned_8 ?_
  refine nv_ior hx hb dX4_turned_9 ?_
  refine lv_sipush (v := nI 4095) hx hb dX4_turned_10 (by decide) ?_
  refine nv_iand hx hb dX4_turned_13 ?_
  exact hret _ _ (nI (rotN n0 k0)) () _ _ hP hD hS rfl (by rfl) dX4_turned_14
abbrev rm_X4_hasClash : Room := { frames := 1, cells := 0, slots := 0, locals := 21 }
set_option maxHeartbeats 4000000 in
set_option maxRecDepth 100000 in
theorem c_X4_hasClash (l : Launch) (E : EE) (sz : Nat) (n0 : Nat) (h1 : n0 < 4096) : MI l yX4_hasClash cX4_hasClash 1 .boolean rm_X4_hasClash [.int (nI n0)] E sz [] (fun (r : Int32) (_ : Unit) => r = bI (clM n0)) (fun _ => []) 0 0 := by
  refine mi_go (by decide) (Nat.le_of_ble_eq_true rfl) ?_
  intro p e s m below meth c A Q ls hx hb hml hown hts hK hZ hA hsz hP hD hl hret
  have hS : va_S A s.heap s.heap [] := va_S.rf
  have hl : lv_has ls 1 [(0, .int (nI n0))] := hl
  skip
  have hr1 : n0 &&& rotN n0 1 ≤ n0 := Nat.and_le_left
  have hr6 : n0 &&& rotN n0 6 ≤ n0 := Nat.and_le_left
  refine lv_iload_n hx hb dX4_hasClash_0 rfl (lv_at hl 0 rfl) ?_
  refine lv_iload_n hx hb dX4_hasClash_1 rfl (lv_at hl 0 rfl) ?_
  refine lv_iconst (v := nI 1) hx hb dX4_hasClash_2 (by decide) ?_
  refine run_i (S := Unit) (run_S (As := [.int (nI n0), .int (nI 1)]) (rest := [.int (nI n0)]) (bs := []) (cb := []) hx hb hml hown hts hK hZ hA (c_X4_turned l E _ n0 1 (by omega) (by omega)) l_X4_87 rfl ⟨⟨rfl, rfl⟩, Nat.le_of_ble_eq_true rfl, Nat.le_of_ble_eq_true rfl⟩ [] rfl (by decide) hP hD hS hl.1 rfl (Nat.le_of_ble_eq_true rfl) dX4_hasClash_3 ⟨Nat.zero_le _, Nat.zero_le _⟩) hA hP hD hS (isC := []) rfl [] [] (br := []) (bs2 := fun _ => []) rfl (by decide) (fun _ => rfl) (by decide) (fun r u H locs hw hP hD hS => ?_)
  subst hw
  refine nv_iand hx hb dX4_hasClash_6 ?_
  refine nv_if_ne (X := (((n0 &&& rotN n0 1) : Nat) : Int)) hx hb (nI_toInt (by omega)) (tgt := 21) dX4_hasClash_7 (by decide) (fun c_1 => ?_) (fun c_1 => ?_)
  · skip
    refine lv_iconst (v := nI 1) hx hb dX4_hasClash_21 (by decide) ?_
    refine lv_goto (tgt := 26) hx hb dX4_hasClash_22 (by decide) ?_
    exact hret _ _ (nI 1) () _ _ hP hD hS (by decide) (bt_of (by omega)) dX4_hasClash_26
  · skip
    refine lv_iload_n hx hb dX4_hasClash_10 rfl (lv_at hl 0 rfl) ?_
    refine lv_iload_n hx hb dX4_hasClash_11 rfl (lv_at hl 0 rfl) ?_
    refine lv_bipush (v := nI 6) hx hb dX4_hasClash_12 (by decide) ?_
    refine run_i (S := Unit) (run_S (As := [.int (nI n0), .int (nI 6)]) (rest := [.int (nI n0)]) (bs := []) (cb := []) hx hb hml hown hts hK hZ hA (c_X4_turned l E _ n0 6 (by omega) (by omega)) l_X4_87 rfl ⟨⟨rfl, rfl⟩, Nat.le_of_ble_eq_true rfl, Nat.le_of_ble_eq_true rfl⟩ [] rfl (by decide) hP hD hS hl.1 rfl (Nat.le_of_ble_eq_true rfl) dX4_hasClash_14 ⟨Nat.zero_le _, Nat.zero_le _⟩) hA hP hD hS (isC := []) rfl [] [] (br := []) (bs2 := fun _ => []) rfl (by decide) (fun _ => rfl) (by decide) (fun r u H locs hw hP hD hS => ?_)
    subst hw
    refine nv_iand hx hb dX4_hasClash_17 ?_
    refine nv_if_eq (X := (((n0 &&& rotN n0 6) : Nat) : Int)) hx hb (nI_toInt (by omega)) (tgt := 25) dX4_hasClash_18 (by decide) (fun c_2 => ?_) (fun c_2 => ?_)
    · skip
      refine lv_iconst (v := nI 0) hx hb dX4_hasClash_25 (by decide) ?_
      exact hret _ _ (nI 0) () _ _ hP hD hS (by decide) (bf_of (by omega)) dX4_hasClash_26
    · skip
      refine lv_iconst (v := nI 1) hx hb dX4_hasClash_21 (by decide) ?_
      refine lv_goto (tgt := 26) hx hb dX4_hasClash_22 (by decide) ?_
      exact hret _ _ (nI 1) () _ _ hP hD hS (by decide) (bt_of (by omega)) dX4_hasClash_26
abbrev rm_X4_keepSpoiltBeat : Room := { frames := 1, cells := 0, slots := 0, locals := 30 }
set_option maxHeartbeats 4000000 in
set_option maxRecDepth 100000 in
theorem c_X4_keepSpoiltBeat (l : Launch) (E : EE) (sz : Nat) (a : Nat → Nat) (g : GG) (h10 : g 8 7 ≤ 10) : MV l yX4_keepSpoiltBeat cX4_keepSpoiltBeat 2 rm_X4_keepSpoiltBeat [.ref (a 0)] E sz [stC E a g] (fun (_ : Unit) => True) (fun _ => [stC E a (keepG g)]) 0 0 := by
  refine mv_go (by decide) (Nat.le_of_ble_eq_true rfl) ?_
  intro p e s m below meth c A Q ls hx hb hml hown hts hK hZ hA hsz hP hD hl hret hnm
  have hS : va_S A s.heap s.heap [] := va_S.rf
  have hl : lv_has ls 2 [(0, .ref (a 0))] := hl
  skip
  refine lv_bipush (v := nI 9) hx hb dX4_keepSpoiltBeat_0 (by decide) ?_
  refine lv_istore_n (lv' := [(1, .int (nI 9)), (0, .ref (a 0))]) hx hb dX4_keepSpoiltBeat_2 rfl hl (by decide) rfl (fun ls hl => ?_)
  have loop3 : ∀ (n : Nat) (q : Nat), q ≤ 9 → q < n → ∀ (H : Heap) (locs : List Loc) (ls : Array Slot), va_P E.1 vwCl ([stC E a (upr g 7 (shf (g 7) q))] : List va_W).flatten H → va_D A ([stC E a (upr g 7 (shf (g 7) q))] : List va_W).flatten → va_S A s.heap H locs → lv_has ls 2 [(0, .ref (a 0)), (1, .int (nI q))] → W p l e rm_X4_keepSpoiltBeat s m ([.ref (a 0)] : List Value).toArray below meth c H locs 0 0 Q (F0 m 3 ls []) := by
    intro n
    induction n with
    | zero => intro q hq hn; exact absurd hn (Nat.not_lt_zero _)
    | succ n ih =>
      intro q hq hn H locs ls hP hD hS hl
      refine lv_iload_n hx hb dX4_keepSpoiltBeat_3 rfl (lv_at hl 1 rfl) ?_
      refine nv_if_le (X := ((q : Nat) : Int)) hx hb (nI_toInt (by omega)) (tgt := 27) dX4_keepSpoiltBeat_4 (by decide) (fun c_1 => ?_) (fun c_1 => ?_)
      · skip
        have hgE : (upr g 7 (shf (g 7) q)) = (upr g 7 (shf (g 7) 0)) := by rw [show q = 0 by omega]
        rw [hgE] at hP hD; clear hgE
        refine lv_aload_n hx hb dX4_keepSpoiltBeat_27 rfl (lv_at hl 0 rfl) ?_
        refine va_get (D := E.1) (ci := 8) (v := .ref (a 8)) (C := RX4) (T := TX4) (N := 16) hx hb hts inX4 hown hK hP 0 rfl rfl 7 (by decide) (hts _ q83) (fun _ h9 => h9) rfl dX4_keepSpoiltBeat_28 ?_
        refine lv_iconst (v := nI 0) hx hb dX4_keepSpoiltBeat_31 (by decide) ?_
        refine lv_aload_n hx hb dX4_keepSpoiltBeat_32 rfl (lv_at hl 0 rfl) ?_
        refine va_get (D := E.1) (ci := 8) (v := .int (nI (g 8 1))) (C := RX4) (T := TX4) (N := 16) hx hb hts inX4 hown hK hP 0 rfl rfl 10 (by decide) (hts _ q91) (fun _ h9 => h9) rfl dX4_keepSpoiltBeat_33 ?_
        refine nv_iast (f := (shf (g 7) 0)) (i := 0) (v := g 8 1) (n := 10) hx hb hK hP hD hS 8 0 rfl rfl (by omega) (by decide) dX4_keepSpoiltBeat_36 (fun H locs hP hD hS => ?_)
        have hP : va_P E.1 vwCl ([stC E a (up2 (upr g 7 (shf (g 7) 0)) 7 0 (g 8 1))] : List va_W).flatten H := hP
        have hD : va_D A ([stC E a (up2 (upr g 7 (shf (g 7) 0)) 7 0 (g 8 1))] : List va_W).flatten := hD
        refine lv_aload_n hx hb dX4_keepSpoiltBeat_37 rfl (lv_at hl 0 rfl) ?_
        refine lv_aload_n hx hb dX4_keepSpoiltBeat_38 rfl (lv_at hl 0 rfl) ?_
        refine va_get (D := E.1) (ci := 8) (v := .int (nI (g 8 7))) (C := RX4) (T := TX4) (N := 16) hx hb hts inX4 hown hK hP 0 rfl rfl 9 (by decide) (hts _ q89) (fun _ h9 => h9) rfl dX4_keepSpoiltBeat_39 ?_
        refine lv_iconst (v := nI 1) hx hb dX4_keepSpoiltBeat_42 (by decide) ?_
        refine nv_iadd hx hb dX4_keepSpoiltBeat_43 ?_
        refine lv_bipush (v := nI 10) hx hb dX4_keepSpoiltBeat_44 (by decide) ?_
        refine va_mmin hx hb (hml.trans hl.1.symm) hown (hts _ q501) (hts _ q502) (hts _ q39) (hts _ q503) (Nat.le_of_ble_eq_true rfl) (Nat.le_of_ble_eq_true rfl) (Nat.le_of_ble_eq_true rfl) (Nat.le_of_ble_eq_true rfl) dX4_keepSpoiltBeat_46 ?_
        refine tp_i (nI_mn (a := g 8 7 + 1) (b := 10) (by omega) (by omega)) ?_
        refine va_put (D := E.1) (ci := 8) (v := .int (nI (if 10 < g 8 7 + 1 then 10 else g 8 7 + 1))) (ty := .int) (C := RX4) (T := TX4) (N := 16) hx hb hts inX4 tyX4 tyX4_ok nmX4 hown hK hP hD hS 0 rfl rfl 9 (by decide) (hts _ q89) (fun _ h9 => h9) rfl (by decide +kernel) rfl rfl (Nat.le_of_ble_eq_true rfl) dX4_keepSpoiltBeat_49 (fun H locs hP hD hS => ?_)
        have hP : va_P E.1 vwCl ([stC E a (up2 (up2 (upr g 7 (shf (g 7) 0)) 7 0 (g 8 1)) 8 7 (if 10 < g 8 7 + 1 then 10 else g 8 7 + 1))] : List va_W).flatten H := hP
        have hD : va_D A ([stC E a (up2 (up2 (upr g 7 (shf (g 7) 0)) 7 0 (g 8 1)) 8 7 (if 10 < g 8 7 + 1 then 10 else g 8 7 + 1))] : List va_W).flatten := hD
        exact hret _ _ () _ _ hP hD hS trivial dX4_keepSpoiltBeat_52
      · skip
        refine lv_aload_n hx hb dX4_keepSpoiltBeat_7 rfl (lv_at hl 0 rfl) ?_
        refine va_get (D := E.1) (ci := 8) (v := .ref (a 8)) (C := RX4) (T := TX4) (N := 16) hx hb hts inX4 hown hK hP 0 rfl rfl 7 (by decide) (hts _ q83) (fun _ h9 => h9) rfl dX4_keepSpoiltBeat_8 ?_
        refine lv_iload_n hx hb dX4_keepSpoiltBeat_11 rfl (lv_at hl 1 rfl) ?_
        refine lv_aload_n hx hb dX4_keepSpoiltBeat_12 rfl (lv_at hl 0 rfl) ?_
        refine va_get (D := E.1) (ci := 8) (v := .ref (a 8)) (C := RX4) (T := TX4) (N := 16) hx hb hts inX4 hown hK hP 0 rfl rfl 7 (by decide) (hts _ q83) (fun _ h9 => h9) rfl dX4_keepSpoiltBeat_13 ?_
        refine lv_iload_n hx hb dX4_keepSpoiltBeat_16 rfl (lv_at hl 1 rfl) ?_
        refine lv_iconst (v := nI 1) hx hb dX4_keepSpoiltBeat_17 (by decide) ?_
        refine nv_isub hx hb (by omega) dX4_keepSpoiltBeat_18 ?_
        refine nv_iald (f := (shf (g 7) q)) (i := q - 1) (n := 10) hx hb hK hP 8 0 rfl rfl (by omega) (by decide) dX4_keepSpoiltBeat_19 ?_
        refine nv_iast (f := (shf (g 7) q)) (i := q) (v := (shf (g 7) q) (q - 1)) (n := 10) hx hb hK hP hD hS 8 0 rfl rfl (by omega) (by decide) dX4_keepSpoiltBeat_20 (fun H locs hP hD hS => ?_)
        have hP : va_P E.1 vwCl ([stC E a (up2 (upr g 7 (shf (g 7) q)) 7 q ((shf (g 7) q) (q - 1)))] : List va_W).flatten H := hP
        have hD : va_D A ([stC E a (up2 (upr g 7 (shf (g 7) q)) 7 q ((shf (g 7) q) (q - 1)))] : List va_W).flatten := hD
        have hgE : (up2 (upr g 7 (shf (g 7) q)) 7 q ((shf (g 7) q) (q - 1))) = (upr g 7 (shf (g 7) (q - 1))) := upr_up2.trans (by rw [shf_step (by omega) (by omega)])
        rw [hgE] at hP hD; clear hgE
        refine lv_iinc (v := nI (q - 1)) (lv' := [(1, .int (nI (q - 1))), (0, .ref (a 0))]) hx hb dX4_keepSpoiltBeat_21 hl (k := 1) rfl (by rw [show Int32.ofInt (-1) = -nI 1 from by decide, ← Int32.sub_eq_add_neg]; exact pk_sub (by omega)) (by decide) rfl (fun ls hl => ?_)
        refine lv_goto (tgt := 3) hx hb dX4_keepSpoiltBeat_24 (by decide) ?_
        exact ih (q - 1) (by omega) (by omega) _ _ _ hP hD hS (lv_sub hl [1, 0] rfl)
  rw [show g = upr g 7 (shf (g 7) 9) by rw [shf_9, upr_id]] at hP hD
  exact loop3 _ 9 (by omega) (Nat.lt_succ_self _) _ _ _ hP hD hS (lv_sub hl [1, 0] rfl)
abbrev rm_X4_passOne : Room := { frames := 2, cells := 0, slots := 0, locals := 51 }
set_option maxHeartbeats 4000000 in
set_option maxRecDepth 100000 in
theorem c_X4_passOne (l : Launch) (E : EE) (sz : Nat) (a : Nat → Nat) (g : GG) (B : Nat) (hI : IB B g) : MV l yX4_passOne cX4_passOne 4 rm_X4_passOne [.ref (a 0)] E sz [stC E a g] (fun (_ : Unit) => True) (fun _ => [stC E a (oneG g)]) 0 0 := by
  refine mv_go (by decide) (Nat.le_of_ble_eq_true rfl) ?_
  intro p e s m below meth c A Q ls hx hb hml hown hts hK hZ hA hsz hP hD hl hret hnm
  have hS : va_S A s.heap s.heap [] := va_S.rf
  have hl : lv_has ls 4 [(0, .ref (a 0))] := hl
  skip
  have hmc := hI.mc
  have hbu := hI.bud
  refine lv_aload_n hx hb dX4_passOne_0 rfl (lv_at hl 0 rfl) ?_
  refine lv_dup hx hb dX4_passOne_1 rfl ?_
  refine va_get (D := E.1) (ci := 8) (v := .int (nI (g 8 1))) (C := RX4) (T := TX4) (N := 16) hx hb hts inX4 hown hK hP 0 rfl rfl 10 (by decide) (hts _ q91) (fun _ h9 => h9) rfl dX4_passOne_2 ?_
  refine lv_iconst (v := nI 1) hx hb dX4_passOne_5 (by decide) ?_
  refine nv_iadd hx hb dX4_passOne_6 ?_
  refine va_put (D := E.1) (ci := 8) (v := .int (nI (g 8 1 + 1))) (ty := .int) (C := RX4) (T := TX4) (N := 16) hx hb hts inX4 tyX4 tyX4_ok nmX4 hown hK hP hD hS 0 rfl rfl 10 (by decide) (hts _ q91) (fun _ h9 => h9) rfl (by decide +kernel) rfl rfl (Nat.le_of_ble_eq_true rfl) dX4_passOne_7 (fun H locs hP hD hS => ?_)
  have hP : va_P E.1 vwCl ([stC E a (up2 g 8 1 (g 8 1 + 1))] : List va_W).flatten H := hP
  have hD : va_D A ([stC E a (up2 g 8 1 (g 8 1 + 1))] : List va_W).flatten := hD
  refine lv_iconst (v := nI 0) hx hb dX4_passOne_10 (by decide) ?_
  refine lv_istore_n (lv' := [(1, .int (nI 0)), (0, .ref (a 0))]) hx hb dX4_passOne_11 rfl hl (by decide) rfl (fun ls hl => ?_)
  refine lv_iconst (v := nI 0) hx hb dX4_passOne_12 (by decide) ?_
  refine lv_istore_n (lv' := [(2, .int (nI 0)), (1, .int (nI 0)), (0, .ref (a 0))]) hx hb dX4_passOne_13 rfl hl (by decide) rfl (fun ls hl => ?_)
  refine lv_iconst (v := nI 0) hx hb dX4_passOne_14 (by decide) ?_
  refine lv_istore_n (lv' := [(3, .int (nI 0)), (2, .int (nI 0)), (1, .int (nI 0)), (0, .ref (a 0))]) hx hb dX4_passOne_15 rfl hl (by decide) rfl (fun ls hl => ?_)
  have loop16 : ∀ (n : Nat) (i : Nat), i ≤ g 8 0 → g 8 0 - i < n → ∀ (H : Heap) (locs : List Loc) (ls : Array Slot), va_P E.1 vwCl ([stC E a (upr (up2 g 8 1 (g 8 1 + 1)) 4 (fl (g 4) (spN g) i))] : List va_W).flatten H → va_D A ([stC E a (upr (up2 g 8 1 (g 8 1 + 1)) 4 (fl (g 4) (spN g) i))] : List va_W).flatten → va_S A s.heap H locs → lv_has ls 4 [(0, .ref (a 0)), (1, .int (nI (chN g i))), (2, .int (nI (msk g i))), (3, .int (nI i))] → W p l e rm_X4_passOne s m ([.ref (a 0)] : List Value).toArray below meth c H locs 0 0 Q (F0 m 16 ls []) := by
    intro n
    induction n with
    | zero => intro i hi hn; exact absurd hn (Nat.not_lt_zero _)
    | succ n ih =>
      intro i hi hn H locs ls hP hD hS hl
      refine lv_iload_n hx hb dX4_passOne_16 rfl (lv_at hl 3 rfl) ?_
      refine lv_aload_n hx hb dX4_passOne_17 rfl (lv_at hl 0 rfl) ?_
      refine va_get (D := E.1) (ci := 8) (v := .int (nI (g 8 0))) (C := RX4) (T := TX4) (N := 16) hx hb hts inX4 hown hK hP 0 rfl rfl 8 (by decide) (hts _ q85) (fun _ h9 => h9) rfl dX4_passOne_18 ?_
      refine nv_icmp_ge (X := ((i : Nat) : Int)) (Y := ((g 8 0 : Nat) : Int)) hx hb (nI_toInt (by omega)) (nI_toInt (by omega)) (tgt := 75) dX4_passOne_21 (by decide) (fun c_1 => ?_) (fun c_1 => ?_)
      · skip
        rw [show chN g i = chN g (g 8 0) from by rw [show i = g 8 0 by omega]] at hl
        rw [show msk g i = msk g (g 8 0) from by rw [show i = g 8 0 by omega]] at hl
        have hgE : (upr (up2 g 8 1 (g 8 1 + 1)) 4 (fl (g 4) (spN g) i)) = (upr (up2 g 8 1 (g 8 1 + 1)) 4 (fl (g 4) (spN g) (g 8 0))) := by rw [show i = g 8 0 by omega]
        rw [hgE] at hP hD; clear hgE
        have hml4 : msk g (g 8 0) < 4096 := msk_lt (fun m hm => (hI.mem (m := m) hm).2.2.1)
        refine lv_aload_n hx hb dX4_passOne_75 rfl (lv_at hl 0 rfl) ?_
        refine lv_dup hx hb dX4_passOne_76 rfl ?_
        refine va_get (D := E.1) (ci := 8) (v := .int (nI (g 8 6))) (C := RX4) (T := TX4) (N := 16) hx hb hts inX4 hown hK hP 0 rfl rfl 15 (by decide) (hts _ q103) (fun _ h9 => h9) rfl dX4_passOne_77 ?_
        refine lv_iload_n hx hb dX4_passOne_80 rfl (lv_at hl 1 rfl) ?_
        refine nv_iadd hx hb dX4_passOne_81 ?_
        refine va_put (D := E.1) (ci := 8) (v := .int (nI (g 8 6 + (chN g (g 8 0))))) (ty := .int) (C := RX4) (T := TX4) (N := 16) hx hb hts inX4 tyX4 tyX4_ok nmX4 hown hK hP hD hS 0 rfl rfl 15 (by decide) (hts _ q103) (fun _ h9 => h9) rfl (by decide +kernel) rfl rfl (Nat.le_of_ble_eq_true rfl) dX4_passOne_82 (fun H locs hP hD hS => ?_)
        have hP : va_P E.1 vwCl ([stC E a (up2 (upr (up2 g 8 1 (g 8 1 + 1)) 4 (fl (g 4) (spN g) (g 8 0))) 8 6 (g 8 6 + (chN g (g 8 0))))] : List va_W).flatten H := hP
        have hD : va_D A ([stC E a (up2 (upr (up2 g 8 1 (g 8 1 + 1)) 4 (fl (g 4) (spN g) (g 8 0))) 8 6 (g 8 6 + (chN g (g 8 0))))] : List va_W).flatten := hD
        refine lv_iload_n hx hb dX4_passOne_85 rfl (lv_at hl 2 rfl) ?_
        refine run_i (S := Unit) (run_S (As := [.int (nI (msk g (g 8 0)))]) (rest := []) (bs := [stC E a (up2 (upr (up2 g 8 1 (g 8 1 + 1)) 4 (fl (g 4) (spN g) (g 8 0))) 8 6 (g 8 6 + (chN g (g 8 0))))]) (cb := []) hx hb hml hown hts hK hZ hA (c_X4_hasClash l E _ (msk g (g 8 0)) (by omega)) l_X4_81 rfl ⟨⟨rfl, rfl⟩, Nat.le_of_ble_eq_true rfl, Nat.le_of_ble_eq_true rfl⟩ [] rfl (by decide) hP hD hS hl.1 rfl (Nat.le_of_ble_eq_true rfl) dX4_passOne_86 ⟨Nat.zero_le _, Nat.zero_le _⟩) hA hP hD hS (isC := []) rfl [0] [0] (br := [stC E a (up2 (upr (up2 g 8 1 (g 8 1 + 1)) 4 (fl (g 4) (spN g) (g 8 0))) 8 6 (g 8 6 + (chN g (g 8 0))))]) (bs2 := fun _ => [stC E a (up2 (upr (up2 g 8 1 (g 8 1 + 1)) 4 (fl (g 4) (spN g) (g 8 0))) 8 6 (g 8 6 + (chN g (g 8 0))))]) rfl (by decide) (fun _ => rfl) (by decide) (fun r u H locs hw hP hD hS => ?_)
        subst hw
        refine bv_if_eq hx hb (tgt := 99) dX4_passOne_89 (by decide) (fun c_2 => ?_) (fun c_2 => ?_)
        · skip
          have hcl := c_2
          refine lv_aload_n hx hb dX4_passOne_99 rfl (lv_at hl 0 rfl) ?_
          refine lv_dup hx hb dX4_passOne_100 rfl ?_
          refine va_get (D := E.1) (ci := 8) (v := .int (nI (g 8 2))) (C := RX4) (T := TX4) (N := 16) hx hb hts inX4 hown hK hP 0 rfl rfl 11 (by decide) (hts _ q93) (fun _ h9 => h9) rfl dX4_passOne_101 ?_
          refine lv_iload_n hx hb dX4_passOne_104 rfl (lv_at hl 1 rfl) ?_
          refine nv_iadd hx hb dX4_passOne_105 ?_
          refine va_put (D := E.1) (ci := 8) (v := .int (nI (g 8 2 + (chN g (g 8 0))))) (ty := .int) (C := RX4) (T := TX4) (N := 16) hx hb hts inX4 tyX4 tyX4_ok nmX4 hown hK hP hD hS 0 rfl rfl 11 (by decide) (hts _ q93) (fun _ h9 => h9) rfl (by decide +kernel) rfl rfl (Nat.le_of_ble_eq_true rfl) dX4_passOne_106 (fun H locs hP hD hS => ?_)
          have hP : va_P E.1 vwCl ([stC E a (up2 (up2 (upr (up2 g 8 1 (g 8 1 + 1)) 4 (fl (g 4) (spN g) (g 8 0))) 8 6 (g 8 6 + (chN g (g 8 0)))) 8 2 (g 8 2 + (chN g (g 8 0))))] : List va_W).flatten H := hP
          have hD : va_D A ([stC E a (up2 (up2 (upr (up2 g 8 1 (g 8 1 + 1)) 4 (fl (g 4) (spN g) (g 8 0))) 8 6 (g 8 6 + (chN g (g 8 0)))) 8 2 (g 8 2 + (chN g (g 8 0))))] : List va_W).flatten := hD
          refine lv_aload_n hx hb dX4_passOne_109 rfl (lv_at hl 0 rfl) ?_
          refine lv_dup hx hb dX4_passOne_110 rfl ?_
          refine va_get (D := E.1) (ci := 8) (v := .int (nI (g 8 5))) (C := RX4) (T := TX4) (N := 16) hx hb hts inX4 hown hK hP 0 rfl rfl 14 (by decide) (hts _ q101) (fun _ h9 => h9) rfl dX4_passOne_111 ?_
          refine lv_iload_n hx hb dX4_passOne_114 rfl (lv_at hl 1 rfl) ?_
          refine nv_iadd hx hb dX4_passOne_115 ?_
          refine va_put (D := E.1) (ci := 8) (v := .int (nI (g 8 5 + (chN g (g 8 0))))) (ty := .int) (C := RX4) (T := TX4) (N := 16) hx hb hts inX4 tyX4 tyX4_ok nmX4 hown hK hP hD hS 0 rfl rfl 14 (by decide) (hts _ q101) (fun _ h9 => h9) rfl (by decide +kernel) rfl rfl (Nat.le_of_ble_eq_true rfl) dX4_passOne_116 (fun H locs hP hD hS => ?_)
          have hP : va_P E.1 vwCl ([stC E a (up2 (up2 (up2 (upr (up2 g 8 1 (g 8 1 + 1)) 4 (fl (g 4) (spN g) (g 8 0))) 8 6 (g 8 6 + (chN g (g 8 0)))) 8 2 (g 8 2 + (chN g (g 8 0)))) 8 5 (g 8 5 + (chN g (g 8 0))))] : List va_W).flatten H := hP
          have hD : va_D A ([stC E a (up2 (up2 (up2 (upr (up2 g 8 1 (g 8 1 + 1)) 4 (fl (g 4) (spN g) (g 8 0))) 8 6 (g 8 6 + (chN g (g 8 0)))) 8 2 (g 8 2 + (chN g (g 8 0)))) 8 5 (g 8 5 + (chN g (g 8 0))))] : List va_W).flatten := hD
          have hgE : (up2 (up2 (up2 (upr (up2 g 8 1 (g 8 1 + 1)) 4 (fl (g 4) (spN g) (g 8 0))) 8 6 (g 8 6 + (chN g (g 8 0)))) 8 2 (g 8 2 + (chN g (g 8 0)))) 8 5 (g 8 5 + (chN g (g 8 0)))) = (oneG g) := by show up2 (up2 (midG g) 8 2 _) 8 5 _ = _; unfold oneG; rw [if_neg (by rw [hcl]; decide)]
          rw [hgE] at hP hD; clear hgE
          exact hret _ _ () _ _ hP hD hS trivial dX4_passOne_119
        · skip
          have hcl := c_2
          refine lv_aload_n hx hb dX4_passOne_92 rfl (lv_at hl 0 rfl) ?_
          refine run_v (S := Unit) (run_V (As := []) (rest := []) (bs := [stC E a (up2 (upr (up2 g 8 1 (g 8 1 + 1)) 4 (fl (g 4) (spN g) (g 8 0))) 8 6 (g 8 6 + (chN g (g 8 0))))]) (cb := [stC E a (up2 (upr (up2 g 8 1 (g 8 1 + 1)) 4 (fl (g 4) (spN g) (g 8 0))) 8 6 (g 8 6 + (chN g (g 8 0))))]) hx hb hml hown hts hK hZ hA (c_X4_keepSpoiltBeat l E _ a (up2 (upr (up2 g 8 1 (g 8 1 + 1)) 4 (fl (g 4) (spN g) (g 8 0))) 8 6 (g 8 6 + (chN g (g 8 0))))  hI.1.2.2) l_X4_84 rfl ⟨⟨rfl, rfl⟩, Nat.le_of_ble_eq_true rfl, Nat.le_of_ble_eq_true rfl⟩ 8 rfl [0] rfl (by decide) rfl hP hD hS hl.1 rfl (Nat.le_of_ble_eq_true rfl) dX4_passOne_93 ⟨Nat.zero_le _, Nat.zero_le _⟩) hA hP hD hS (isC := [0]) rfl [] [0] (br := []) (bs2 := fun _ => [stC E a (keepG (up2 (upr (up2 g 8 1 (g 8 1 + 1)) 4 (fl (g 4) (spN g) (g 8 0))) 8 6 (g 8 6 + (chN g (g 8 0)))))]) rfl (by decide) (fun _ => rfl) (by decide) (fun u H locs hw hP hD hS => ?_)
          refine lv_goto (tgt := 119) hx hb dX4_passOne_96 (by decide) ?_
          have hgE : (keepG (up2 (upr (up2 g 8 1 (g 8 1 + 1)) 4 (fl (g 4) (spN g) (g 8 0))) 8 6 (g 8 6 + (chN g (g 8 0))))) = (oneG g) := by show keepG (midG g) = oneG g; unfold oneG; rw [if_pos hcl]
          rw [hgE] at hP hD; clear hgE
          exact hret _ _ () _ _ hP hD hS trivial dX4_passOne_119
      · skip
        have hmb := hI.mem (m := i) (by omega)
        have hq1 : g 1 i ≤ 12 := hmb.2.1.2.1
        have hq2 : g 2 i ≤ 12 := by omega
        have hml4 : msk g i < 4096 := msk_lt (fun m hm => (hI.mem (m := m) (by omega)).2.2.1)
        refine lv_aload_n hx hb dX4_passOne_24 rfl (lv_at hl 0 rfl) ?_
        refine lv_iload_n hx hb dX4_passOne_25 rfl (lv_at hl 3 rfl) ?_
        refine lv_aload_n hx hb dX4_passOne_26 rfl (lv_at hl 0 rfl) ?_
        refine va_get (D := E.1) (ci := 8) (v := .int (nI (g 8 1 + 1))) (C := RX4) (T := TX4) (N := 16) hx hb hts inX4 hown hK hP 0 rfl rfl 10 (by decide) (hts _ q91) (fun _ h9 => h9) rfl dX4_passOne_27 ?_
        refine run_i (S := Unit) (run_V (As := [.int (nI i), .int (nI (g 8 1 + 1))]) (rest := []) (bs := [stC E a (upr (up2 g 8 1 (g 8 1 + 1)) 4 (fl (g 4) (spN g) i))]) (cb := [stC E a (upr (up2 g 8 1 (g 8 1 + 1)) 4 (fl (g 4) (spN g) i))]) hx hb hml hown hts hK hZ hA (c_X4_isDue l E _ a (upr (up2 g 8 1 (g 8 1 + 1)) 4 (fl (g 4) (spN g) i)) i (g 8 1 + 1) (by omega) hq1 hq2 (by omega)) l_X4_77 rfl ⟨⟨rfl, rfl⟩, Nat.le_of_ble_eq_true rfl, Nat.le_of_ble_eq_true rfl⟩ 8 rfl [0] rfl (by decide) rfl hP hD hS hl.1 rfl (Nat.le_of_ble_eq_true rfl) dX4_passOne_30 ⟨Nat.zero_le _, Nat.zero_le _⟩) hA hP hD hS (isC := [0]) rfl [] [0] (br := []) (bs2 := fun _ => [stC E a (upr (up2 g 8 1 (g 8 1 + 1)) 4 (fl (g 4) (spN g) i))]) rfl (by decide) (fun _ => rfl) (by decide) (fun r u H locs hw hP hD hS => ?_)
        subst hw
        refine bv_if_eq hx hb (tgt := 69) dX4_passOne_33 (by decide) (fun c_3 => ?_) (fun c_3 => ?_)
        · skip
          have hdu : dueB g i (g 8 1 + 1) = false := c_3
          have hcp : chp g i = false := by unfold chp; rw [hdu]; rfl
          rw [show chN g i = chN g (i + 1) from chN_f hcp] at hl
          rw [show msk g i = msk g (i + 1) from msk_f hcp] at hl
          have hsp : spN g i = g 4 i := if_neg (by rw [hcp]; decide)
          have hgE : (upr (up2 g 8 1 (g 8 1 + 1)) 4 (fl (g 4) (spN g) i)) = (upr (up2 g 8 1 (g 8 1 + 1)) 4 (fl (g 4) (spN g) (i + 1))) := by rw [fl_same hsp]
          rw [hgE] at hP hD; clear hgE
          refine lv_iinc (v := nI (i + 1)) (lv' := [(3, .int (nI (i + 1))), (0, .ref (a 0)), (1, .int (nI (chN g (i + 1)))), (2, .int (nI (msk g (i + 1))))]) hx hb dX4_passOne_69 hl (k := 3) rfl (nI_add i 1) (by decide) rfl (fun ls hl => ?_)
          refine lv_goto (tgt := 16) hx hb dX4_passOne_72 (by decide) ?_
          exact ih (i + 1) (by omega) (by omega) _ _ _ hP hD hS (lv_sub hl [1, 2, 3, 0] rfl)
        · skip
          have hdu : dueB g i (g 8 1 + 1) = true := c_3
          refine lv_aload_n hx hb dX4_passOne_36 rfl (lv_at hl 0 rfl) ?_
          refine va_get (D := E.1) (ci := 8) (v := .ref (a 5)) (C := RX4) (T := TX4) (N := 16) hx hb hts inX4 hown hK hP 0 rfl rfl 4 (by decide) (hts _ q76) (fun _ h9 => h9) rfl dX4_passOne_37 ?_
          refine lv_iload_n hx hb dX4_passOne_40 rfl (lv_at hl 3 rfl) ?_
          refine nv_iald (f := (fl (g 4) (spN g) i)) (i := i) (n := 8) hx hb hK hP 5 0 rfl rfl (by omega) (by decide) dX4_passOne_41 ?_
          refine tp_i (congrArg nI fl_at) ?_
          refine nv_if_le (X := ((g 4 i : Nat) : Int)) hx hb (nI_toInt (by omega)) (tgt := 69) dX4_passOne_42 (by decide) (fun c_4 => ?_) (fun c_4 => ?_)
          · skip
            have hcp0 : chp g i = false := by unfold chp; rw [hdu, decide_eq_false (by omega)]; rfl
            have hcp : chp g i = false := hcp0
            rw [show chN g i = chN g (i + 1) from chN_f hcp] at hl
            rw [show msk g i = msk g (i + 1) from msk_f hcp] at hl
            have hsp : spN g i = g 4 i := if_neg (by rw [hcp]; decide)
            have hgE : (upr (up2 g 8 1 (g 8 1 + 1)) 4 (fl (g 4) (spN g) i)) = (upr (up2 g 8 1 (g 8 1 + 1)) 4 (fl (g 4) (spN g) (i + 1))) := by rw [fl_same hsp]
            rw [hgE] at hP hD; clear hgE
            refine lv_iinc (v := nI (i + 1)) (lv' := [(3, .int (nI (i + 1))), (0, .ref (a 0)), (1, .int (nI (chN g (i + 1)))), (2, .int (nI (msk g (i + 1))))]) hx hb dX4_passOne_69 hl (k := 3) rfl (nI_add i 1) (by decide) rfl (fun ls hl => ?_)
            refine lv_goto (tgt := 16) hx hb dX4_passOne_72 (by decide) ?_
            exact ih (i + 1) (by omega) (by omega) _ _ _ hP hD hS (lv_sub hl [1, 2, 3, 0] rfl)
          · skip
            have hcp : chp g i = true := by unfold chp; rw [hdu, decide_eq_true (by omega)]; rfl
            have hsp : g 4 i - 1 = spN g i := (if_pos hcp).symm
            refine lv_aload_n hx hb dX4_passOne_45 rfl (lv_at hl 0 rfl) ?_
            refine va_get (D := E.1) (ci := 8) (v := .ref (a 5)) (C := RX4) (T := TX4) (N := 16) hx hb hts inX4 hown hK hP 0 rfl rfl 4 (by decide) (hts _ q76) (fun _ h9 => h9) rfl dX4_passOne_46 ?_
            refine lv_iload_n hx hb dX4_passOne_49 rfl (lv_at hl 3 rfl) ?_
            refine lv_dup2_11 hx hb dX4_passOne_50 rfl rfl ?_
            refine nv_iald (f := (fl (g 4) (spN g) i)) (i := i) (n := 8) hx hb hK hP 5 0 rfl rfl (by omega) (by decide) dX4_passOne_51 ?_
            refine tp_i (congrArg nI fl_at) ?_
            refine lv_iconst (v := nI 1) hx hb dX4_passOne_52 (by decide) ?_
            refine nv_isub hx hb (by omega) dX4_passOne_53 ?_
            refine nv_iast (f := (fl (g 4) (spN g) i)) (i := i) (v := (g 4 i) - 1) (n := 8) hx hb hK hP hD hS 5 0 rfl rfl (by omega) (by decide) dX4_passOne_54 (fun H locs hP hD hS => ?_)
            have hP : va_P E.1 vwCl ([stC E a (up2 (upr (up2 g 8 1 (g 8 1 + 1)) 4 (fl (g 4) (spN g) i)) 4 i ((g 4 i) - 1))] : List va_W).flatten H := hP
            have hD : va_D A ([stC E a (up2 (upr (up2 g 8 1 (g 8 1 + 1)) 4 (fl (g 4) (spN g) i)) 4 i ((g 4 i) - 1))] : List va_W).flatten := hD
            have hgE : (up2 (upr (up2 g 8 1 (g 8 1 + 1)) 4 (fl (g 4) (spN g) i)) 4 i ((g 4 i) - 1)) = (upr (up2 g 8 1 (g 8 1 + 1)) 4 (fl (g 4) (spN g) (i + 1))) := upr_up2.trans (by rw [fl_step hsp])
            rw [hgE] at hP hD; clear hgE
            refine lv_iinc (v := nI (chN g i + 1)) (lv' := [(1, .int (nI (chN g i + 1))), (0, .ref (a 0)), (2, .int (nI (msk g i))), (3, .int (nI i))]) hx hb dX4_passOne_55 hl (k := 1) rfl (nI_add (chN g i) 1) (by decide) rfl (fun ls hl => ?_)
            refine lv_iload_n hx hb dX4_passOne_58 rfl (lv_at hl 2 rfl) ?_
            refine lv_iconst (v := nI 1) hx hb dX4_passOne_59 (by decide) ?_
            refine lv_aload_n hx hb dX4_passOne_60 rfl (lv_at hl 1 rfl) ?_
            refine va_get (D := E.1) (ci := 8) (v := .ref (a 4)) (C := RX4) (T := TX4) (N := 16) hx hb hts inX4 hown hK hP 0 rfl rfl 3 (by decide) (hts _ q74) (fun _ h9 => h9) rfl dX4_passOne_61 ?_
            refine lv_iload_n hx hb dX4_passOne_64 rfl (lv_at hl 3 rfl) ?_
            refine nv_iald (f := (g 3)) (i := i) (n := 8) hx hb hK hP 4 0 rfl rfl (by omega) (by decide) dX4_passOne_65 ?_
            refine nv_ishl hx hb (by omega) (by have := Nat.pow_le_pow_right (n := 2) (by decide) hmb.2.2.1; omega) dX4_passOne_66 ?_
            refine nv_ior hx hb dX4_passOne_67 ?_
            refine lv_istore_n (lv' := [(2, .int (nI (msk g i ||| 1 * 2 ^ (g 3 i)))), (1, .int (nI (chN g i + 1))), (0, .ref (a 0)), (3, .int (nI i))]) hx hb dX4_passOne_68 rfl hl (by decide) rfl (fun ls hl => ?_)
            rw [show chN g i + 1 = chN g (i + 1) from chN_t hcp] at hl
            rw [show (msk g i ||| 1 * 2 ^ (g 3 i)) = msk g (i + 1) from msk_t hcp] at hl
            refine lv_iinc (v := nI (i + 1)) (lv' := [(3, .int (nI (i + 1))), (2, .int (nI (msk g (i + 1)))), (1, .int (nI (chN g (i + 1)))), (0, .ref (a 0))]) hx hb dX4_passOne_69 hl (k := 3) rfl (nI_add i 1) (by decide) rfl (fun ls hl => ?_)
            refine lv_goto (tgt := 16) hx hb dX4_passOne_72 (by decide) ?_
            exact ih (i + 1) (by omega) (by omega) _ _ _ hP hD hS (lv_sub hl [3, 2, 1, 0] rfl)
  rw [show (up2 g 8 1 (g 8 1 + 1)) = upr (up2 g 8 1 (g 8 1 + 1)) 4 (fl (g 4) (spN g) 0) from by rw [fl_0]; exact (upr_id (g := up2 g 8 1 (g 8 1 + 1)) (w := 4)).symm] at hP hD
  exact loop16 _ 0 (by omega) (Nat.lt_succ_self _) _ _ _ hP hD hS (lv_sub hl [3, 2, 1, 0] rfl)
