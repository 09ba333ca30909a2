abbrev rm_X5_needMember : Room := { frames := 6, cells := 1, slots := 6, locals := 100 }
set_option maxHeartbeats 4000000 in
set_option maxRecDepth 100000 in
theorem c_X5_needMember (l : Launch) (hst : l.stackTraces = false) (E : EE) (sz : Nat) (x a a2 a3 b d k pa y w : Nat → Nat) (g : GG) (B : Nat) (hI : IB B g) (p0 : Int32) : XV l yX5_needMember cX5_needMember 2 rm_X5_needMember [.ref (x 0), .int p0] E sz [coC E x a a2 a3 b d k pa y w, stC E a g] (fun (_ : Unit) => hasM g p0 = true) (fun _ => [coC E x a a2 a3 b d k pa y w, stC E a g]) (fun (Ex : String) (_ : Unit) => Ex = IOX ∧ hasM g p0 = false) (fun _ => [coC E x a a2 a3 b d k pa y w, stC E a g]) 1 6 := by
  refine xv_go hst (by decide) rfl (Nat.le_of_ble_eq_true rfl) ?_
  intro p e s m below meth c A Q ls hx hb hml hown hts hK hZ hDD hA hsz hP hD hl hret hprop hthr
  have hS : va_S A s.heap s.heap [] := va_S.rf
  have hl : lv_has ls 2 [(0, .ref (x 0)), (1, .int p0)] := hl
  skip
  have hmc := hI.mc
  have hbu := hI.bud
  refine lv_aload_n hx hb dX5_needMember_0 rfl (lv_at hl 0 rfl) ?_
  refine va_get (D := E.1) (ci := 9) (v := .ref (a 0)) (C := RX5) (T := TX5) (N := 11) hx hb hts inX5 hown hK hP 0 rfl rfl 0 (by decide) (hts _ q246) (fun _ h9 => h9) rfl dX5_needMember_1 ?_
  refine lv_iload_n hx hb dX5_needMember_4 rfl (lv_at hl 1 rfl) ?_
  refine run_i (S := Unit) (run_V (As := [.int p0]) (rest := []) (bs := [coC E x a a2 a3 b d k pa y w, stC E a g]) (cb := [stC E a g]) hx hb hml hown hts hK hZ hA (c_X4_hasMember l E _ a g p0 hmc) l_X5_336 rfl ⟨⟨rfl, rfl⟩, Nat.le_of_ble_eq_true rfl, Nat.le_of_ble_eq_true rfl⟩ 8 rfl [1] rfl (by decide) rfl hP hD hS hl.1 rfl (Nat.le_of_ble_eq_true rfl) dX5_needMember_5 ⟨Nat.zero_le _, Nat.zero_le _⟩) hA hP hD hS (isC := [1]) rfl [0] [0, 1] (br := [coC E x a a2 a3 b d k pa y w]) (bs2 := fun _ => [coC E x a a2 a3 b d k pa y w, stC E a g]) rfl (by decide) (fun _ => rfl) (by decide) (fun r u H locs hw hP hD hS => ?_)
  subst hw
  refine bv_if_ne hx hb (tgt := 22) dX5_needMember_8 (by decide) (fun c_1 => ?_) (fun c_1 => ?_)
  · skip
    have hh : hasM g p0 = true := c_1
    exact hret _ _ () _ _ _ _ hP hD hS hh dX5_needMember_22 (by omega) (by omega)
  · skip
    have hh : hasM g p0 = false := c_1
    exact hthr (IOX, 242, 246) 0 ("CricketCooperative", 339, "no such member") () _ _ 11 _ [] _ _ mx_IOX rfl rfl ⟨rfl, hh⟩ hP hD hS hl.1 dX5_needMember_11 dX5_needMember_14 (Or.inr ⟨dX5_needMember_15, dX5_needMember_18, dX5_needMember_21⟩) (Nat.le_of_ble_eq_true rfl) (Nat.le_of_ble_eq_true rfl) (Nat.le_of_ble_eq_true rfl) (Nat.le_of_ble_eq_true rfl) (Nat.le_of_ble_eq_true rfl) (Nat.le_of_ble_eq_true rfl)
abbrev rm_X5_refuse : Room := { frames := 6, cells := 1, slots := 6, locals := 100 }
set_option maxHeartbeats 4000000 in
set_option maxRecDepth 100000 in
theorem c_X5_refuse (l : Launch) (hst : l.stackTraces = false) (E : EE) (sz : Nat) (n0 : Nat) (hn : n0 ≤ 4) : XV l yX5_refuse cX5_refuse 1 rm_X5_refuse [.int (nI n0)] E sz [] (fun (_ : Unit) => n0 = 0) (fun _ => []) (fun (Ex : String) (_ : Unit) => n0 ≠ 0 ∧ Ex = flX n0) (fun _ => []) 1 6 := by
  refine xv_go hst (by decide) rfl (Nat.le_of_ble_eq_true rfl) ?_
  intro p e s m below meth c A Q ls hx hb hml hown hts hK hZ hDD hA hsz hP hD hl hret hprop hthr
  have hS : va_S A s.heap s.heap [] := va_S.rf
  have hl : lv_has ls 1 [(0, .int (nI n0))] := hl
  skip
  refine lv_iload_n hx hb dX5_refuse_0 rfl (lv_at hl 0 rfl) ?_
  rcases (show n0 = 0 ∨ n0 = 1 ∨ n0 = 2 ∨ n0 = 3 ∨ n0 = 4 by omega) with rfl | rfl | rfl | rfl | rfl
  · refine lv_tableOut hx hb dX5_refuse_1 (by decide) (tgt := 76) (by decide) ?_
    exact hret _ _ () _ _ _ _ hP hD hS rfl dX5_refuse_76 (by omega) (by omega)
  · refine lv_tableIn hx hb dX5_refuse_1 (by decide) (by decide) (off := 31) (by decide) (tgt := 32) (by decide) ?_
    exact hthr (IOX, 242, 246) 0 ("CricketCooperative", 339, "no such member") () _ _ 32 _ [] _ _ mx_IOX rfl rfl ⟨by decide, rfl⟩ hP hD hS hl.1 dX5_refuse_32 dX5_refuse_35 (Or.inr ⟨dX5_refuse_36, dX5_refuse_39, dX5_refuse_42⟩) (Nat.le_of_ble_eq_true rfl) (Nat.le_of_ble_eq_true rfl) (Nat.le_of_ble_eq_true rfl) (Nat.le_of_ble_eq_true rfl) (Nat.le_of_ble_eq_true rfl) (Nat.le_of_ble_eq_true rfl)
  · refine lv_tableIn hx hb dX5_refuse_1 (by decide) (by decide) (off := 42) (by decide) (tgt := 43) (by decide) ?_
    exact hthr (IAX, 181, 185) 1 ("CricketCooperative", 341, "out of range") () _ _ 43 _ [] _ _ mx_IAX rfl rfl ⟨by decide, rfl⟩ hP hD hS hl.1 dX5_refuse_43 dX5_refuse_46 (Or.inr ⟨dX5_refuse_47, dX5_refuse_50, dX5_refuse_53⟩) (Nat.le_of_ble_eq_true rfl) (Nat.le_of_ble_eq_true rfl) (Nat.le_of_ble_eq_true rfl) (Nat.le_of_ble_eq_true rfl) (Nat.le_of_ble_eq_true rfl) (Nat.le_of_ble_eq_true rfl)
  · refine lv_tableIn hx hb dX5_refuse_1 (by decide) (by decide) (off := 53) (by decide) (tgt := 54) (by decide) ?_
    exact hthr (ISX, 263, 267) 2 ("CricketCooperative", 343, "not possible in this state") () _ _ 54 _ [] _ _ mx_ISX rfl rfl ⟨by decide, rfl⟩ hP hD hS hl.1 dX5_refuse_54 dX5_refuse_57 (Or.inr ⟨dX5_refuse_58, dX5_refuse_61, dX5_refuse_64⟩) (Nat.le_of_ble_eq_true rfl) (Nat.le_of_ble_eq_true rfl) (Nat.le_of_ble_eq_true rfl) (Nat.le_of_ble_eq_true rfl) (Nat.le_of_ble_eq_true rfl) (Nat.le_of_ble_eq_true rfl)
  · refine lv_tableIn hx hb dX5_refuse_1 (by decide) (by decide) (off := 64) (by decide) (tgt := 65) (by decide) ?_
    exact hthr (UOX, 286, 290) 3 ("CricketCooperative", 345, "too few coins") () _ _ 65 _ [] _ _ mx_UOX rfl rfl ⟨by decide, rfl⟩ hP hD hS hl.1 dX5_refuse_65 dX5_refuse_68 (Or.inr ⟨dX5_refuse_69, dX5_refuse_72, dX5_refuse_75⟩) (Nat.le_of_ble_eq_true rfl) (Nat.le_of_ble_eq_true rfl) (Nat.le_of_ble_eq_true rfl) (Nat.le_of_ble_eq_true rfl) (Nat.le_of_ble_eq_true rfl) (Nat.le_of_ble_eq_true rfl)
abbrev rm_X5_memberCount : Room := { frames := 0, cells := 0, slots := 0, locals := 0 }
set_option maxHeartbeats 4000000 in
set_option maxRecDepth 100000 in
theorem c_X5_memberCount (l : Launch) (E : EE) (sz : Nat) (x a a2 a3 b d k pa y w : Nat → Nat) (g : GG) (B : Nat) (hI : IB B g)  : MI l yX5_memberCount cX5_memberCount 1 .int rm_X5_memberCount [.ref (x 0)] E sz [coC E x a a2 a3 b d k pa y w, stC E a g] (fun (r : Int32) (_ : Unit) => r = nI (g 8 0)) (fun _ => [coC E x a a2 a3 b d k pa y w, stC E a g]) 0 0 := by
  refine mi_go (by decide) (Nat.le_of_ble_eq_true rfl) ?_
  intro p e s m below meth c A Q ls hx hb hml hown hts hK hZ hA hsz hP hD hl hret
  have hS : va_S A s.heap s.heap [] := va_S.rf
  have hl : lv_has ls 1 [(0, .ref (x 0))] := hl
  skip
  have hmc := hI.mc
  have hbu := hI.bud
  refine lv_aload_n hx hb dX5_memberCount_0 rfl (lv_at hl 0 rfl) ?_
  refine va_get (D := E.1) (ci := 9) (v := .ref (a 0)) (C := RX5) (T := TX5) (N := 11) hx hb hts inX5 hown hK hP 0 rfl rfl 0 (by decide) (hts _ q246) (fun _ h9 => h9) rfl dX5_memberCount_1 ?_
  refine va_get (D := E.1) (ci := 8) (v := .int (nI (g 8 0))) (C := RX4) (T := TX4) (N := 16) hx hb hts inX4 hown hK hP 1 rfl rfl 8 (by decide) (hts _ q88) (fun _ h9 => h9) rfl dX5_memberCount_4 ?_
  exact hret _ _ (nI (g 8 0)) () _ _ hP hD hS rfl rfl dX5_memberCount_7
abbrev rm_X5_beat : Room := { frames := 0, cells := 0, slots := 0, locals := 0 }
set_option maxHeartbeats 4000000 in
set_option maxRecDepth 100000 in
theorem c_X5_beat (l : Launch) (E : EE) (sz : Nat) (x a a2 a3 b d k pa y w : Nat → Nat) (g : GG) (B : Nat) (hI : IB B g)  : MI l yX5_beat cX5_beat 1 .int rm_X5_beat [.ref (x 0)] E sz [coC E x a a2 a3 b d k pa y w, stC E a g] (fun (r : Int32) (_ : Unit) => r = nI (g 8 1)) (fun _ => [coC E x a a2 a3 b d k pa y w, stC E a g]) 0 0 := by
  refine mi_go (by decide) (Nat.le_of_ble_eq_true rfl) ?_
  intro p e s m below meth c A Q ls hx hb hml hown hts hK hZ hA hsz hP hD hl hret
  have hS : va_S A s.heap s.heap [] := va_S.rf
  have hl : lv_has ls 1 [(0, .ref (x 0))] := hl
  skip
  have hmc := hI.mc
  have hbu := hI.bud
  refine lv_aload_n hx hb dX5_beat_0 rfl (lv_at hl 0 rfl) ?_
  refine va_get (D := E.1) (ci := 9) (v := .ref (a 0)) (C := RX5) (T := TX5) (N := 11) hx hb hts inX5 hown hK hP 0 rfl rfl 0 (by decide) (hts _ q246) (fun _ h9 => h9) rfl dX5_beat_1 ?_
  refine va_get (D := E.1) (ci := 8) (v := .int (nI (g 8 1))) (C := RX4) (T := TX4) (N := 16) hx hb hts inX4 hown hK hP 1 rfl rfl 10 (by decide) (hts _ q92) (fun _ h9 => h9) rfl dX5_beat_4 ?_
  exact hret _ _ (nI (g 8 1)) () _ _ hP hD hS rfl rfl dX5_beat_7
abbrev rm_X5_surplus : Room := { frames := 0, cells := 0, slots := 0, locals := 0 }
set_option maxHeartbeats 4000000 in
set_option maxRecDepth 100000 in
theorem c_X5_surplus (l : Launch) (E : EE) (sz : Nat) (x a a2 a3 b d k pa y w : Nat → Nat) (g : GG) (B : Nat) (hI : IB B g)  : MI l yX5_surplus cX5_surplus 1 .int rm_X5_surplus [.ref (x 0)] E sz [coC E x a a2 a3 b d k pa y w, stC E a g] (fun (r : Int32) (_ : Unit) => r = nI (g 8 2)) (fun _ => [coC E x a a2 a3 b d k pa y w, stC E a g]) 0 0 := by
  refine mi_go (by decide) (Nat.le_of_ble_eq_true rfl) ?_
  intro p e s m below meth c A Q ls hx hb hml hown hts hK hZ hA hsz hP hD hl hret
  have hS : va_S A s.heap s.heap [] := va_S.rf
  have hl : lv_has ls 1 [(0, .ref (x 0))] := hl
  skip
  have hmc := hI.mc
  have hbu := hI.bud
  refine lv_aload_n hx hb dX5_surplus_0 rfl (lv_at hl 0 rfl) ?_
  refine va_get (D := E.1) (ci := 9) (v := .ref (a 0)) (C := RX5) (T := TX5) (N := 11) hx hb hts inX5 hown hK hP 0 rfl rfl 0 (by decide) (hts _ q246) (fun _ h9 => h9) rfl dX5_surplus_1 ?_
  refine va_get (D := E.1) (ci := 8) (v := .int (nI (g 8 2))) (C := RX4) (T := TX4) (N := 16) hx hb hts inX4 hown hK hP 1 rfl rfl 11 (by decide) (hts _ q95) (fun _ h9 => h9) rfl dX5_surplus_4 ?_
  exact hret _ _ (nI (g 8 2)) () _ _ hP hD hS rfl rfl dX5_surplus_7
abbrev rm_X5_houseTone : Room := { frames := 0, cells := 0, slots := 0, locals := 0 }
set_option maxHeartbeats 4000000 in
set_option maxRecDepth 100000 in
theorem c_X5_houseTone (l : Launch) (E : EE) (sz : Nat) (x a a2 a3 b d k pa y w : Nat → Nat) (g : GG) (B : Nat) (hI : IB B g)  : MI l yX5_houseTone cX5_houseTone 1 .int rm_X5_houseTone [.ref (x 0)] E sz [coC E x a a2 a3 b d k pa y w, stC E a g] (fun (r : Int32) (_ : Unit) => r = nI (g 8 3)) (fun _ => [coC E x a a2 a3 b d k pa y w, stC E a g]) 0 0 := by
  refine mi_go (by decide) (Nat.le_of_ble_eq_true rfl) ?_
  intro p e s m below meth c A Q ls hx hb hml hown hts hK hZ hA hsz hP hD hl hret
  have hS : va_S A s.heap s.heap [] := va_S.rf
  have hl : lv_has ls 1 [(0, .ref (x 0))] := hl
  skip
  have hmc := hI.mc
  have hbu := hI.bud
  refine lv_aload_n hx hb dX5_houseTone_0 rfl (lv_at hl 0 rfl) ?_
  refine va_get (D := E.1) (ci := 9) (v := .ref (a 0)) (C := RX5) (T := TX5) (N := 11) hx hb hts inX5 hown hK hP 0 rfl rfl 0 (by decide) (hts _ q246) (fun _ h9 => h9) rfl dX5_houseTone_1 ?_
  refine va_get (D := E.1) (ci := 8) (v := .int (nI (g 8 3))) (C := RX4) (T := TX4) (N := 16) hx hb hts inX4 hown hK hP 1 rfl rfl 12 (by decide) (hts _ q97) (fun _ h9 => h9) rfl dX5_houseTone_4 ?_
  exact hret _ _ (nI (g 8 3)) () _ _ hP hD hS rfl rfl dX5_houseTone_7
abbrev rm_X5_quarters : Room := { frames := 0, cells := 0, slots := 0, locals := 0 }
set_option maxHeartbeats 4000000 in
set_option maxRecDepth 100000 in
theorem c_X5_quarters (l : Launch) (E : EE) (sz : Nat) (x a a2 a3 b d k pa y w : Nat → Nat) (g : GG) (B : Nat) (hI : IB B g)  : MI l yX5_quarters cX5_quarters 1 .int rm_X5_quarters [.ref (x 0)] E sz [coC E x a a2 a3 b d k pa y w, stC E a g] (fun (r : Int32) (_ : Unit) => r = nI (g 8 4)) (fun _ => [coC E x a a2 a3 b d k pa y w, stC E a g]) 0 0 := by
  refine mi_go (by decide) (Nat.le_of_ble_eq_true rfl) ?_
  intro p e s m below meth c A Q ls hx hb hml hown hts hK hZ hA hsz hP hD hl hret
  have hS : va_S A s.heap s.heap [] := va_S.rf
  have hl : lv_has ls 1 [(0, .ref (x 0))] := hl
  skip
  have hmc := hI.mc
  have hbu := hI.bud
  refine lv_aload_n hx hb dX5_quarters_0 rfl (lv_at hl 0 rfl) ?_
  refine va_get (D := E.1) (ci := 9) (v := .ref (a 0)) (C := RX5) (T := TX5) (N := 11) hx hb hts inX5 hown hK hP 0 rfl rfl 0 (by decide) (hts _ q246) (fun _ h9 => h9) rfl dX5_quarters_1 ?_
  refine va_get (D := E.1) (ci := 8) (v := .int (nI (g 8 4))) (C := RX4) (T := TX4) (N := 16) hx hb hts inX4 hown hK hP 1 rfl rfl 13 (by decide) (hts _ q100) (fun _ h9 => h9) rfl dX5_quarters_4 ?_
  exact hret _ _ (nI (g 8 4)) () _ _ hP hD hS rfl rfl dX5_quarters_7
abbrev rm_X5_coinsByAccounts : Room := { frames := 0, cells := 0, slots := 0, locals := 0 }
set_option maxHeartbeats 4000000 in
set_option maxRecDepth 100000 in
theorem c_X5_coinsByAccounts (l : Launch) (E : EE) (sz : Nat) (x a a2 a3 b d k pa y w : Nat → Nat) (g : GG) (B : Nat) (hI : IB B g)  : MI l yX5_coinsByAccounts cX5_coinsByAccounts 1 .int rm_X5_coinsByAccounts [.ref (x 0)] E sz [coC E x a a2 a3 b d k pa y w, stC E a g] (fun (r : Int32) (_ : Unit) => r = nI (g 8 5)) (fun _ => [coC E x a a2 a3 b d k pa y w, stC E a g]) 0 0 := by
  refine mi_go (by decide) (Nat.le_of_ble_eq_true rfl) ?_
  intro p e s m below meth c A Q ls hx hb hml hown hts hK hZ hA hsz hP hD hl hret
  have hS : va_S A s.heap s.heap [] := va_S.rf
  have hl : lv_has ls 1 [(0, .ref (x 0))] := hl
  skip
  have hmc := hI.mc
  have hbu := hI.bud
  refine lv_aload_n hx hb dX5_coinsByAccounts_0 rfl (lv_at hl 0 rfl) ?_
  refine va_get (D := E.1) (ci := 9) (v := .ref (a 0)) (C := RX5) (T := TX5) (N := 11) hx hb hts inX5 hown hK hP 0 rfl rfl 0 (by decide) (hts _ q246) (fun _ h9 => h9) rfl dX5_coinsByAccounts_1 ?_
  refine va_get (D := E.1) (ci := 8) (v := .int (nI (g 8 5))) (C := RX4) (T := TX4) (N := 16) hx hb hts inX4 hown hK hP 1 rfl rfl 14 (by decide) (hts _ q102) (fun _ h9 => h9) rfl dX5_coinsByAccounts_4 ?_
  exact hret _ _ (nI (g 8 5)) () _ _ hP hD hS rfl rfl dX5_coinsByAccounts_7
abbrev rm_X5_chirps : Room := { frames := 0, cells := 0, slots := 0, locals := 0 }
set_option maxHeartbeats 4000000 in
set_option maxRecDepth 100000 in
theorem c_X5_chirps (l : Launch) (E : EE) (sz : Nat) (x a a2 a3 b d k pa y w : Nat → Nat) (g : GG) (B : Nat) (hI : IB B g)  : MI l yX5_chirps cX5_chirps 1 .int rm_X5_chirps [.ref (x 0)] E sz [coC E x a a2 a3 b d k pa y w, stC E a g] (fun (r : Int32) (_ : Unit) => r = nI (g 8 6)) (fun _ => [coC E x a a2 a3 b d k pa y w, stC E a g]) 0 0 := by
  refine mi_go (by decide) (Nat.le_of_ble_eq_true rfl) ?_
  intro p e s m below meth c A Q ls hx hb hml hown hts hK hZ hA hsz hP hD hl hret
  have hS : va_S A s.heap s.heap [] := va_S.rf
  have hl : lv_has ls 1 [(0, .ref (x 0))] := hl
  skip
  have hmc := hI.mc
  have hbu := hI.bud
  refine lv_aload_n hx hb dX5_chirps_0 rfl (lv_at hl 0 rfl) ?_
  refine va_get (D := E.1) (ci := 9) (v := .ref (a 0)) (C := RX5) (T := TX5) (N := 11) hx hb hts inX5 hown hK hP 0 rfl rfl 0 (by decide) (hts _ q246) (fun _ h9 => h9) rfl dX5_chirps_1 ?_
  refine va_get (D := E.1) (ci := 8) (v := .int (nI (g 8 6))) (C := RX4) (T := TX4) (N := 16) hx hb hts inX4 hown hK hP 1 rfl rfl 15 (by decide) (hts _ q104) (fun _ h9 => h9) rfl dX5_chirps_4 ?_
  exact hret _ _ (nI (g 8 6)) () _ _ hP hD hS rfl rfl dX5_chirps_7
abbrev rm_X5_quota : Room := { frames := 2, cells := 0, slots := 0, locals := 42 }
set_option maxHeartbeats 4000000 in
set_option maxRecDepth 100000 in
theorem c_X5_quota (l : Launch) (E : EE) (sz : Nat) (x a a2 a3 b d k pa y w : Nat → Nat) (g : GG) (B : Nat) (hI : IB B g)  : MI l yX5_quota cX5_quota 1 .int rm_X5_quota [.ref (x 0)] E sz [coC E x a a2 a3 b d k pa y w, stC E a g] (fun (r : Int32) (_ : Unit) => r = nI (quo g)) (fun _ => [coC E x a a2 a3 b d k pa y w, stC E a g]) 0 0 := by
  refine mi_go (by decide) (Nat.le_of_ble_eq_true rfl) ?_
  intro p e s m below meth c A Q ls hx hb hml hown hts hK hZ hA hsz hP hD hl hret
  have hS : va_S A s.heap s.heap [] := va_S.rf
  have hl : lv_has ls 1 [(0, .ref (x 0))] := hl
  skip
  have hmc := hI.mc
  have hbu := hI.bud
  refine lv_aload_n hx hb dX5_quota_0 rfl (lv_at hl 0 rfl) ?_
  refine va_get (D := E.1) (ci := 9) (v := .ref (a 0)) (C := RX5) (T := TX5) (N := 11) hx hb hts inX5 hown hK hP 0 rfl rfl 0 (by decide) (hts _ q246) (fun _ h9 => h9) rfl dX5_quota_1 ?_
  refine run_i (S := Unit) (run_V (As := []) (rest := []) (bs := [coC E x a a2 a3 b d k pa y w, stC E a g]) (cb := [stC E a g]) hx hb hml hown hts hK hZ hA (c_X4_neededShares l E _ a g  _ hI) l_X5_199 rfl ⟨⟨rfl, rfl⟩, Nat.le_of_ble_eq_true rfl, Nat.le_of_ble_eq_true rfl⟩ 8 rfl [1] rfl (by decide) rfl hP hD hS hl.1 rfl (Nat.le_of_ble_eq_true rfl) dX5_quota_4 ⟨Nat.zero_le _, Nat.zero_le _⟩) hA hP hD hS (isC := [1]) rfl [0] [0, 1] (br := [coC E x a a2 a3 b d k pa y w]) (bs2 := fun _ => [coC E x a a2 a3 b d k pa y w, stC E a g]) rfl (by decide) (fun _ => rfl) (by decide) (fun r u H locs hw hP hD hS => ?_)
  subst hw
  exact hret _ _ (nI (quo g)) () _ _ hP hD hS rfl rfl dX5_quota_7
abbrev rm_X5_coinTotal : Room := { frames := 1, cells := 0, slots := 0, locals := 22 }
set_option maxHeartbeats 4000000 in
set_option maxRecDepth 100000 in
theorem c_X5_coinTotal (l : Launch) (E : EE) (sz : Nat) (x a a2 a3 b d k pa y w : Nat → Nat) (g : GG) (B : Nat) (hI : IB B g)  : MI l yX5_coinTotal cX5_coinTotal 1 .int rm_X5_coinTotal [.ref (x 0)] E sz [coC E x a a2 a3 b d k pa y w, stC E a g] (fun (r : Int32) (_ : Unit) => r = nI (pursN g + g 8 2)) (fun _ => [coC E x a a2 a3 b d k pa y w, stC E a g]) 0 0 := by
  refine mi_go (by decide) (Nat.le_of_ble_eq_true rfl) ?_
  intro p e s m below meth c A Q ls hx hb hml hown hts hK hZ hA hsz hP hD hl hret
  have hS : va_S A s.heap s.heap [] := va_S.rf
  have hl : lv_has ls 1 [(0, .ref (x 0))] := hl
  skip
  have hmc := hI.mc
  have hbu := hI.bud
  refine lv_aload_n hx hb dX5_coinTotal_0 rfl (lv_at hl 0 rfl) ?_
  refine va_get (D := E.1) (ci := 9) (v := .ref (a 0)) (C := RX5) (T := TX5) (N := 11) hx hb hts inX5 hown hK hP 0 rfl rfl 0 (by decide) (hts _ q246) (fun _ h9 => h9) rfl dX5_coinTotal_1 ?_
  refine run_i (S := Unit) (run_V (As := []) (rest := []) (bs := [coC E x a a2 a3 b d k pa y w, stC E a g]) (cb := [stC E a g]) hx hb hml hown hts hK hZ hA (c_X4_coinsInPurses l E _ a g  hmc) l_X5_230 rfl ⟨⟨rfl, rfl⟩, Nat.le_of_ble_eq_true rfl, Nat.le_of_ble_eq_true rfl⟩ 8 rfl [1] rfl (by decide) rfl hP hD hS hl.1 rfl (Nat.le_of_ble_eq_true rfl) dX5_coinTotal_4 ⟨Nat.zero_le _, Nat.zero_le _⟩) hA hP hD hS (isC := [1]) rfl [0] [0, 1] (br := [coC E x a a2 a3 b d k pa y w]) (bs2 := fun _ => [coC E x a a2 a3 b d k pa y w, stC E a g]) rfl (by decide) (fun _ => rfl) (by decide) (fun r u H locs hw hP hD hS => ?_)
  subst hw
  refine lv_aload_n hx hb dX5_coinTotal_7 rfl (lv_at hl 0 rfl) ?_
  refine va_get (D := E.1) (ci := 9) (v := .ref (a 0)) (C := RX5) (T := TX5) (N := 11) hx hb hts inX5 hown hK hP 0 rfl rfl 0 (by decide) (hts _ q246) (fun _ h9 => h9) rfl dX5_coinTotal_8 ?_
  refine va_get (D := E.1) (ci := 8) (v := .int (nI (g 8 2))) (C := RX4) (T := TX4) (N := 16) hx hb hts inX4 hown hK hP 1 rfl rfl 11 (by decide) (hts _ q95) (fun _ h9 => h9) rfl dX5_coinTotal_11 ?_
  refine nv_iadd hx hb dX5_coinTotal_14 ?_
  exact hret _ _ (nI (pursN g + (g 8 2))) () _ _ hP hD hS rfl rfl dX5_coinTotal_15
abbrev rm_X5_shares : Room := { frames := 7, cells := 1, slots := 6, locals := 121 }
set_option maxHeartbeats 4000000 in
set_option maxRecDepth 100000 in
theorem c_X5_shares (l : Launch) (hst : l.stackTraces = false) (E : EE) (sz : Nat) (x a a2 a3 b d k pa y w : Nat → Nat) (g : GG) (B : Nat) (hI : IB B g) (p0 : Int32) : XI l yX5_shares cX5_shares 2 .int rm_X5_shares [.ref (x 0), .int p0] E sz [coC E x a a2 a3 b d k pa y w, stC E a g] (fun (r : Int32) (_ : Unit) => hasM g p0 = true ∧ r = nI (g 0 (tn p0))) (fun _ => [coC E x a a2 a3 b d k pa y w, stC E a g]) (fun (Ex : String) (_ : Unit) => Ex = IOX ∧ hasM g p0 = false) (fun _ => [coC E x a a2 a3 b d k pa y w, stC E a g]) 1 6 := by
  refine xi_go hst (by decide) rfl (Nat.le_of_ble_eq_true rfl) ?_
  intro p e s m below meth c A Q ls hx hb hml hown hts hK hZ hDD hA hsz hP hD hl hret hprop hthr
  have hS : va_S A s.heap s.heap [] := va_S.rf
  have hl : lv_has ls 2 [(0, .ref (x 0)), (1, .int p0)] := hl
  skip
  have hmc := hI.mc
  have hbu := hI.bud
  refine lv_aload_n hx hb dX5_shares_0 rfl (lv_at hl 0 rfl) ?_
  refine lv_iload_n hx hb dX5_shares_1 rfl (lv_at hl 1 rfl) ?_
  refine run_xv (S := Unit) (SX := Unit) (run_XV (As := [.int p0]) (rest := []) (bs := [coC E x a a2 a3 b d k pa y w, stC E a g]) (cb := [coC E x a a2 a3 b d k pa y w, stC E a g]) hx hb hml hown hts hK hZ hDD hA (c_X5_needMember l hst E _ x a a2 a3 b d k pa y w g _ hI p0) l_X5_127 rfl ⟨⟨rfl, rfl⟩, Nat.le_of_ble_eq_true rfl, Nat.le_of_ble_eq_true rfl⟩ 9 rfl [0, 1] rfl (by decide) rfl hP hD hS hl.1 rfl (Nat.le_of_ble_eq_true rfl) dX5_shares_2 ⟨Nat.le_of_ble_eq_true rfl, Nat.le_of_ble_eq_true rfl⟩) hA hP hD hS (isC := [0, 1]) rfl [] [0, 1] (br := []) (bs2 := fun _ => [coC E x a a2 a3 b d k pa y w, stC E a g]) (bx2 := fun _ => [coC E x a a2 a3 b d k pa y w, stC E a g]) rfl (by decide) (fun _ => rfl) (fun _ => rfl) (by decide) (fun Ex ce q3 ux H locs hw hP hD hS hc1 hc2 hc3 => ?_) (fun u H locs hw hP hD hS => ?_)
  · exact hprop _ _ _ () _ _ _ _ _ _ _ hw hP hD hS hc1 hc2 hc3 (by omega) (by omega)
  have hw : hasM g p0 = true := hw
  have hm9 := hasM_t hw
  have ht9 : ((tn p0 : Nat) : Int) = p0.toInt := tn_t (by omega)
  have hl : lv_has ls 2 [(0, .ref (x 0)), (1, .int (nI (tn p0)))] := by rw [tn_n (x := p0) (by omega)]; exact hl
  refine lv_aload_n hx hb dX5_shares_5 rfl (lv_at hl 0 rfl) ?_
  refine va_get (D := E.1) (ci := 9) (v := .ref (a 0)) (C := RX5) (T := TX5) (N := 11) hx hb hts inX5 hown hK hP 0 rfl rfl 0 (by decide) (hts _ q246) (fun _ h9 => h9) rfl dX5_shares_6 ?_
  refine va_get (D := E.1) (ci := 8) (v := .ref (a 1)) (C := RX4) (T := TX4) (N := 16) hx hb hts inX4 hown hK hP 1 rfl rfl 0 (by decide) (hts _ q69) (fun _ h9 => h9) rfl dX5_shares_9 ?_
  refine lv_iload_n hx hb dX5_shares_12 rfl (lv_at hl 1 rfl) ?_
  refine nv_iald (f := (g 0)) (i := tn p0) (n := 8) hx hb hK hP 2 0 rfl rfl (by omega) (by decide) dX5_shares_13 ?_
  exact hret _ _ (nI (g 0 (tn p0))) () _ _ _ _ hP hD hS rfl ⟨hw, rfl⟩ dX5_shares_14 (by omega) (by omega)
abbrev rm_X5_spring : Room := { frames := 7, cells := 1, slots := 6, locals := 121 }
set_option maxHeartbeats 4000000 in
set_option maxRecDepth 100000 in
theorem c_X5_spring (l : Launch) (hst : l.stackTraces = false) (E : EE) (sz : Nat) (x a a2 a3 b d k pa y w : Nat → Nat) (g : GG) (B : Nat) (hI : IB B g) (p0 : Int32) : XI l yX5_spring cX5_spring 2 .int rm_X5_spring [.ref (x 0), .int p0] E sz [coC E x a a2 a3 b d k pa y w, stC E a g] (fun (r : Int32) (_ : Unit) => hasM g p0 = true ∧ r = nI (g 4 (tn p0))) (fun _ => [coC E x a a2 a3 b d k pa y w, stC E a g]) (fun (Ex : String) (_ : Unit) => Ex = IOX ∧ hasM g p0 = false) (fun _ => [coC E x a a2 a3 b d k pa y w, stC E a g]) 1 6 := by
  refine xi_go hst (by decide) rfl (Nat.le_of_ble_eq_true rfl) ?_
  intro p e s m below meth c A Q ls hx hb hml hown hts hK hZ hDD hA hsz hP hD hl hret hprop hthr
  have hS : va_S A s.heap s.heap [] := va_S.rf
  have hl : lv_has ls 2 [(0, .ref (x 0)), (1, .int p0)] := hl
  skip
  have hmc := hI.mc
  have hbu := hI.bud
  refine lv_aload_n hx hb dX5_spring_0 rfl (lv_at hl 0 rfl) ?_
  refine lv_iload_n hx hb dX5_spring_1 rfl (lv_at hl 1 rfl) ?_
  refine run_xv (S := Unit) (SX := Unit) (run_XV (As := [.int p0]) (rest := []) (bs := [coC E x a a2 a3 b d k pa y w, stC E a g]) (cb := [coC E x a a2 a3 b d k pa y w, stC E a g]) hx hb hml hown hts hK hZ hDD hA (c_X5_needMember l hst E _ x a a2 a3 b d k pa y w g _ hI p0) l_X5_127 rfl ⟨⟨rfl, rfl⟩, Nat.le_of_ble_eq_true rfl, Nat.le_of_ble_eq_true rfl⟩ 9 rfl [0, 1] rfl (by decide) rfl hP hD hS hl.1 rfl (Nat.le_of_ble_eq_true rfl) dX5_spring_2 ⟨Nat.le_of_ble_eq_true rfl, Nat.le_of_ble_eq_true rfl⟩) hA hP hD hS (isC := [0, 1]) rfl [] [0, 1] (br := []) (bs2 := fun _ => [coC E x a a2 a3 b d k pa y w, stC E a g]) (bx2 := fun _ => [coC E x a a2 a3 b d k pa y w, stC E a g]) rfl (by decide) (fun _ => rfl) (fun _ => rfl) (by decide) (fun Ex ce q3 ux H locs hw hP hD hS hc1 hc2 hc3 => ?_) (fun u H locs hw hP hD hS => ?_)
  · exact hprop _ _ _ () _ _ _ _ _ _ _ hw hP hD hS hc1 hc2 hc3 (by omega) (by omega)
  have hw : hasM g p0 = true := hw
  have hm9 := hasM_t hw
  have ht9 : ((tn p0 : Nat) : Int) = p0.toInt := tn_t (by omega)
  have hl : lv_has ls 2 [(0, .ref (x 0)), (1, .int (nI (tn p0)))] := by rw [tn_n (x := p0) (by omega)]; exact hl
  refine lv_aload_n hx hb dX5_spring_5 rfl (lv_at hl 0 rfl) ?_
  refine va_get (D := E.1) (ci := 9) (v := .ref (a 0)) (C := RX5) (T := TX5) (N := 11) hx hb hts inX5 hown hK hP 0 rfl rfl 0 (by decide) (hts _ q246) (fun _ h9 => h9) rfl dX5_spring_6 ?_
  refine va_get (D := E.1) (ci := 8) (v := .ref (a 5)) (C := RX4) (T := TX4) (N := 16) hx hb hts inX4 hown hK hP 1 rfl rfl 4 (by decide) (hts _ q77) (fun _ h9 => h9) rfl dX5_spring_9 ?_
  refine lv_iload_n hx hb dX5_spring_12 rfl (lv_at hl 1 rfl) ?_
  refine nv_iald (f := (g 4)) (i := tn p0) (n := 8) hx hb hK hP 6 0 rfl rfl (by omega) (by decide) dX5_spring_13 ?_
  exact hret _ _ (nI (g 4 (tn p0))) () _ _ _ _ hP hD hS rfl ⟨hw, rfl⟩ dX5_spring_14 (by omega) (by omega)
abbrev rm_X5_tone : Room := { frames := 7, cells := 1, slots := 6, locals := 121 }
set_option maxHeartbeats 4000000 in
set_option maxRecDepth 100000 in
theorem c_X5_tone (l : Launch) (hst : l.stackTraces = false) (E : EE) (sz : Nat) (x a a2 a3 b d k pa y w : Nat → Nat) (g : GG) (B : Nat) (hI : IB B g) (p0 : Int32) : XI l yX5_tone cX5_tone 2 .int rm_X5_tone [.ref (x 0), .int p0] E sz [coC E x a a2 a3 b d k pa y w, stC E a g] (fun (r : Int32) (_ : Unit) => hasM g p0 = true ∧ r = nI (g 3 (tn p0))) (fun _ => [coC E x a a2 a3 b d k pa y w, stC E a g]) (fun (Ex : String) (_ : Unit) => Ex = IOX ∧ hasM g p0 = false) (fun _ => [coC E x a a2 a3 b d k pa y w, stC E a g]) 1 6 := by
  refine xi_go hst (by decide) rfl (Nat.le_of_ble_eq_true rfl) ?_
  intro p e s m below meth c A Q ls hx hb hml hown hts hK hZ hDD hA hsz hP hD hl hret hprop hthr
  have hS : va_S A s.heap s.heap [] := va_S.rf
  have hl : lv_has ls 2 [(0, .ref (x 0)), (1, .int p0)] := hl
  skip
  have hmc := hI.mc
  have hbu := hI.bud
  refine lv_aload_n hx hb dX5_tone_0 rfl (lv_at hl 0 rfl) ?_
  refine lv_iload_n hx hb dX5_tone_1 rfl (lv_at hl 1 rfl) ?_
  refine run_xv (S := Unit) (SX := Unit) (run_XV (As := [.int p0]) (rest := []) (bs := [coC E x a a2 a3 b d k pa y w, stC E a g]) (cb := [coC E x a a2 a3 b d k pa y w, stC E a g]) hx hb hml hown hts hK hZ hDD hA (c_X5_needMember l hst E _ x a a2 a3 b d k pa y w g _ hI p0) l_X5_127 rfl ⟨⟨rfl, rfl⟩, Nat.le_of_ble_eq_true rfl, Nat.le_of_ble_eq_true rfl⟩ 9 rfl [0, 1] rfl (by decide) rfl hP hD hS hl.1 rfl (Nat.le_of_ble_eq_true rfl) dX5_tone_2 ⟨Nat.le_of_ble_eq_true rfl, Nat.le_of_ble_eq_true rfl⟩) hA hP hD hS (isC := [0, 1]) rfl [] [0, 1] (br := []) (bs2 := fun _ => [coC E x a a2 a3 b d k pa y w, stC E a g]) (bx2 := fun _ => [coC E x a a2 a3 b d k pa y w, stC E a g]) rfl (by decide) (fun _ => rfl) (fun _ => rfl) (by decide) (fun Ex ce q3 ux H locs hw hP hD hS hc1 hc2 hc3 => ?_) (fun u H locs hw hP hD hS => ?_)
  · exact hprop _ _ _ () _ _ _ _ _ _ _ hw hP hD hS hc1 hc2 hc3 (by omega) (by omega)
  have hw : hasM g p0 = true := hw
  have hm9 := hasM_t hw
  have ht9 : ((tn p0 : Nat) : Int) = p0.toInt := tn_t (by omega)
  have hl : lv_has ls 2 [(0, .ref (x 0)), (1, .int (nI (tn p0)))] := by rw [tn_n (x := p0) (by omega)]; exact hl
  refine lv_aload_n hx hb dX5_tone_5 rfl (lv_at hl 0 rfl) ?_
  refine va_get (D := E.1) (ci := 9) (v := .ref (a 0)) (C := RX5) (T := TX5) (N := 11) hx hb hts inX5 hown hK hP 0 rfl rfl 0 (by decide) (hts _ q246) (fun _ h9 => h9) rfl dX5_tone_6 ?_
  refine va_get (D := E.1) (ci := 8) (v := .ref (a 4)) (C := RX4) (T := TX4) (N := 16) hx hb hts inX4 hown hK hP 1 rfl rfl 3 (by decide) (hts _ q75) (fun _ h9 => h9) rfl dX5_tone_9 ?_
  refine lv_iload_n hx hb dX5_tone_12 rfl (lv_at hl 1 rfl) ?_
  refine nv_iald (f := (g 3)) (i := tn p0) (n := 8) hx hb hK hP 5 0 rfl rfl (by omega) (by decide) dX5_tone_13 ?_
  exact hret _ _ (nI (g 3 (tn p0))) () _ _ _ _ hP hD hS rfl ⟨hw, rfl⟩ dX5_tone_14 (by omega) (by omega)
abbrev rm_X5_purse : Room := { frames := 7, cells := 1, slots := 6, locals := 121 }
set_option maxHeartbeats 4000000 in
set_option maxRecDepth 100000 in
theorem c_X5_purse (l : Launch) (hst : l.stackTraces = false) (E : EE) (sz : Nat) (x a a2 a3 b d k pa y w : Nat → Nat) (g : GG) (B : Nat) (hI : IB B g) (p0 : Int32) : XI l yX5_purse cX5_purse 2 .int rm_X5_purse [.ref (x 0), .int p0] E sz [coC E x a a2 a3 b d k pa y w, stC E a g] (fun (r : Int32) (_ : Unit) => hasM g p0 = true ∧ r = nI (g 5 (tn p0))) (fun _ => [coC E x a a2 a3 b d k pa y w, stC E a g]) (fun (Ex : String) (_ : Unit) => Ex = IOX ∧ hasM g p0 = false) (fun _ => [coC E x a a2 a3 b d k pa y w, stC E a g]) 1 6 := by
  refine xi_go hst (by decide) rfl (Nat.le_of_ble_eq_true rfl) ?_
  intro p e s m below meth c A Q ls hx hb hml hown hts hK hZ hDD hA hsz hP hD hl hret hprop hthr
  have hS : va_S A s.heap s.heap [] := va_S.rf
  have hl : lv_has ls 2 [(0, .ref (x 0)), (1, .int p0)] := hl
  skip
  have hmc := hI.mc
  have hbu := hI.bud
  refine lv_aload_n hx hb dX5_purse_0 rfl (lv_at hl 0 rfl) ?_
  refine lv_iload_n hx hb dX5_purse_1 rfl (lv_at hl 1 rfl) ?_
  refine run_xv (S := Unit) (SX := Unit) (run_XV (As := [.int p0]) (rest := []) (bs := [coC E x a a2 a3 b d k pa y w, stC E a g]) (cb := [coC E x a a2 a3 b d k pa y w, stC E a g]) hx hb hml hown hts hK hZ hDD hA (c_X5_needMember l hst E _ x a a2 a3 b d k pa y w g _ hI p0) l_X5_127 rfl ⟨⟨rfl, rfl⟩, Nat.le_of_ble_eq_true rfl, Nat.le_of_ble_eq_true rfl⟩ 9 rfl [0, 1] rfl (by decide) rfl hP hD hS hl.1 rfl (Nat.le_of_ble_eq_true rfl) dX5_purse_2 ⟨Nat.le_of_ble_eq_true rfl, Nat.le_of_ble_eq_true rfl⟩) hA hP hD hS (isC := [0, 1]) rfl [] [0, 1] (br := []) (bs2 := fun _ => [coC E x a a2 a3 b d k pa y w, stC E a g]) (bx2 := fun _ => [coC E x a a2 a3 b d k pa y w, stC E a g]) rfl (by decide) (fun _ => rfl) (fun _ => rfl) (by decide) (fun Ex ce q3 ux H locs hw hP hD hS hc1 hc2 hc3 => ?_) (fun u H locs hw hP hD hS => ?_)
  · exact hprop _ _ _ () _ _ _ _ _ _ _ hw hP hD hS hc1 hc2 hc3 (by omega) (by omega)
  have hw : hasM g p0 = true := hw
  have hm9 := hasM_t hw
  have ht9 : ((tn p0 : Nat) : Int) = p0.toInt := tn_t (by omega)
  have hl : lv_has ls 2 [(0, .ref (x 0)), (1, .int (nI (tn p0)))] := by rw [tn_n (x := p0) (by omega)]; exact hl
  refine lv_aload_n hx hb dX5_purse_5 rfl (lv_at hl 0 rfl) ?_
  refine va_get (D := E.1) (ci := 9) (v := .ref (a 0)) (C := RX5) (T := TX5) (N := 11) hx hb hts inX5 hown hK hP 0 rfl rfl 0 (by decide) (hts _ q246) (fun _ h9 => h9) rfl dX5_purse_6 ?_
  refine va_get (D := E.1) (ci := 8) (v := .ref (a 6)) (C := RX4) (T := TX4) (N := 16) hx hb hts inX4 hown hK hP 1 rfl rfl 5 (by decide) (hts _ q80) (fun _ h9 => h9) rfl dX5_purse_9 ?_
  refine lv_iload_n hx hb dX5_purse_12 rfl (lv_at hl 1 rfl) ?_
  refine nv_iald (f := (g 5)) (i := tn p0) (n := 8) hx hb hK hP 7 0 rfl rfl (by omega) (by decide) dX5_purse_13 ?_
  exact hret _ _ (nI (g 5 (tn p0))) () _ _ _ _ hP hD hS rfl ⟨hw, rfl⟩ dX5_purse_14 (by omega) (by omega)
abbrev rm_X5_dissents : Room := { frames := 7, cells := 1, slots := 6, locals := 121 }
set_option maxHeartbeats 4000000 in
set_option maxRecDepth 100000 in
theorem c_X5_dissents (l : Launch) (hst : l.stackTraces = false) (E : EE) (sz : Nat) (x a a2 a3 b d k pa y w : Nat → Nat) (g : GG) (B : Nat) (hI : IB B g) (p0 : Int32) : XI l yX5_dissents cX5_dissents 2 .int rm_X5_dissents [.ref (x 0), .int p0] E sz [coC E x a a2 a3 b d k pa y w, stC E a g] (fun (r : Int32) (_ : Unit) => hasM g p0 = true ∧ r = nI (g 6 (tn p0))) (fun _ => [coC E x a a2 a3 b d k pa y w, stC E a g]) (fun (Ex : String) (_ : Unit) => Ex = IOX ∧ hasM g p0 = false) (fun _ => [coC E x a a2 a3 b d k pa y w, stC E a g]) 1 6 := by
  refine xi_go hst (by decide) rfl (Nat.le_of_ble_eq_true rfl) ?_
  intro p e s m below meth c A Q ls hx hb hml hown hts hK hZ hDD hA hsz hP hD hl hret hprop hthr
  have hS : va_S A s.heap s.heap [] := va_S.rf
  have hl : lv_has ls 2 [(0, .ref (x 0)), (1, .int p0)] := hl
  skip
  have hmc := hI.mc
  have hbu := hI.bud
  refine lv_aload_n hx hb dX5_dissents_0 rfl (lv_at hl 0 rfl) ?_
  refine lv_iload_n hx hb dX5_dissents_1 rfl (lv_at hl 1 rfl) ?_
  refine run_xv (S := Unit) (SX := Unit) (run_XV (As := [.int p0]) (rest := []) (bs := [coC E x a a2 a3 b d k pa y w, stC E a g]) (cb := [coC E x a a2 a3 b d k pa y w, stC E a g]) hx hb hml hown hts hK hZ hDD hA (c_X5_needMember l hst E _ x a a2 a3 b d k pa y w g _ hI p0) l_X5_127 rfl ⟨⟨rfl, rfl⟩, Nat.le_of_ble_eq_true rfl, Nat.le_of_ble_eq_true rfl⟩ 9 rfl [0, 1] rfl (by decide) rfl hP hD hS hl.1 rfl (Nat.le_of_ble_eq_true rfl) dX5_dissents_2 ⟨Nat.le_of_ble_eq_true rfl, Nat.le_of_ble_eq_true rfl⟩) hA hP hD hS (isC := [0, 1]) rfl [] [0, 1] (br := []) (bs2 := fun _ => [coC E x a a2 a3 b d k pa y w, stC E a g]) (bx2 := fun _ => [coC E x a a2 a3 b d k pa y w, stC E a g]) rfl (by decide) (fun _ => rfl) (fun _ => rfl) (by decide) (fun Ex ce q3 ux H locs hw hP hD hS hc1 hc2 hc3 => ?_) (fun u H locs hw hP hD hS => ?_)
  · exact hprop _ _ _ () _ _ _ _ _ _ _ hw hP hD hS hc1 hc2 hc3 (by omega) (by omega)
  have hw : hasM g p0 = true := hw
  have hm9 := hasM_t hw
  have ht9 : ((tn p0 : Nat) : Int) = p0.toInt := tn_t (by omega)
  have hl : lv_has ls 2 [(0, .ref (x 0)), (1, .int (nI (tn p0)))] := by rw [tn_n (x := p0) (by omega)]; exact hl
  refine lv_aload_n hx hb dX5_dissents_5 rfl (lv_at hl 0 rfl) ?_
  refine va_get (D := E.1) (ci := 9) (v := .ref (a 0)) (C := RX5) (T := TX5) (N := 11) hx hb hts inX5 hown hK hP 0 rfl rfl 0 (by decide) (hts _ q246) (fun _ h9 => h9) rfl dX5_dissents_6 ?_
  refine va_get (D := E.1) (ci := 8) (v := .ref (a 7)) (C := RX4) (T := TX4) (N := 16) hx hb hts inX4 hown hK hP 1 rfl rfl 6 (by decide) (hts _ q82) (fun _ h9 => h9) rfl dX5_dissents_9 ?_
  refine lv_iload_n hx hb dX5_dissents_12 rfl (lv_at hl 1 rfl) ?_
  refine nv_iald (f := (g 6)) (i := tn p0) (n := 8) hx hb hK hP 8 0 rfl rfl (by omega) (by decide) dX5_dissents_13 ?_
  exact hret _ _ (nI (g 6 (tn p0))) () _ _ _ _ hP hD hS rfl ⟨hw, rfl⟩ dX5_dissents_14 (by omega) (by omega)
