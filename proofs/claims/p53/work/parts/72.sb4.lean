abbrev rm_J6_stringSize_0f7a4 : Room := { frames := 0, cells := 0, slots := 0, locals := 0 }
set_option maxHeartbeats 4000000 in
set_option maxRecDepth 100000 in
theorem c_J6_stringSize_0f7a4 (l : Launch) (E : EE) (sz : Nat) (n0 : Nat) (h : n0 < 1000000)  : MI l yJ6_stringSize_0f7a4 cJ6_stringSize_0f7a4 4 .int rm_J6_stringSize_0f7a4 [.int (nI n0)] E sz [] (fun (r : Int32) (_ : Unit) => r = nI (dgs n0).length) (fun _ => []) 0 0 := by
  refine mi_go (by decide) (Nat.le_of_ble_eq_true rfl) ?_
  intro p e s m below meth c A Q ls hx hb hml hown hts hK hZ hA hsz hP hD hl hret
  have hS : va_S A s.heap s.heap [] := va_S.rf
  have hl : lv_has ls 4 [(0, .int (nI n0))] := hl
  skip
  refine lv_iconst (v := nI 1) hx hb dJ6_stringSize_0f7a4_0 (by decide) ?_
  refine lv_istore_n (lv' := [(1, .int (nI 1)), (0, .int (nI n0))]) hx hb dJ6_stringSize_0f7a4_1 rfl hl (by decide) rfl (fun ls hl => ?_)
  refine lv_iload_n hx hb dJ6_stringSize_0f7a4_2 rfl (lv_at hl 1 rfl) ?_
  refine nv_if_lt (X := ((n0 : Nat) : Int)) hx hb (nI_toInt (by omega)) (tgt := 11) dJ6_stringSize_0f7a4_3 (by decide) (fun c_1 => ?_) (fun c_1 => ?_)
  · exact absurd c_1 (by omega)
  · skip
    refine lv_iconst (v := nI 0) hx hb dJ6_stringSize_0f7a4_6 (by decide) ?_
    refine lv_istore_n (lv' := [(1, .int (nI 0)), (0, .int (nI n0))]) hx hb dJ6_stringSize_0f7a4_7 rfl hl (by decide) rfl (fun ls hl => ?_)
    refine lv_iload_n hx hb dJ6_stringSize_0f7a4_8 rfl (lv_at hl 1 rfl) ?_
    refine lv_ineg hx hb dJ6_stringSize_0f7a4_9 ?_
    refine lv_istore_n (lv' := [(0, .int (-nI n0)), (1, .int (nI 0))]) hx hb dJ6_stringSize_0f7a4_10 rfl hl (by decide) rfl (fun ls hl => ?_)
    refine lv_bipush (v := -10) hx hb dJ6_stringSize_0f7a4_11 (by decide) ?_
    refine lv_istore_n (lv' := [(2, .int (-10 : Int32)), (0, .int (-nI n0)), (1, .int (nI 0))]) hx hb dJ6_stringSize_0f7a4_13 rfl hl (by decide) rfl (fun ls hl => ?_)
    refine lv_iconst (v := nI 1) hx hb dJ6_stringSize_0f7a4_14 (by decide) ?_
    refine lv_istore_n (lv' := [(3, .int (nI 1)), (2, .int (-10 : Int32)), (0, .int (-nI n0)), (1, .int (nI 0))]) hx hb dJ6_stringSize_0f7a4_15 rfl hl (by decide) rfl (fun ls hl => ?_)
    refine lv_iload_n hx hb dJ6_stringSize_0f7a4_16 rfl (lv_at hl 0 rfl) ?_
    refine lv_bipush (v := nI 10) hx hb dJ6_stringSize_0f7a4_17 (by decide) ?_
    refine nv_icmp_ge (X := ((1 : Nat) : Int)) (Y := ((10 : Nat) : Int)) hx hb (nI_toInt (by omega)) (nI_toInt (by omega)) (tgt := 42) dJ6_stringSize_0f7a4_19 (by decide) (fun c_2 => ?_) (fun c_2 => ?_)
    · exact absurd c_2 (by omega)
    · skip
      refine lv_iload_n hx hb dJ6_stringSize_0f7a4_22 rfl (lv_at hl 2 rfl) ?_
      refine lv_iload_n hx hb dJ6_stringSize_0f7a4_23 rfl (lv_at hl 1 rfl) ?_
      refine nv_icmp_le (X := -((n0 : Nat) : Int)) (Y := (-10)) hx hb (sb_negT (by omega)) (by decide) (tgt := 31) dJ6_stringSize_0f7a4_24 (by decide) (fun c_3 => ?_) (fun c_3 => ?_)
      · skip
        refine lv_bipush (v := nI 10) hx hb dJ6_stringSize_0f7a4_31 (by decide) ?_
        refine lv_iload_n hx hb dJ6_stringSize_0f7a4_33 rfl (lv_at hl 1 rfl) ?_
        refine lv_imul hx hb dJ6_stringSize_0f7a4_34 ?_
        refine tp_i (show nI 10 * (-10 : Int32) = (-100 : Int32) from by decide) ?_
        refine lv_istore_n (lv' := [(2, .int (-100 : Int32)), (3, .int (nI 1)), (0, .int (-nI n0)), (1, .int (nI 0))]) hx hb dJ6_stringSize_0f7a4_35 rfl hl (by decide) rfl (fun ls hl => ?_)
        refine lv_iinc (v := nI (1 + 1)) (lv' := [(3, .int (nI (1 + 1))), (2, .int (-100 : Int32)), (0, .int (-nI n0)), (1, .int (nI 0))]) hx hb dJ6_stringSize_0f7a4_36 hl (k := 1) rfl (nI_add 1 1) (by decide) rfl (fun ls hl => ?_)
        refine lv_goto (tgt := 16) hx hb dJ6_stringSize_0f7a4_39 (by decide) ?_
        refine lv_iload_n hx hb dJ6_stringSize_0f7a4_16 rfl (lv_at hl 0 rfl) ?_
        refine lv_bipush (v := nI 10) hx hb dJ6_stringSize_0f7a4_17 (by decide) ?_
        refine nv_icmp_ge (X := ((1 + 1 : Nat) : Int)) (Y := ((10 : Nat) : Int)) hx hb (nI_toInt (by omega)) (nI_toInt (by omega)) (tgt := 42) dJ6_stringSize_0f7a4_19 (by decide) (fun c_4 => ?_) (fun c_4 => ?_)
        · exact absurd c_4 (by omega)
        · skip
          refine lv_iload_n hx hb dJ6_stringSize_0f7a4_22 rfl (lv_at hl 2 rfl) ?_
          refine lv_iload_n hx hb dJ6_stringSize_0f7a4_23 rfl (lv_at hl 1 rfl) ?_
          refine nv_icmp_le (X := -((n0 : Nat) : Int)) (Y := (-100)) hx hb (sb_negT (by omega)) (by decide) (tgt := 31) dJ6_stringSize_0f7a4_24 (by decide) (fun c_5 => ?_) (fun c_5 => ?_)
          · skip
            refine lv_bipush (v := nI 10) hx hb dJ6_stringSize_0f7a4_31 (by decide) ?_
            refine lv_iload_n hx hb dJ6_stringSize_0f7a4_33 rfl (lv_at hl 1 rfl) ?_
            refine lv_imul hx hb dJ6_stringSize_0f7a4_34 ?_
            refine tp_i (show nI 10 * (-100 : Int32) = (-1000 : Int32) from by decide) ?_
            refine lv_istore_n (lv' := [(2, .int (-1000 : Int32)), (3, .int (nI (1 + 1))), (0, .int (-nI n0)), (1, .int (nI 0))]) hx hb dJ6_stringSize_0f7a4_35 rfl hl (by decide) rfl (fun ls hl => ?_)
            refine lv_iinc (v := nI (1 + 1 + 1)) (lv' := [(3, .int (nI (1 + 1 + 1))), (2, .int (-1000 : Int32)), (0, .int (-nI n0)), (1, .int (nI 0))]) hx hb dJ6_stringSize_0f7a4_36 hl (k := 1) rfl (nI_add (1 + 1) 1) (by decide) rfl (fun ls hl => ?_)
            refine lv_goto (tgt := 16) hx hb dJ6_stringSize_0f7a4_39 (by decide) ?_
            refine lv_iload_n hx hb dJ6_stringSize_0f7a4_16 rfl (lv_at hl 0 rfl) ?_
            refine lv_bipush (v := nI 10) hx hb dJ6_stringSize_0f7a4_17 (by decide) ?_
            refine nv_icmp_ge (X := ((1 + 1 + 1 : Nat) : Int)) (Y := ((10 : Nat) : Int)) hx hb (nI_toInt (by omega)) (nI_toInt (by omega)) (tgt := 42) dJ6_stringSize_0f7a4_19 (by decide) (fun c_6 => ?_) (fun c_6 => ?_)
            · exact absurd c_6 (by omega)
            · skip
              refine lv_iload_n hx hb dJ6_stringSize_0f7a4_22 rfl (lv_at hl 2 rfl) ?_
              refine lv_iload_n hx hb dJ6_stringSize_0f7a4_23 rfl (lv_at hl 1 rfl) ?_
              refine nv_icmp_le (X := -((n0 : Nat) : Int)) (Y := (-1000)) hx hb (sb_negT (by omega)) (by decide) (tgt := 31) dJ6_stringSize_0f7a4_24 (by decide) (fun c_7 => ?_) (fun c_7 => ?_)
              · skip
                refine lv_bipush (v := nI 10) hx hb dJ6_stringSize_0f7a4_31 (by decide) ?_
                refine lv_iload_n hx hb dJ6_stringSize_0f7a4_33 rfl (lv_at hl 1 rfl) ?_
                refine lv_imul hx hb dJ6_stringSize_0f7a4_34 ?_
                refine tp_i (show nI 10 * (-1000 : Int32) = (-10000 : Int32) from by decide) ?_
                refine lv_istore_n (lv' := [(2, .int (-10000 : Int32)), (3, .int (nI (1 + 1 + 1))), (0, .int (-nI n0)), (1, .int (nI 0))]) hx hb dJ6_stringSize_0f7a4_35 rfl hl (by decide) rfl (fun ls hl => ?_)
                refine lv_iinc (v := nI (1 + 1 + 1 + 1)) (lv' := [(3, .int (nI (1 + 1 + 1 + 1))), (2, .int (-10000 : Int32)), (0, .int (-nI n0)), (1, .int (nI 0))]) hx hb dJ6_stringSize_0f7a4_36 hl (k := 1) rfl (nI_add (1 + 1 + 1) 1) (by decide) rfl (fun ls hl => ?_)
                refine lv_goto (tgt := 16) hx hb dJ6_stringSize_0f7a4_39 (by decide) ?_
                refine lv_iload_n hx hb dJ6_stringSize_0f7a4_16 rfl (lv_at hl 0 rfl) ?_
                refine lv_bipush (v := nI 10) hx hb dJ6_stringSize_0f7a4_17 (by decide) ?_
                refine nv_icmp_ge (X := ((1 + 1 + 1 + 1 : Nat) : Int)) (Y := ((10 : Nat) : Int)) hx hb (nI_toInt (by omega)) (nI_toInt (by omega)) (tgt := 42) dJ6_stringSize_0f7a4_19 (by decide) (fun c_8 => ?_) (fun c_8 => ?_)
                · exact absurd c_8 (by omega)
                · skip
                  refine lv_iload_n hx hb dJ6_stringSize_0f7a4_22 rfl (lv_at hl 2 rfl) ?_
                  refine lv_iload_n hx hb dJ6_stringSize_0f7a4_23 rfl (lv_at hl 1 rfl) ?_
                  refine nv_icmp_le (X := -((n0 : Nat) : Int)) (Y := (-10000)) hx hb (sb_negT (by omega)) (by decide) (tgt := 31) dJ6_stringSize_0f7a4_24 (by decide) (fun c_9 => ?_) (fun c_9 => ?_)
                  · skip
                    refine lv_bipush (v := nI 10) hx hb dJ6_stringSize_0f7a4_31 (by decide) ?_
                    refine lv_iload_n hx hb dJ6_stringSize_0f7a4_33 rfl (lv_at hl 1 rfl) ?_
                    refine lv_imul hx hb dJ6_stringSize_0f7a4_34 ?_
                    refine tp_i (show nI 10 * (-10000 : Int32) = (-100000 : Int32) from by decide) ?_
                    refine lv_istore_n (lv' := [(2, .int (-100000 : Int32)), (3, .int (nI (1 + 1 + 1 + 1))), (0, .int (-nI n0)), (1, .int (nI 0))]) hx hb dJ6_stringSize_0f7a4_35 rfl hl (by decide) rfl (fun ls hl => ?_)
                    refine lv_iinc (v := nI (1 + 1 + 1 + 1 + 1)) (lv' := [(3, .int (nI (1 + 1 + 1 + 1 + 1))), (2, .int (-100000 : Int32)), (0, .int (-nI n0)), (1, .int (nI 0))]) hx hb dJ6_stringSize_0f7a4_36 hl (k := 1) rfl (nI_add (1 + 1 + 1 + 1) 1) (by decide) rfl (fun ls hl => ?_)
                    refine lv_goto (tgt := 16) hx hb dJ6_stringSize_0f7a4_39 (by decide) ?_
                    refine lv_iload_n hx hb dJ6_stringSize_0f7a4_16 rfl (lv_at hl 0 rfl) ?_
                    refine lv_bipush (v := nI 10) hx hb dJ6_stringSize_0f7a4_17 (by decide) ?_
                    refine nv_icmp_ge (X := ((1 + 1 + 1 + 1 + 1 : Nat) : Int)) (Y := ((10 : Nat) : Int)) hx hb (nI_toInt (by omega)) (nI_toInt (by omega)) (tgt := 42) dJ6_stringSize_0f7a4_19 (by decide) (fun c_10 => ?_) (fun c_10 => ?_)
                    · exact absurd c_10 (by omega)
                    · skip
                      refine lv_iload_n hx hb dJ6_stringSize_0f7a4_22 rfl (lv_at hl 2 rfl) ?_
                      refine lv_iload_n hx hb dJ6_stringSize_0f7a4_23 rfl (lv_at hl 1 rfl) ?_
                      refine nv_icmp_le (X := -((n0 : Nat) : Int)) (Y := (-100000)) hx hb (sb_negT (by omega)) (by decide) (tgt := 31) dJ6_stringSize_0f7a4_24 (by decide) (fun c_11 => ?_) (fun c_11 => ?_)
                      · skip
                        refine lv_bipush (v := nI 10) hx hb dJ6_stringSize_0f7a4_31 (by decide) ?_
                        refine lv_iload_n hx hb dJ6_stringSize_0f7a4_33 rfl (lv_at hl 1 rfl) ?_
                        refine lv_imul hx hb dJ6_stringSize_0f7a4_34 ?_
                        refine tp_i (show nI 10 * (-100000 : Int32) = (-1000000 : Int32) from by decide) ?_
                        refine lv_istore_n (lv' := [(2, .int (-1000000 : Int32)), (3, .int (nI (1 + 1 + 1 + 1 + 1))), (0, .int (-nI n0)), (1, .int (nI 0))]) hx hb dJ6_stringSize_0f7a4_35 rfl hl (by decide) rfl (fun ls hl => ?_)
                        refine lv_iinc (v := nI (1 + 1 + 1 + 1 + 1 + 1)) (lv' := [(3, .int (nI (1 + 1 + 1 + 1 + 1 + 1))), (2, .int (-1000000 : Int32)), (0, .int (-nI n0)), (1, .int (nI 0))]) hx hb dJ6_stringSize_0f7a4_36 hl (k := 1) rfl (nI_add (1 + 1 + 1 + 1 + 1) 1) (by decide) rfl (fun ls hl => ?_)
                        refine lv_goto (tgt := 16) hx hb dJ6_stringSize_0f7a4_39 (by decide) ?_
                        refine lv_iload_n hx hb dJ6_stringSize_0f7a4_16 rfl (lv_at hl 0 rfl) ?_
                        refine lv_bipush (v := nI 10) hx hb dJ6_stringSize_0f7a4_17 (by decide) ?_
                        refine nv_icmp_ge (X := ((1 + 1 + 1 + 1 + 1 + 1 : Nat) : Int)) (Y := ((10 : Nat) : Int)) hx hb (nI_toInt (by omega)) (nI_toInt (by omega)) (tgt := 42) dJ6_stringSize_0f7a4_19 (by decide) (fun c_12 => ?_) (fun c_12 => ?_)
                        · exact absurd c_12 (by omega)
                        · skip
                          refine lv_iload_n hx hb dJ6_stringSize_0f7a4_22 rfl (lv_at hl 2 rfl) ?_
                          refine lv_iload_n hx hb dJ6_stringSize_0f7a4_23 rfl (lv_at hl 1 rfl) ?_
                          refine nv_icmp_le (X := -((n0 : Nat) : Int)) (Y := (-1000000)) hx hb (sb_negT (by omega)) (by decide) (tgt := 31) dJ6_stringSize_0f7a4_24 (by decide) (fun c_13 => ?_) (fun c_13 => ?_)
                          · exact absurd c_13 (by omega)
                          · skip
                            refine lv_iload_n hx hb dJ6_stringSize_0f7a4_27 rfl (lv_at hl 0 rfl) ?_
                            refine lv_iload_n hx hb dJ6_stringSize_0f7a4_28 rfl (lv_at hl 3 rfl) ?_
                            refine nv_iadd hx hb dJ6_stringSize_0f7a4_29 ?_
                            exact hret _ _ (nI (1 + 1 + 1 + 1 + 1 + 1 + 0)) () _ _ hP hD hS rfl (congrArg nI (by rw [dgs_l (k := 5) (by decide) (Or.inr (by omega)) (by omega)])) dJ6_stringSize_0f7a4_30
                      · skip
                        refine lv_iload_n hx hb dJ6_stringSize_0f7a4_27 rfl (lv_at hl 0 rfl) ?_
                        refine lv_iload_n hx hb dJ6_stringSize_0f7a4_28 rfl (lv_at hl 3 rfl) ?_
                        refine nv_iadd hx hb dJ6_stringSize_0f7a4_29 ?_
                        exact hret _ _ (nI (1 + 1 + 1 + 1 + 1 + 0)) () _ _ hP hD hS rfl (congrArg nI (by rw [dgs_l (k := 4) (by decide) (Or.inr (by omega)) (by omega)])) dJ6_stringSize_0f7a4_30
                  · skip
                    refine lv_iload_n hx hb dJ6_stringSize_0f7a4_27 rfl (lv_at hl 0 rfl) ?_
                    refine lv_iload_n hx hb dJ6_stringSize_0f7a4_28 rfl (lv_at hl 3 rfl) ?_
                    refine nv_iadd hx hb dJ6_stringSize_0f7a4_29 ?_
                    exact hret _ _ (nI (1 + 1 + 1 + 1 + 0)) () _ _ hP hD hS rfl (congrArg nI (by rw [dgs_l (k := 3) (by decide) (Or.inr (by omega)) (by omega)])) dJ6_stringSize_0f7a4_30
              · skip
                refine lv_iload_n hx hb dJ6_stringSize_0f7a4_27 rfl (lv_at hl 0 rfl) ?_
                refine lv_iload_n hx hb dJ6_stringSize_0f7a4_28 rfl (lv_at hl 3 rfl) ?_
                refine nv_iadd hx hb dJ6_stringSize_0f7a4_29 ?_
                exact hret _ _ (nI (1 + 1 + 1 + 0)) () _ _ hP hD hS rfl (congrArg nI (by rw [dgs_l (k := 2) (by decide) (Or.inr (by omega)) (by omega)])) dJ6_stringSize_0f7a4_30
          · skip
            refine lv_iload_n hx hb dJ6_stringSize_0f7a4_27 rfl (lv_at hl 0 rfl) ?_
            refine lv_iload_n hx hb dJ6_stringSize_0f7a4_28 rfl (lv_at hl 3 rfl) ?_
            refine nv_iadd hx hb dJ6_stringSize_0f7a4_29 ?_
            exact hret _ _ (nI (1 + 1 + 0)) () _ _ hP hD hS rfl (congrArg nI (by rw [dgs_l (k := 1) (by decide) (Or.inr (by omega)) (by omega)])) dJ6_stringSize_0f7a4_30
      · skip
        refine lv_iload_n hx hb dJ6_stringSize_0f7a4_27 rfl (lv_at hl 0 rfl) ?_
        refine lv_iload_n hx hb dJ6_stringSize_0f7a4_28 rfl (lv_at hl 3 rfl) ?_
        refine nv_iadd hx hb dJ6_stringSize_0f7a4_29 ?_
        exact hret _ _ (nI (1 + 0)) () _ _ hP hD hS rfl (congrArg nI (by rw [dgs_l (k := 0) (by decide) (Or.inl rfl) (by omega)])) dJ6_stringSize_0f7a4_30
theorem gc_end {t u : Nat → Nat} {n0 n1 p : Nat} (h1 : p = n1 - (dgs n0).length) (h2 : DW u p (dgs n0)) (h3 : ∀ j, j < p → u j = t j) (h4 : ∀ j, u j < 128) : nI p = nI (n1 - (dgs n0).length) ∧ DW u (n1 - (dgs n0).length) (dgs n0) ∧ (∀ j, j < n1 - (dgs n0).length → u j = t j) ∧ ∀ j, u j < 128 := by subst h1; exact ⟨rfl, h2, h3, h4⟩
theorem dgs_ge {n k : Nat} (hk : k < 6) (h : 10 ^ k ≤ n) : k + 1 ≤ (dgs n).length := by
  rcases (show k = 0 ∨ k = 1 ∨ k = 2 ∨ k = 3 ∨ k = 4 ∨ k = 5 by omega) with rfl | rfl | rfl | rfl | rfl | rfl <;> unfold dgs <;> simp only [List.length_append, List.length_singleton] <;> (repeat' split) <;> simp only [List.length_singleton, List.length_nil] <;> omega
theorem dgs_pos {n : Nat} : 1 ≤ (dgs n).length := by unfold dgs; simp only [List.length_append, List.length_singleton]; omega
abbrev rm_J6_getChars_ba4f3 : Room := { frames := 0, cells := 0, slots := 0, locals := 0 }
set_option maxHeartbeats 4000000 in
set_option maxRecDepth 100000 in
theorem c_J6_getChars_ba4f3 (l : Launch) (E : EE) (sz : Nat) (v cp : Nat) (t : Nat → Nat) (ht : ∀ j, t j < 128) (n0 n1 : Nat) (h : n0 < 1000000) (h1 : (dgs n0).length ≤ n1) (h2 : n1 ≤ cp) (h3 : cp ≤ 34)  : MI l yJ6_getChars_ba4f3 cJ6_getChars_ba4f3 7 .int rm_J6_getChars_ba4f3 [.int (nI n0), .int (nI n1), .ref v] E sz [baC E v cp t] (fun (r : Int32) (u : Nat → Nat) => r = nI (n1 - (dgs n0).length) ∧ DW u (n1 - (dgs n0).length) (dgs n0) ∧ (∀ j, j < n1 - (dgs n0).length → u j = t j) ∧ ∀ j, u j < 128) (fun u => [baC E v cp u]) 0 0 := by
  refine mi_go (by decide) (Nat.le_of_ble_eq_true rfl) ?_
  intro p e s m below meth c A Q ls hx hb hml hown hts hK hZ hA hsz hP hD hl hret
  have hS : va_S A s.heap s.heap [] := va_S.rf
  have hl : lv_has ls 7 [(0, .int (nI n0)), (1, .int (nI n1)), (2, .ref v)] := hl
  skip
  have hd1 := dgs_pos (n := n0)
  refine lv_iload_n hx hb dJ6_getChars_ba4f3_0 rfl (lv_at hl 1 rfl) ?_
  refine lv_istore (lv' := [(5, .int (nI n1)), (0, .int (nI n0)), (1, .int (nI n1)), (2, .ref v)]) hx hb dJ6_getChars_ba4f3_1 hl (by decide) rfl (fun ls hl => ?_)
  refine lv_iload_n hx hb dJ6_getChars_ba4f3_3 rfl (lv_at hl 1 rfl) ?_
  refine nv_if_ge (X := ((n0 : Nat) : Int)) hx hb (nI_toInt (by omega)) (tgt := 11) dJ6_getChars_ba4f3_4 (by decide) (fun c_1 => ?_) (fun c_1 => ?_)
  · skip
    refine lv_iconst (v := nI 0) hx hb dJ6_getChars_ba4f3_11 (by decide) ?_
    refine lv_istore (lv' := [(6, .int (nI 0)), (5, .int (nI n1)), (0, .int (nI n0)), (1, .int (nI n1)), (2, .ref v)]) hx hb dJ6_getChars_ba4f3_12 hl (by decide) rfl (fun ls hl => ?_)
    refine lv_iload hx hb dJ6_getChars_ba4f3_14 (lv_at hl 0 rfl) ?_
    refine nv_if_ne (X := ((0 : Nat) : Int)) hx hb (nI_toInt (by omega)) (tgt := 22) dJ6_getChars_ba4f3_16 (by decide) (fun c_2 => ?_) (fun c_2 => ?_)
    · exact absurd c_2 (by omega)
    · skip
      refine lv_iload_n hx hb dJ6_getChars_ba4f3_19 rfl (lv_at hl 2 rfl) ?_
      refine lv_ineg hx hb dJ6_getChars_ba4f3_20 ?_
      refine lv_istore_n (lv' := [(0, .int (-nI n0)), (6, .int (nI 0)), (5, .int (nI n1)), (1, .int (nI n1)), (2, .ref v)]) hx hb dJ6_getChars_ba4f3_21 rfl hl (by decide) rfl (fun ls hl => ?_)
      refine lv_iload_n hx hb dJ6_getChars_ba4f3_22 rfl (lv_at hl 0 rfl) ?_
      refine lv_bipush (v := -100) hx hb dJ6_getChars_ba4f3_23 (by decide) ?_
      refine nv_icmp_gt (X := -((n0 : Nat) : Int)) (Y := (-100)) hx hb (sb_negT (by omega)) (by decide) (tgt := 72) dJ6_getChars_ba4f3_25 (by decide) (fun c_3 => ?_) (fun c_3 => ?_)
      · skip
        refine lv_aload_n hx hb dJ6_getChars_ba4f3_72 rfl (lv_at hl 4 rfl) ?_
        refine lv_iinc (v := nI (n1 - 1)) (lv' := [(5, .int (nI (n1 - 1))), (0, .int (-nI n0)), (6, .int (nI 0)), (1, .int (nI n1)), (2, .ref v)]) hx hb dJ6_getChars_ba4f3_73 hl (k := 2) rfl (by rw [show Int32.ofInt (-1) = -nI 1 from by decide, ← Int32.sub_eq_add_neg]; exact pk_sub (by omega)) (by decide) rfl (fun ls hl => ?_)
        refine lv_iload hx hb dJ6_getChars_ba4f3_76 (lv_at hl 0 rfl) ?_
        refine va_gets hx hb hZ.2.2.2.2.2.2.1.1 hS hown (hts _ q840) (fun _ h => h) dJ6_getChars_ba4f3_78 ?_
        refine lv_iload_n hx hb dJ6_getChars_ba4f3_81 rfl (lv_at hl 1 rfl) ?_
        refine lv_ineg hx hb dJ6_getChars_ba4f3_82 ?_
        refine tp_i (show - -nI n0 = nI n0 from Int32.neg_neg) ?_
        refine va_tb hx hb hZ.2.2.2.2.2.2.1.2 hS (vp_in_nI (show n0 < 100 by omega) (by decide)) (v := .int (nI (48 + n0 % 10))) (by rw [nI_clamp (by omega)]) dJ6_getChars_ba4f3_83 ?_
        refine nv_bast (f := t) (i := n1 - 1) (v := 48 + n0 % 10) (n := cp) hx hb hK hP hD hS 0 2 rfl rfl (by omega) (by omega) (by omega) dJ6_getChars_ba4f3_84 (fun H locs hP hD hS => ?_)
        have hP : va_P E.1 vwCl ([baC E v cp (upn t (n1 - 1) (48 + n0 % 10))] : List va_W).flatten H := hP
        have hD : va_D A ([baC E v cp (upn t (n1 - 1) (48 + n0 % 10))] : List va_W).flatten := hD
        refine lv_iload_n hx hb dJ6_getChars_ba4f3_85 rfl (lv_at hl 1 rfl) ?_
        refine lv_bipush (v := -9) hx hb dJ6_getChars_ba4f3_86 (by decide) ?_
        refine nv_icmp_ge (X := -((n0 : Nat) : Int)) (Y := (-9)) hx hb (sb_negT (by omega)) (by decide) (tgt := 104) dJ6_getChars_ba4f3_88 (by decide) (fun c_4 => ?_) (fun c_4 => ?_)
        · skip
          refine lv_iload hx hb dJ6_getChars_ba4f3_104 (lv_at hl 2 rfl) ?_
          refine nv_if_eq (X := ((0 : Nat) : Int)) hx hb (nI_toInt (by omega)) (tgt := 118) dJ6_getChars_ba4f3_106 (by decide) (fun c_5 => ?_) (fun c_5 => ?_)
          · skip
            refine lv_iload hx hb dJ6_getChars_ba4f3_118 (lv_at hl 0 rfl) ?_
            exact hret _ _ (nI (n1 - 1)) (upn t (n1 - 1) (48 + n0 % 10)) _ _ hP hD hS rfl (gc_end (p := n1 - 1) (by rw [dgs_1 (by omega)]; show _ = n1 - 1; omega) (by rw [dgs_1 (by omega)]; exact dw_1 (by simp only [upn, ↓reduceIte] <;> (repeat' split) <;> omega)) (fun j hj => by simp only [upn]; (repeat' split) <;> first | rfl | omega) (fun j => by have := ht j; simp only [upn]; (repeat' split) <;> omega)) dJ6_getChars_ba4f3_120
          · exact absurd c_5 (by omega)
        · skip
          have hd2 : 2 ≤ (dgs n0).length := dgs_ge (k := 1) (by decide) (by omega)
          refine lv_aload_n hx hb dJ6_getChars_ba4f3_91 rfl (lv_at hl 4 rfl) ?_
          refine lv_iinc (v := nI (n1 - 1 - 1)) (lv' := [(5, .int (nI (n1 - 1 - 1))), (0, .int (-nI n0)), (6, .int (nI 0)), (1, .int (nI n1)), (2, .ref v)]) hx hb dJ6_getChars_ba4f3_92 hl (k := 0) rfl (by rw [show Int32.ofInt (-1) = -nI 1 from by decide, ← Int32.sub_eq_add_neg]; exact pk_sub (by omega)) (by decide) rfl (fun ls hl => ?_)
          refine lv_iload hx hb dJ6_getChars_ba4f3_95 (lv_at hl 0 rfl) ?_
          refine va_gets hx hb hZ.2.2.2.2.2.2.2.1 hS hown (hts _ q842) (fun _ h => h) dJ6_getChars_ba4f3_97 ?_
          refine lv_iload_n hx hb dJ6_getChars_ba4f3_100 rfl (lv_at hl 1 rfl) ?_
          refine lv_ineg hx hb dJ6_getChars_ba4f3_101 ?_
          refine tp_i (show - -nI n0 = nI n0 from Int32.neg_neg) ?_
          refine va_tb hx hb hZ.2.2.2.2.2.2.2.2 hS (vp_in_nI (show n0 < 100 by omega) (by decide)) (v := .int (nI (48 + n0 / 10))) (by rw [nI_clamp (by omega)]) dJ6_getChars_ba4f3_102 ?_
          refine nv_bast (f := (upn t (n1 - 1) (48 + n0 % 10))) (i := n1 - 1 - 1) (v := 48 + n0 / 10) (n := cp) hx hb hK hP hD hS 0 2 rfl rfl (by omega) (by omega) (by omega) dJ6_getChars_ba4f3_103 (fun H locs hP hD hS => ?_)
          have hP : va_P E.1 vwCl ([baC E v cp (upn (upn t (n1 - 1) (48 + n0 % 10)) (n1 - 1 - 1) (48 + n0 / 10))] : List va_W).flatten H := hP
          have hD : va_D A ([baC E v cp (upn (upn t (n1 - 1) (48 + n0 % 10)) (n1 - 1 - 1) (48 + n0 / 10))] : List va_W).flatten := hD
          refine lv_iload hx hb dJ6_getChars_ba4f3_104 (lv_at hl 2 rfl) ?_
          refine nv_if_eq (X := ((0 : Nat) : Int)) hx hb (nI_toInt (by omega)) (tgt := 118) dJ6_getChars_ba4f3_106 (by decide) (fun c_6 => ?_) (fun c_6 => ?_)
          · skip
            refine lv_iload hx hb dJ6_getChars_ba4f3_118 (lv_at hl 0 rfl) ?_
            exact hret _ _ (nI (n1 - 1 - 1)) (upn (upn t (n1 - 1) (48 + n0 % 10)) (n1 - 1 - 1) (48 + n0 / 10)) _ _ hP hD hS rfl (gc_end (p := n1 - 1 - 1) (by rw [dgs_2 (by omega) (by omega)]; show _ = n1 - 2; omega) (by rw [dgs_2 (by omega) (by omega)]; exact dw_c (by simp only [upn, ↓reduceIte] <;> (repeat' split) <;> omega) (dw_1 (by simp only [upn, ↓reduceIte] <;> (repeat' split) <;> omega))) (fun j hj => by simp only [upn]; (repeat' split) <;> first | rfl | omega) (fun j => by have := ht j; simp only [upn]; (repeat' split) <;> omega)) dJ6_getChars_ba4f3_120
          · exact absurd c_6 (by omega)
      · skip
        have hd3 : 3 ≤ (dgs n0).length := dgs_ge (k := 2) (by decide) (by omega)
        refine lv_iload_n hx hb dJ6_getChars_ba4f3_28 rfl (lv_at hl 0 rfl) ?_
        refine lv_bipush (v := nI 100) hx hb dJ6_getChars_ba4f3_29 (by decide) ?_
        refine lv_idiv hx hb dJ6_getChars_ba4f3_31 (by decide) ?_
        refine tp_i (sb_ndiv (w := n0) (by omega)) ?_
        refine lv_istore_n (lv' := [(3, .int (-nI (n0 / 100))), (0, .int (-nI n0)), (6, .int (nI 0)), (5, .int (nI n1)), (1, .int (nI n1)), (2, .ref v)]) hx hb dJ6_getChars_ba4f3_32 rfl hl (by decide) rfl (fun ls hl => ?_)
        refine lv_iload_n hx hb dJ6_getChars_ba4f3_33 rfl (lv_at hl 0 rfl) ?_
        refine lv_bipush (v := nI 100) hx hb dJ6_getChars_ba4f3_34 (by decide) ?_
        refine lv_imul hx hb dJ6_getChars_ba4f3_36 ?_
        refine lv_iload_n hx hb dJ6_getChars_ba4f3_37 rfl (lv_at hl 1 rfl) ?_
        refine lv_isub hx hb dJ6_getChars_ba4f3_38 ?_
        refine tp_i (sb_nrem (w := n0) (by omega)) ?_
        refine lv_istore (lv' := [(4, .int (nI (n0 % 100))), (3, .int (-nI (n0 / 100))), (0, .int (-nI n0)), (6, .int (nI 0)), (5, .int (nI n1)), (1, .int (nI n1)), (2, .ref v)]) hx hb dJ6_getChars_ba4f3_39 hl (by decide) rfl (fun ls hl => ?_)
        refine lv_iload_n hx hb dJ6_getChars_ba4f3_41 rfl (lv_at hl 1 rfl) ?_
        refine lv_istore_n (lv' := [(0, .int (-nI (n0 / 100))), (4, .int (nI (n0 % 100))), (3, .int (-nI (n0 / 100))), (6, .int (nI 0)), (5, .int (nI n1)), (1, .int (nI n1)), (2, .ref v)]) hx hb dJ6_getChars_ba4f3_42 rfl hl (by decide) rfl (fun ls hl => ?_)
        refine lv_aload_n hx hb dJ6_getChars_ba4f3_43 rfl (lv_at hl 6 rfl) ?_
        refine lv_iinc (v := nI (n1 - 1)) (lv' := [(5, .int (nI (n1 - 1))), (0, .int (-nI (n0 / 100))), (4, .int (nI (n0 % 100))), (3, .int (-nI (n0 / 100))), (6, .int (nI 0)), (1, .int (nI n1)), (2, .ref v)]) hx hb dJ6_getChars_ba4f3_44 hl (k := 4) rfl (by rw [show Int32.ofInt (-1) = -nI 1 from by decide, ← Int32.sub_eq_add_neg]; exact pk_sub (by omega)) (by decide) rfl (fun ls hl => ?_)
        refine lv_iload hx hb dJ6_getChars_ba4f3_47 (lv_at hl 0 rfl) ?_
        refine va_gets hx hb hZ.2.2.2.2.2.2.1.1 hS hown (hts _ q840) (fun _ h => h) dJ6_getChars_ba4f3_49 ?_
        refine lv_iload hx hb dJ6_getChars_ba4f3_52 (lv_at hl 2 rfl) ?_
        refine va_tb hx hb hZ.2.2.2.2.2.2.1.2 hS (vp_in_nI (show n0 % 100 < 100 by omega) (by decide)) (v := .int (nI (48 + (n0 % 100) % 10))) (by rw [nI_clamp (by omega)]) dJ6_getChars_ba4f3_54 ?_
        refine nv_bast (f := t) (i := n1 - 1) (v := 48 + (n0 % 100) % 10) (n := cp) hx hb hK hP hD hS 0 2 rfl rfl (by omega) (by omega) (by omega) dJ6_getChars_ba4f3_55 (fun H locs hP hD hS => ?_)
        have hP : va_P E.1 vwCl ([baC E v cp (upn t (n1 - 1) (48 + (n0 % 100) % 10))] : List va_W).flatten H := hP
        have hD : va_D A ([baC E v cp (upn t (n1 - 1) (48 + (n0 % 100) % 10))] : List va_W).flatten := hD
        refine lv_aload_n hx hb dJ6_getChars_ba4f3_56 rfl (lv_at hl 6 rfl) ?_
        refine lv_iinc (v := nI (n1 - 1 - 1)) (lv' := [(5, .int (nI (n1 - 1 - 1))), (0, .int (-nI (n0 / 100))), (4, .int (nI (n0 % 100))), (3, .int (-nI (n0 / 100))), (6, .int (nI 0)), (1, .int (nI n1)), (2, .ref v)]) hx hb dJ6_getChars_ba4f3_57 hl (k := 0) rfl (by rw [show Int32.ofInt (-1) = -nI 1 from by decide, ← Int32.sub_eq_add_neg]; exact pk_sub (by omega)) (by decide) rfl (fun ls hl => ?_)
        refine lv_iload hx hb dJ6_getChars_ba4f3_60 (lv_at hl 0 rfl) ?_
        refine va_gets hx hb hZ.2.2.2.2.2.2.2.1 hS hown (hts _ q842) (fun _ h => h) dJ6_getChars_ba4f3_62 ?_
        refine lv_iload hx hb dJ6_getChars_ba4f3_65 (lv_at hl 2 rfl) ?_
        refine va_tb hx hb hZ.2.2.2.2.2.2.2.2 hS (vp_in_nI (show n0 % 100 < 100 by omega) (by decide)) (v := .int (nI (48 + (n0 % 100) / 10))) (by rw [nI_clamp (by omega)]) dJ6_getChars_ba4f3_67 ?_
        refine nv_bast (f := (upn t (n1 - 1) (48 + (n0 % 100) % 10))) (i := n1 - 1 - 1) (v := 48 + (n0 % 100) / 10) (n := cp) hx hb hK hP hD hS 0 2 rfl rfl (by omega) (by omega) (by omega) dJ6_getChars_ba4f3_68 (fun H locs hP hD hS => ?_)
        have hP : va_P E.1 vwCl ([baC E v cp (upn (upn t (n1 - 1) (48 + (n0 % 100) % 10)) (n1 - 1 - 1) (48 + (n0 % 100) / 10))] : List va_W).flatten H := hP
        have hD : va_D A ([baC E v cp (upn (upn t (n1 - 1) (48 + (n0 % 100) % 10)) (n1 - 1 - 1) (48 + (n0 % 100) / 10))] : List va_W).flatten := hD
        refine lv_goto (tgt := 22) hx hb dJ6_getChars_ba4f3_69 (by decide) ?_
        refine lv_iload_n hx hb dJ6_getChars_ba4f3_22 rfl (lv_at hl 1 rfl) ?_
        refine lv_bipush (v := -100) hx hb dJ6_getChars_ba4f3_23 (by decide) ?_
        refine nv_icmp_gt (X := -((n0 / 100 : Nat) : Int)) (Y := (-100)) hx hb (sb_negT (by omega)) (by decide) (tgt := 72) dJ6_getChars_ba4f3_25 (by decide) (fun c_7 => ?_) (fun c_7 => ?_)
        · skip
          refine lv_aload_n hx hb dJ6_getChars_ba4f3_72 rfl (lv_at hl 6 rfl) ?_
          refine lv_iinc (v := nI (n1 - 1 - 1 - 1)) (lv' := [(5, .int (nI (n1 - 1 - 1 - 1))), (0, .int (-nI (n0 / 100))), (4, .int (nI (n0 % 100))), (3, .int (-nI (n0 / 100))), (6, .int (nI 0)), (1, .int (nI n1)), (2, .ref v)]) hx hb dJ6_getChars_ba4f3_73 hl (k := 0) rfl (by rw [show Int32.ofInt (-1) = -nI 1 from by decide, ← Int32.sub_eq_add_neg]; exact pk_sub (by omega)) (by decide) rfl (fun ls hl => ?_)
          refine lv_iload hx hb dJ6_getChars_ba4f3_76 (lv_at hl 0 rfl) ?_
          refine va_gets hx hb hZ.2.2.2.2.2.2.1.1 hS hown (hts _ q840) (fun _ h => h) dJ6_getChars_ba4f3_78 ?_
          refine lv_iload_n hx hb dJ6_getChars_ba4f3_81 rfl (lv_at hl 1 rfl) ?_
          refine lv_ineg hx hb dJ6_getChars_ba4f3_82 ?_
          refine tp_i (show - -nI (n0 / 100) = nI (n0 / 100) from Int32.neg_neg) ?_
          refine va_tb hx hb hZ.2.2.2.2.2.2.1.2 hS (vp_in_nI (show n0 / 100 < 100 by omega) (by decide)) (v := .int (nI (48 + (n0 / 100) % 10))) (by rw [nI_clamp (by omega)]) dJ6_getChars_ba4f3_83 ?_
          refine nv_bast (f := (upn (upn t (n1 - 1) (48 + (n0 % 100) % 10)) (n1 - 1 - 1) (48 + (n0 % 100) / 10))) (i := n1 - 1 - 1 - 1) (v := 48 + (n0 / 100) % 10) (n := cp) hx hb hK hP hD hS 0 2 rfl rfl (by omega) (by omega) (by omega) dJ6_getChars_ba4f3_84 (fun H locs hP hD hS => ?_)
          have hP : va_P E.1 vwCl ([baC E v cp (upn (upn (upn t (n1 - 1) (48 + (n0 % 100) % 10)) (n1 - 1 - 1) (48 + (n0 % 100) / 10)) (n1 - 1 - 1 - 1) (48 + (n0 / 100) % 10))] : List va_W).flatten H := hP
          have hD : va_D A ([baC E v cp (upn (upn (upn t (n1 - 1) (48 + (n0 % 100) % 10)) (n1 - 1 - 1) (48 + (n0 % 100) / 10)) (n1 - 1 - 1 - 1) (48 + (n0 / 100) % 10))] : List va_W).flatten := hD
          refine lv_iload_n hx hb dJ6_getChars_ba4f3_85 rfl (lv_at hl 1 rfl) ?_
          refine lv_bipush (v := -9) hx hb dJ6_getChars_ba4f3_86 (by decide) ?_
          refine nv_icmp_ge (X := -((n0 / 100 : Nat) : Int)) (Y := (-9)) hx hb (sb_negT (by omega)) (by decide) (tgt := 104) dJ6_getChars_ba4f3_88 (by decide) (fun c_8 => ?_) (fun c_8 => ?_)
          · skip
            refine lv_iload hx hb dJ6_getChars_ba4f3_104 (lv_at hl 4 rfl) ?_
            refine nv_if_eq (X := ((0 : Nat) : Int)) hx hb (nI_toInt (by omega)) (tgt := 118) dJ6_getChars_ba4f3_106 (by decide) (fun c_9 => ?_) (fun c_9 => ?_)
            · skip
              refine lv_iload hx hb dJ6_getChars_ba4f3_118 (lv_at hl 0 rfl) ?_
              exact hret _ _ (nI (n1 - 1 - 1 - 1)) (upn (upn (upn t (n1 - 1) (48 + (n0 % 100) % 10)) (n1 - 1 - 1) (48 + (n0 % 100) / 10)) (n1 - 1 - 1 - 1) (48 + (n0 / 100) % 10)) _ _ hP hD hS rfl (gc_end (p := n1 - 1 - 1 - 1) (by rw [dgs_3 (by omega) (by omega)]; show _ = n1 - 3; omega) (by rw [dgs_3 (by omega) (by omega)]; exact dw_c (by simp only [upn, ↓reduceIte] <;> (repeat' split) <;> omega) (dw_c (by simp only [upn, ↓reduceIte] <;> (repeat' split) <;> omega) (dw_1 (by simp only [upn, ↓reduceIte] <;> (repeat' split) <;> omega)))) (fun j hj => by simp only [upn]; (repeat' split) <;> first | rfl | omega) (fun j => by have := ht j; simp only [upn]; (repeat' split) <;> omega)) dJ6_getChars_ba4f3_120
            · exact absurd c_9 (by omega)
          · skip
            have hd4 : 4 ≤ (dgs n0).length := dgs_ge (k := 3) (by decide) (by omega)
            refine lv_aload_n hx hb dJ6_getChars_ba4f3_91 rfl (lv_at hl 6 rfl) ?_
            refine lv_iinc (v := nI (n1 - 1 - 1 - 1 - 1)) (lv' := [(5, .int (nI (n1 - 1 - 1 - 1 - 1))), (0, .int (-nI (n0 / 100))), (4, .int (nI (n0 % 100))), (3, .int (-nI (n0 / 100))), (6, .int (nI 0)), (1, .int (nI n1)), (2, .ref v)]) hx hb dJ6_getChars_ba4f3_92 hl (k := 0) rfl (by rw [show Int32.ofInt (-1) = -nI 1 from by decide, ← Int32.sub_eq_add_neg]; exact pk_sub (by omega)) (by decide) rfl (fun ls hl => ?_)
            refine lv_iload hx hb dJ6_getChars_ba4f3_95 (lv_at hl 0 rfl) ?_
            refine va_gets hx hb hZ.2.2.2.2.2.2.2.1 hS hown (hts _ q842) (fun _ h => h) dJ6_getChars_ba4f3_97 ?_
            refine lv_iload_n hx hb dJ6_getChars_ba4f3_100 rfl (lv_at hl 1 rfl) ?_
            refine lv_ineg hx hb dJ6_getChars_ba4f3_101 ?_
            refine tp_i (show - -nI (n0 / 100) = nI (n0 / 100) from Int32.neg_neg) ?_
            refine va_tb hx hb hZ.2.2.2.2.2.2.2.2 hS (vp_in_nI (show n0 / 100 < 100 by omega) (by decide)) (v := .int (nI (48 + (n0 / 100) / 10))) (by rw [nI_clamp (by omega)]) dJ6_getChars_ba4f3_102 ?_
            refine nv_bast (f := (upn (upn (upn t (n1 - 1) (48 + (n0 % 100) % 10)) (n1 - 1 - 1) (48 + (n0 % 100) / 10)) (n1 - 1 - 1 - 1) (48 + (n0 / 100) % 10))) (i := n1 - 1 - 1 - 1 - 1) (v := 48 + (n0 / 100) / 10) (n := cp) hx hb hK hP hD hS 0 2 rfl rfl (by omega) (by omega) (by omega) dJ6_getChars_ba4f3_103 (fun H locs hP hD hS => ?_)
            have hP : va_P E.1 vwCl ([baC E v cp (upn (upn (upn (upn t (n1 - 1) (48 + (n0 % 100) % 10)) (n1 - 1 - 1) (48 + (n0 % 100) / 10)) (n1 - 1 - 1 - 1) (48 + (n0 / 100) % 10)) (n1 - 1 - 1 - 1 - 1) (48 + (n0 / 100) / 10))] : List va_W).flatten H := hP
            have hD : va_D A ([baC E v cp (upn (upn (upn (upn t (n1 - 1) (48 + (n0 % 100) % 10)) (n1 - 1 - 1) (48 + (n0 % 100) / 10)) (n1 - 1 - 1 - 1) (48 + (n0 / 100) % 10)) (n1 - 1 - 1 - 1 - 1) (48 + (n0 / 100) / 10))] : List va_W).flatten := hD
            refine lv_iload hx hb dJ6_getChars_ba4f3_104 (lv_at hl 4 rfl) ?_
            refine nv_if_eq (X := ((0 : Nat) : Int)) hx hb (nI_toInt (by omega)) (tgt := 118) dJ6_getChars_ba4f3_106 (by decide) (fun c_10 => ?_) (fun c_10 => ?_)
            · skip
              refine lv_iload hx hb dJ6_getChars_ba4f3_118 (lv_at hl 0 rfl) ?_
              exact hret _ _ (nI (n1 - 1 - 1 - 1 - 1)) (upn (upn (upn (upn t (n1 - 1) (48 + (n0 % 100) % 10)) (n1 - 1 - 1) (48 + (n0 % 100) / 10)) (n1 - 1 - 1 - 1) (48 + (n0 / 100) % 10)) (n1 - 1 - 1 - 1 - 1) (48 + (n0 / 100) / 10)) _ _ hP hD hS rfl (gc_end (p := n1 - 1 - 1 - 1 - 1) (by rw [dgs_4 (by omega) (by omega)]; show _ = n1 - 4; omega) (by rw [dgs_4 (by omega) (by omega)]; exact dw_c (by simp only [upn, ↓reduceIte] <;> (repeat' split) <;> omega) (dw_c (by simp only [upn, ↓reduceIte] <;> (repeat' split) <;> omega) (dw_c (by simp only [upn, ↓reduceIte] <;> (repeat' split) <;> omega) (dw_1 (by simp only [upn, ↓reduceIte] <;> (repeat' split) <;> omega))))) (fun j hj => by simp only [upn]; (repeat' split) <;> first | rfl | omega) (fun j => by have := ht j; simp only [upn]; (repeat' split) <;> omega)) dJ6_getChars_ba4f3_120
            · exact absurd c_10 (by omega)
        · skip
          have hd5 : 5 ≤ (dgs n0).length := dgs_ge (k := 4) (by decide) (by omega)
          refine lv_iload_n hx hb dJ6_getChars_ba4f3_28 rfl (lv_at hl 1 rfl) ?_
          refine lv_bipush (v := nI 100) hx hb dJ6_getChars_ba4f3_29 (by decide) ?_
          refine lv_idiv hx hb dJ6_getChars_ba4f3_31 (by decide) ?_
          refine tp_i (sb_ndiv (w := n0 / 100) (by omega)) ?_
          refine lv_istore_n (lv' := [(3, .int (-nI ((n0 / 100) / 100))), (5, .int (nI (n1 - 1 - 1))), (0, .int (-nI (n0 / 100))), (4, .int (nI (n0 % 100))), (6, .int (nI 0)), (1, .int (nI n1)), (2, .ref v)]) hx hb dJ6_getChars_ba4f3_32 rfl hl (by decide) rfl (fun ls hl => ?_)
          refine lv_iload_n hx hb dJ6_getChars_ba4f3_33 rfl (lv_at hl 0 rfl) ?_
          refine lv_bipush (v := nI 100) hx hb dJ6_getChars_ba4f3_34 (by decide) ?_
          refine lv_imul hx hb dJ6_getChars_ba4f3_36 ?_
          refine lv_iload_n hx hb dJ6_getChars_ba4f3_37 rfl (lv_at hl 2 rfl) ?_
          refine lv_isub hx hb dJ6_getChars_ba4f3_38 ?_
          refine tp_i (sb_nrem (w := n0 / 100) (by omega)) ?_
          refine lv_istore (lv' := [(4, .int (nI ((n0 / 100) % 100))), (3, .int (-nI ((n0 / 100) / 100))), (5, .int (nI (n1 - 1 - 1))), (0, .int (-nI (n0 / 100))), (6, .int (nI 0)), (1, .int (nI n1)), (2, .ref v)]) hx hb dJ6_getChars_ba4f3_39 hl (by decide) rfl (fun ls hl => ?_)
          refine lv_iload_n hx hb dJ6_getChars_ba4f3_41 rfl (lv_at hl 1 rfl) ?_
          refine lv_istore_n (lv' := [(0, .int (-nI ((n0 / 100) / 100))), (4, .int (nI ((n0 / 100) % 100))), (3, .int (-nI ((n0 / 100) / 100))), (5, .int (nI (n1 - 1 - 1))), (6, .int (nI 0)), (1, .int (nI n1)), (2, .ref v)]) hx hb dJ6_getChars_ba4f3_42 rfl hl (by decide) rfl (fun ls hl => ?_)
          refine lv_aload_n hx hb dJ6_getChars_ba4f3_43 rfl (lv_at hl 6 rfl) ?_
          refine lv_iinc (v := nI (n1 - 1 - 1 - 1)) (lv' := [(5, .int (nI (n1 - 1 - 1 - 1))), (0, .int (-nI ((n0 / 100) / 100))), (4, .int (nI ((n0 / 100) % 100))), (3, .int (-nI ((n0 / 100) / 100))), (6, .int (nI 0)), (1, .int (nI n1)), (2, .ref v)]) hx hb dJ6_getChars_ba4f3_44 hl (k := 3) rfl (by rw [show Int32.ofInt (-1) = -nI 1 from by decide, ← Int32.sub_eq_add_neg]; exact pk_sub (by omega)) (by decide) rfl (fun ls hl => ?_)
          refine lv_iload hx hb dJ6_getChars_ba4f3_47 (lv_at hl 0 rfl) ?_
          refine va_gets hx hb hZ.2.2.2.2.2.2.1.1 hS hown (hts _ q840) (fun _ h => h) dJ6_getChars_ba4f3_49 ?_
          refine lv_iload hx hb dJ6_getChars_ba4f3_52 (lv_at hl 2 rfl) ?_
          refine va_tb hx hb hZ.2.2.2.2.2.2.1.2 hS (vp_in_nI (show (n0 / 100) % 100 < 100 by omega) (by decide)) (v := .int (nI (48 + ((n0 / 100) % 100) % 10))) (by rw [nI_clamp (by omega)]) dJ6_getChars_ba4f3_54 ?_
          refine nv_bast (f := (upn (upn t (n1 - 1) (48 + (n0 % 100) % 10)) (n1 - 1 - 1) (48 + (n0 % 100) / 10))) (i := n1 - 1 - 1 - 1) (v := 48 + ((n0 / 100) % 100) % 10) (n := cp) hx hb hK hP hD hS 0 2 rfl rfl (by omega) (by omega) (by omega) dJ6_getChars_ba4f3_55 (fun H locs hP hD hS => ?_)
          have hP : va_P E.1 vwCl ([baC E v cp (upn (upn (upn t (n1 - 1) (48 + (n0 % 100) % 10)) (n1 - 1 - 1) (48 + (n0 % 100) / 10)) (n1 - 1 - 1 - 1) (48 + ((n0 / 100) % 100) % 10))] : List va_W).flatten H := hP
          have hD : va_D A ([baC E v cp (upn (upn (upn t (n1 - 1) (48 + (n0 % 100) % 10)) (n1 - 1 - 1) (48 + (n0 % 100) / 10)) (n1 - 1 - 1 - 1) (48 + ((n0 / 100) % 100) % 10))] : List va_W).flatten := hD
          refine lv_aload_n hx hb dJ6_getChars_ba4f3_56 rfl (lv_at hl 6 rfl) ?_
          refine lv_iinc (v := nI (n1 - 1 - 1 - 1 - 1)) (lv' := [(5, .int (nI (n1 - 1 - 1 - 1 - 1))), (0, .int (-nI ((n0 / 100) / 100))), (4, .int (nI ((n0 / 100) % 100))), (3, .int (-nI ((n0 / 100) / 100))), (6, .int (nI 0)), (1, .int (nI n1)), (2, .ref v)]) hx hb dJ6_getChars_ba4f3_57 hl (k := 0) rfl (by rw [show Int32.ofInt (-1) = -nI 1 from by decide, ← Int32.sub_eq_add_neg]; exact pk_sub (by omega)) (by decide) rfl (fun ls hl => ?_)
          refine lv_iload hx hb dJ6_getChars_ba4f3_60 (lv_at hl 0 rfl) ?_
          refine va_gets hx hb hZ.2.2.2.2.2.2.2.1 hS hown (hts _ q842) (fun _ h => h) dJ6_getChars_ba4f3_62 ?_
          refine lv_iload hx hb dJ6_getChars_ba4f3_65 (lv_at hl 2 rfl) ?_
          refine va_tb hx hb hZ.2.2.2.2.2.2.2.2 hS (vp_in_nI (show (n0 / 100) % 100 < 100 by omega) (by decide)) (v := .int (nI (48 + ((n0 / 100) % 100) / 10))) (by rw [nI_clamp (by omega)]) dJ6_getChars_ba4f3_67 ?_
          refine nv_bast (f := (upn (upn (upn t (n1 - 1) (48 + (n0 % 100) % 10)) (n1 - 1 - 1) (48 + (n0 % 100) / 10)) (n1 - 1 - 1 - 1) (48 + ((n0 / 100) % 100) % 10))) (i := n1 - 1 - 1 - 1 - 1) (v := 48 + ((n0 / 100) % 100) / 10) (n := cp) hx hb hK hP hD hS 0 2 rfl rfl (by omega) (by omega) (by omega) dJ6_getChars_ba4f3_68 (fun H locs hP hD hS => ?_)
          have hP : va_P E.1 vwCl ([baC E v cp (upn (upn (upn (upn t (n1 - 1) (48 + (n0 % 100) % 10)) (n1 - 1 - 1) (48 + (n0 % 100) / 10)) (n1 - 1 - 1 - 1) (48 + ((n0 / 100) % 100) % 10)) (n1 - 1 - 1 - 1 - 1) (48 + ((n0 / 100) % 100) / 10))] : List va_W).flatten H := hP
          have hD : va_D A ([baC E v cp (upn (upn (upn (upn t (n1 - 1) (48 + (n0 % 100) % 10)) (n1 - 1 - 1) (48 + (n0 % 100) / 10)) (n1 - 1 - 1 - 1) (48 + ((n0 / 100) % 100) % 10)) (n1 - 1 - 1 - 1 - 1) (48 + ((n0 / 100) % 100) / 10))] : List va_W).flatten := hD
          refine lv_goto (tgt := 22) hx hb dJ6_getChars_ba4f3_69 (by decide) ?_
          refine lv_iload_n hx hb dJ6_getChars_ba4f3_22 rfl (lv_at hl 1 rfl) ?_
          refine lv_bipush (v := -100) hx hb dJ6_getChars_ba4f3_23 (by decide) ?_
          refine nv_icmp_gt (X := -(((n0 / 100) / 100 : Nat) : Int)) (Y := (-100)) hx hb (sb_negT (by omega)) (by decide) (tgt := 72) dJ6_getChars_ba4f3_25 (by decide) (fun c_11 => ?_) (fun c_11 => ?_)
          · skip
            refine lv_aload_n hx hb dJ6_getChars_ba4f3_72 rfl (lv_at hl 6 rfl) ?_
            refine lv_iinc (v := nI (n1 - 1 - 1 - 1 - 1 - 1)) (lv' := [(5, .int (nI (n1 - 1 - 1 - 1 - 1 - 1))), (0, .int (-nI ((n0 / 100) / 100))), (4, .int (nI ((n0 / 100) % 100))), (3, .int (-nI ((n0 / 100) / 100))), (6, .int (nI 0)), (1, .int (nI n1)), (2, .ref v)]) hx hb dJ6_getChars_ba4f3_73 hl (k := 0) rfl (by rw [show Int32.ofInt (-1) = -nI 1 from by decide, ← Int32.sub_eq_add_neg]; exact pk_sub (by omega)) (by decide) rfl (fun ls hl => ?_)
            refine lv_iload hx hb dJ6_getChars_ba4f3_76 (lv_at hl 0 rfl) ?_
            refine va_gets hx hb hZ.2.2.2.2.2.2.1.1 hS hown (hts _ q840) (fun _ h => h) dJ6_getChars_ba4f3_78 ?_
            refine lv_iload_n hx hb dJ6_getChars_ba4f3_81 rfl (lv_at hl 1 rfl) ?_
            refine lv_ineg hx hb dJ6_getChars_ba4f3_82 ?_
            refine tp_i (show - -nI ((n0 / 100) / 100) = nI ((n0 / 100) / 100) from Int32.neg_neg) ?_
            refine va_tb hx hb hZ.2.2.2.2.2.2.1.2 hS (vp_in_nI (show (n0 / 100) / 100 < 100 by omega) (by decide)) (v := .int (nI (48 + ((n0 / 100) / 100) % 10))) (by rw [nI_clamp (by omega)]) dJ6_getChars_ba4f3_83 ?_
            refine nv_bast (f := (upn (upn (upn (upn t (n1 - 1) (48 + (n0 % 100) % 10)) (n1 - 1 - 1) (48 + (n0 % 100) / 10)) (n1 - 1 - 1 - 1) (48 + ((n0 / 100) % 100) % 10)) (n1 - 1 - 1 - 1 - 1) (48 + ((n0 / 100) % 100) / 10))) (i := n1 - 1 - 1 - 1 - 1 - 1) (v := 48 + ((n0 / 100) / 100) % 10) (n := cp) hx hb hK hP hD hS 0 2 rfl rfl (by omega) (by omega) (by omega) dJ6_getChars_ba4f3_84 (fun H locs hP hD hS => ?_)
            have hP : va_P E.1 vwCl ([baC E v cp (upn (upn (upn (upn (upn t (n1 - 1) (48 + (n0 % 100) % 10)) (n1 - 1 - 1) (48 + (n0 % 100) / 10)) (n1 - 1 - 1 - 1) (48 + ((n0 / 100) % 100) % 10)) (n1 - 1 - 1 - 1 - 1) (48 + ((n0 / 100) % 100) / 10)) (n1 - 1 - 1 - 1 - 1 - 1) (48 + ((n0 / 100) / 100) % 10))] : List va_W).flatten H := hP
            have hD : va_D A ([baC E v cp (upn (upn (upn (upn (upn t (n1 - 1) (48 + (n0 % 100) % 10)) (n1 - 1 - 1) (48 + (n0 % 100) / 10)) (n1 - 1 - 1 - 1) (48 + ((n0 / 100) % 100) % 10)) (n1 - 1 - 1 - 1 - 1) (48 + ((n0 / 100) % 100) / 10)) (n1 - 1 - 1 - 1 - 1 - 1) (48 + ((n0 / 100) / 100) % 10))] : List va_W).flatten := hD
            refine lv_iload_n hx hb dJ6_getChars_ba4f3_85 rfl (lv_at hl 1 rfl) ?_
            refine lv_bipush (v := -9) hx hb dJ6_getChars_ba4f3_86 (by decide) ?_
            refine nv_icmp_ge (X := -(((n0 / 100) / 100 : Nat) : Int)) (Y := (-9)) hx hb (sb_negT (by omega)) (by decide) (tgt := 104) dJ6_getChars_ba4f3_88 (by decide) (fun c_12 => ?_) (fun c_12 => ?_)
            · skip
              refine lv_iload hx hb dJ6_getChars_ba4f3_104 (lv_at hl 4 rfl) ?_
              refine nv_if_eq (X := ((0 : Nat) : Int)) hx hb (nI_toInt (by omega)) (tgt := 118) dJ6_getChars_ba4f3_106 (by decide) (fun c_13 => ?_) (fun c_13 => ?_)
              · skip
                refine lv_iload hx hb dJ6_getChars_ba4f3_118 (lv_at hl 0 rfl) ?_
                exact hret _ _ (nI (n1 - 1 - 1 - 1 - 1 - 1)) (upn (upn (upn (upn (upn t (n1 - 1) (48 + (n0 % 100) % 10)) (n1 - 1 - 1) (48 + (n0 % 100) / 10)) (n1 - 1 - 1 - 1) (48 + ((n0 / 100) % 100) % 10)) (n1 - 1 - 1 - 1 - 1) (48 + ((n0 / 100) % 100) / 10)) (n1 - 1 - 1 - 1 - 1 - 1) (48 + ((n0 / 100) / 100) % 10)) _ _ hP hD hS rfl (gc_end (p := n1 - 1 - 1 - 1 - 1 - 1) (by rw [dgs_5 (by omega) (by omega)]; show _ = n1 - 5; omega) (by rw [dgs_5 (by omega) (by omega)]; exact dw_c (by simp only [upn, ↓reduceIte] <;> (repeat' split) <;> omega) (dw_c (by simp only [upn, ↓reduceIte] <;> (repeat' split) <;> omega) (dw_c (by simp only [upn, ↓reduceIte] <;> (repeat' split) <;> omega) (dw_c (by simp only [upn, ↓reduceIte] <;> (repeat' split) <;> omega) (dw_1 (by simp only [upn, ↓reduceIte] <;> (repeat' split) <;> omega)))))) (fun j hj => by simp only [upn]; (repeat' split) <;> first | rfl | omega) (fun j => by have := ht j; simp only [upn]; (repeat' split) <;> omega)) dJ6_getChars_ba4f3_120
              · exact absurd c_13 (by omega)
            · skip
              have hd6 : 6 ≤ (dgs n0).length := dgs_ge (k := 5) (by decide) (by omega)
              refine lv_aload_n hx hb dJ6_getChars_ba4f3_91 rfl (lv_at hl 6 rfl) ?_
              refine lv_iinc (v := nI (n1 - 1 - 1 - 1 - 1 - 1 - 1)) (lv' := [(5, .int (nI (n1 - 1 - 1 - 1 - 1 - 1 - 1))), (0, .int (-nI ((n0 / 100) / 100))), (4, .int (nI ((n0 / 100) % 100))), (3, .int (-nI ((n0 / 100) / 100))), (6, .int (nI 0)), (1, .int (nI n1)), (2, .ref v)]) hx hb dJ6_getChars_ba4f3_92 hl (k := 0) rfl (by rw [show Int32.ofInt (-1) = -nI 1 from by decide, ← Int32.sub_eq_add_neg]; exact pk_sub (by omega)) (by decide) rfl (fun ls hl => ?_)
              refine lv_iload hx hb dJ6_getChars_ba4f3_95 (lv_at hl 0 rfl) ?_
              refine va_gets hx hb hZ.2.2.2.2.2.2.2.1 hS hown (hts _ q842) (fun _ h => h) dJ6_getChars_ba4f3_97 ?_
              refine lv_iload_n hx hb dJ6_getChars_ba4f3_100 rfl (lv_at hl 1 rfl) ?_
              refine lv_ineg hx hb dJ6_getChars_ba4f3_101 ?_
              refine tp_i (show - -nI ((n0 / 100) / 100) = nI ((n0 / 100) / 100) from Int32.neg_neg) ?_
              refine va_tb hx hb hZ.2.2.2.2.2.2.2.2 hS (vp_in_nI (show (n0 / 100) / 100 < 100 by omega) (by decide)) (v := .int (nI (48 + ((n0 / 100) / 100) / 10))) (by rw [nI_clamp (by omega)]) dJ6_getChars_ba4f3_102 ?_
              refine nv_bast (f := (upn (upn (upn (upn (upn t (n1 - 1) (48 + (n0 % 100) % 10)) (n1 - 1 - 1) (48 + (n0 % 100) / 10)) (n1 - 1 - 1 - 1) (48 + ((n0 / 100) % 100) % 10)) (n1 - 1 - 1 - 1 - 1) (48 + ((n0 / 100) % 100) / 10)) (n1 - 1 - 1 - 1 - 1 - 1) (48 + ((n0 / 100) / 100) % 10))) (i := n1 - 1 - 1 - 1 - 1 - 1 - 1) (v := 48 + ((n0 / 100) / 100) / 10) (n := cp) hx hb hK hP hD hS 0 2 rfl rfl (by omega) (by omega) (by omega) dJ6_getChars_ba4f3_103 (fun H locs hP hD hS => ?_)
              have hP : va_P E.1 vwCl ([baC E v cp (upn (upn (upn (upn (upn (upn t (n1 - 1) (48 + (n0 % 100) % 10)) (n1 - 1 - 1) (48 + (n0 % 100) / 10)) (n1 - 1 - 1 - 1) (48 + ((n0 / 100) % 100) % 10)) (n1 - 1 - 1 - 1 - 1) (48 + ((n0 / 100) % 100) / 10)) (n1 - 1 - 1 - 1 - 1 - 1) (48 + ((n0 / 100) / 100) % 10)) (n1 - 1 - 1 - 1 - 1 - 1 - 1) (48 + ((n0 / 100) / 100) / 10))] : List va_W).flatten H := hP
              have hD : va_D A ([baC E v cp (upn (upn (upn (upn (upn (upn t (n1 - 1) (48 + (n0 % 100) % 10)) (n1 - 1 - 1) (48 + (n0 % 100) / 10)) (n1 - 1 - 1 - 1) (48 + ((n0 / 100) % 100) % 10)) (n1 - 1 - 1 - 1 - 1) (48 + ((n0 / 100) % 100) / 10)) (n1 - 1 - 1 - 1 - 1 - 1) (48 + ((n0 / 100) / 100) % 10)) (n1 - 1 - 1 - 1 - 1 - 1 - 1) (48 + ((n0 / 100) / 100) / 10))] : List va_W).flatten := hD
              refine lv_iload hx hb dJ6_getChars_ba4f3_104 (lv_at hl 4 rfl) ?_
              refine nv_if_eq (X := ((0 : Nat) : Int)) hx hb (nI_toInt (by omega)) (tgt := 118) dJ6_getChars_ba4f3_106 (by decide) (fun c_14 => ?_) (fun c_14 => ?_)
              · skip
                refine lv_iload hx hb dJ6_getChars_ba4f3_118 (lv_at hl 0 rfl) ?_
                exact hret _ _ (nI (n1 - 1 - 1 - 1 - 1 - 1 - 1)) (upn (upn (upn (upn (upn (upn t (n1 - 1) (48 + (n0 % 100) % 10)) (n1 - 1 - 1) (48 + (n0 % 100) / 10)) (n1 - 1 - 1 - 1) (48 + ((n0 / 100) % 100) % 10)) (n1 - 1 - 1 - 1 - 1) (48 + ((n0 / 100) % 100) / 10)) (n1 - 1 - 1 - 1 - 1 - 1) (48 + ((n0 / 100) / 100) % 10)) (n1 - 1 - 1 - 1 - 1 - 1 - 1) (48 + ((n0 / 100) / 100) / 10)) _ _ hP hD hS rfl (gc_end (p := n1 - 1 - 1 - 1 - 1 - 1 - 1) (by rw [dgs_6 (by omega)]; show _ = n1 - 6; omega) (by rw [dgs_6 (by omega)]; exact dw_c (by simp only [upn, ↓reduceIte] <;> (repeat' split) <;> omega) (dw_c (by simp only [upn, ↓reduceIte] <;> (repeat' split) <;> omega) (dw_c (by simp only [upn, ↓reduceIte] <;> (repeat' split) <;> omega) (dw_c (by simp only [upn, ↓reduceIte] <;> (repeat' split) <;> omega) (dw_c (by simp only [upn, ↓reduceIte] <;> (repeat' split) <;> omega) (dw_1 (by simp only [upn, ↓reduceIte] <;> (repeat' split) <;> omega))))))) (fun j hj => by simp only [upn]; (repeat' split) <;> first | rfl | omega) (fun j => by have := ht j; simp only [upn]; (repeat' split) <;> omega)) dJ6_getChars_ba4f3_120
              · exact absurd c_14 (by omega)
          · exact absurd c_11 (by omega)
  · exact absurd c_1 (by omega)
