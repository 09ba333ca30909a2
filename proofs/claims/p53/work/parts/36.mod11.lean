theorem z_11 {z : Nat → Nat} (h : z 11 = 0) : z = upn z 11 0 := by
  funext j; unfold upn; split
  · rename_i e; rw [e, h]
  · rfl
abbrev rm_X6_readsOne : Room := { frames := 7, cells := 0, slots := 0, locals := 155 }
