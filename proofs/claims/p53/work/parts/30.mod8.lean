/-! the reference's calls, as a whole -/
def voR (g : GG) (p0 p1 : Int32) : Nat := if fMot p0 p1 = 0 then aVot g (tn p0) (tn p1) else 0
theorem voR_le {g : GG} {p0 p1 : Int32} : voR g p0 p1 ≤ 1 := by unfold voR aVot; (repeat' split) <;> omega
theorem ite1 {P : Prop} [Decidable P] {f h : Nat → Nat} {k c : Nat} (h1 : f k ≤ c) (h2 : h k ≤ c) : (if P then f else h) k ≤ c := by split; exact h1; exact h2
abbrev rm_X6_ends : Room := { frames := 1, cells := 0, slots := 0, locals := 22 }
abbrev rm_X6_addMember : Room := { frames := 2, cells := 0, slots := 0, locals := 48 }
abbrev rm_X6_wind : Room := { frames := 3, cells := 0, slots := 0, locals := 65 }
abbrev rm_X6_tune : Room := { frames := 3, cells := 0, slots := 0, locals := 66 }
abbrev rm_X6_buyShares : Room := { frames := 3, cells := 0, slots := 0, locals := 65 }
abbrev rm_X6_passBeats : Room := { frames := 4, cells := 0, slots := 0, locals := 92 }
abbrev rm_X6_endQuarter : Room := { frames := 4, cells := 0, slots := 0, locals := 93 }
abbrev rm_X6_vote : Room := { frames := 4, cells := 0, slots := 0, locals := 87 }
