abbrev rm_X6_two : Room := { frames := 6, cells := 0, slots := 0, locals := 132 }
