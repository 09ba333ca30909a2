abbrev rm_X6_does : Room := { frames := 4, cells := 0, slots := 0, locals := 93 }
