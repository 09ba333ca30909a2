abbrev rm_X6_run : Room := { frames := 8, cells := 0, slots := 0, locals := 178 }
