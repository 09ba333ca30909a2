abbrev rm_X6_here : Room := { frames := 0, cells := 0, slots := 0, locals := 0 }
abbrev rm_X6_says : Room := { frames := 4, cells := 0, slots := 0, locals := 85 }
abbrev rm_X6_number : Room := { frames := 5, cells := 0, slots := 0, locals := 107 }
