abbrev rm_X6_joins : Room := { frames := 1, cells := 0, slots := 0, locals := 23 }
abbrev rm_X6_winds : Room := { frames := 2, cells := 0, slots := 0, locals := 43 }
abbrev rm_X6_tunes : Room := { frames := 2, cells := 0, slots := 0, locals := 43 }
abbrev rm_X6_buys : Room := { frames := 2, cells := 0, slots := 0, locals := 43 }
abbrev rm_X6_passes : Room := { frames := 3, cells := 0, slots := 0, locals := 69 }
abbrev rm_X6_pays : Room := { frames := 3, cells := 0, slots := 0, locals := 71 }
abbrev rm_X6_votes : Room := { frames := 3, cells := 0, slots := 0, locals := 64 }
