abbrev rm_X6_dueBeats : Room := { frames := 3, cells := 0, slots := 0, locals := 64 }
abbrev rm_X6_dueBeatsByDoubling : Room := { frames := 5, cells := 0, slots := 0, locals := 164 }
abbrev rm_X6_commonBeats : Room := { frames := 3, cells := 0, slots := 0, locals := 65 }
abbrev rm_X6_beatsUntilChorus : Room := { frames := 2, cells := 0, slots := 0, locals := 44 }
abbrev rm_X6_earningsIn : Room := { frames := 3, cells := 0, slots := 0, locals := 69 }
abbrev rm_X6_sharesInFavour : Room := { frames := 2, cells := 0, slots := 0, locals := 46 }
abbrev rm_X6_carriedTone : Room := { frames := 3, cells := 0, slots := 0, locals := 64 }
