abbrev rm_X6_remembers : Room := { frames := 0, cells := 0, slots := 0, locals := 0 }
abbrev rm_X6_save : Room := { frames := 0, cells := 0, slots := 0, locals := 0 }
abbrev rm_X6_restore : Room := { frames := 0, cells := 0, slots := 0, locals := 0 }
abbrev rm_X6_undo : Room := { frames := 1, cells := 0, slots := 0, locals := 21 }
abbrev rm_X6_changed : Room := { frames := 0, cells := 0, slots := 0, locals := 0 }
