/-! the start: what the tables and the premises give -/
theorem idx_mem {α β : Type} {L : List β} {I : List Nat} {M : List α} {f : α → β} (h : I.map (fun i => L[i]?) = M.map (fun x => some (f x))) : ∀ x ∈ M, f x ∈ L := by
  intro x hx
  have h1 : some (f x) ∈ M.map (fun x => some (f x)) := List.mem_map_of_mem (f := fun x => some (f x)) hx
  rw [← h] at h1
  obtain ⟨i, _, hi⟩ := List.mem_map.mp h1
  exact List.mem_of_getElem? hi
theorem dt_mem {β : Type} {L M : List β} {n k : Nat} (h : (L.drop n).take k = M) : ∀ x ∈ M, x ∈ L := fun x hx => List.mem_of_mem_drop (List.mem_of_mem_take (h ▸ hx))
def FLA : List Cond := flatC (Jvm.Cond.and given_1 narrow_1)
def sFld (q : String × Nat × String) : Term := .field (.string q.1 q.2.1) "java/lang/String" "value" "[B"
def sAt (q : String × Nat × String) : List Cond := .exactly (.string q.1 q.2.1) "java/lang/String" :: .eq (.field (.string q.1 q.2.1) "java/lang/String" "coder" "B") (.int 0) :: .arrayOf (sFld q) .byte :: .eq (.length (sFld q)) (.int (Int32.ofNat q.2.2.length)) :: (List.range q.2.2.length).map (fun j => .eq (.elem (sFld q) (.int (Int32.ofNat j))) (.int ((txb q.2.2).getD j 0)))
def dgT (nm : String) : Term := .static "java/lang/Integer" nm "[B"
def dgAt (nm : String) (f : Nat → Nat) : List Cond := .arrayOf (dgT nm) .byte :: .eq (.length (dgT nm)) (.int (Int32.ofNat 100)) :: (List.range 100).map (fun j => .eq (.elem (dgT nm) (.int (Int32.ofNat j))) (.int (nI (f j))))
theorem sAt_1 : (FLA.drop 311).take 625 = (sRef.take 38).flatMap sAt := by decide +kernel
theorem sAt_2 : (FLA.drop 937).take 9 = (sRef.drop 38).flatMap sAt := by decide +kernel
theorem dg_1 : (FLA.drop 12).take 102 = dgAt "DigitOnes" (fun j => 48 + j % 10) := by decide +kernel
theorem dg_2 : (FLA.drop 115).take 102 = dgAt "DigitTens" (fun j => 48 + j / 10) := by decide +kernel
theorem sAt_ok {q : String × Nat × String} (hq : q ∈ sRef) : ∀ w ∈ sAt q, w ∈ FLA := by
  intro w hw
  rw [← List.take_append_drop 38 sRef] at hq
  rcases List.mem_append.mp hq with h | h
  · exact dt_mem sAt_1 w (List.mem_flatMap.mpr ⟨q, h, hw⟩)
  · exact dt_mem sAt_2 w (List.mem_flatMap.mpr ⟨q, h, hw⟩)
theorem nc_ok : ∀ q ∈ NCW, Cond.not (.castable q.1 q.2) ∈ FLA := idx_mem (I := [223, 225, 226, 227, 228, 229, 230, 231, 232, 239, 241, 242, 243, 244, 245, 246, 247, 248, 255, 257, 258, 259, 260, 261, 262, 269, 271, 272, 273, 274, 275, 276, 277, 278, 285, 287, 288, 289, 290, 291, 292, 293, 294, 301, 303, 304, 305, 306, 307, 308, 309, 310]) (f := fun q : String × String => Cond.not (.castable q.1 q.2)) (by decide +kernel)
theorem cb_ok : ∀ q ∈ CBW, Cond.castable q.1 q.2 ∈ lw_tbl := idx_mem (I := [482, 554, 570, 586, 627, 821, 968, 1193, 1879, 1880, 1881, 1882, 1883, 1884, 1885, 1886, 1887, 1888, 1889, 1890, 1891, 1892, 1893, 1894, 1895, 1896, 1897, 1898]) (f := fun q : String × String => Cond.castable q.1 q.2) (by decide +kernel)
theorem sr_ok : ∀ q ∈ sRef, Cond.stringRef q.1 q.2.1 q.2.2 ∈ lw_tbl := idx_mem (I := [526, 561, 577, 593, 828, 873, 881, 911, 933, 952, 999, 1022, 1023, 1024, 1025, 1026, 1027, 1028, 1097, 1118, 1126, 1134, 1156, 1316, 1354, 1355, 1356, 1363, 1393, 1411, 1423, 1800, 1811, 1812, 1817, 1818, 1819, 1820, 1821]) (f := fun q : String × Nat × String => Cond.stringRef q.1 q.2.1 q.2.2) (by decide +kernel)
theorem nb_ok : ∀ q ∈ NBW, Cond.methodLinkNest q.1 q.2.1 q.2.2.1 q.2.2.2 ∈ lw_tbl := idx_mem (I := [98, 177, 183, 197, 210, 223, 751]) (f := fun q : String × Nat × MethodName × String => Cond.methodLinkNest q.1 q.2.1 q.2.2.1 q.2.2.2) (by decide +kernel)
theorem dx_ok : ∀ X ∈ DXN, Cond.declares (Bundle.initS X) ∈ lw_tbl := idx_mem (I := [484, 486, 488]) (f := fun X : String => Cond.declares (Bundle.initS X)) (by decide +kernel)
