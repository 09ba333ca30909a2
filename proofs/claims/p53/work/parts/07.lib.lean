/-! HELPERS: rows over natural numbers, blocks of cells, a method's start and end in one row each, calls in one row each. -/
/-- an array of natural numbers, changed at one place -/
def upn (f : Nat → Nat) (k v : Nat) : Nat → Nat := fun j => if j = k then v else f j
theorem upn_s {f : Nat → Nat} {k v : Nat} : upn f k v k = v := if_pos rfl
theorem upn_n {f : Nat → Nat} {k v j : Nat} (h : j ≠ k) : upn f k v j = f j := if_neg h
theorem upd_nI (f : Nat → Nat) (k v : Nat) : upd (fun j => nI (f j)) k (nI v) = fun j => nI (upn f k v j) := by
  funext j; unfold upd upn; split <;> rfl
/-- a table of natural numbers (rows w, places j), changed in a row / at a place -/
abbrev GG : Type := Nat → Nat → Nat
def upr (g : GG) (w : Nat) (f : Nat → Nat) : GG := fun w' => if w' = w then f else g w'
abbrev up2 (g : GG) (w k v : Nat) : GG := upr g w (upn (g w) k v)
theorem up2_s {g : GG} {w k v : Nat} : up2 g w k v w k = v := by simp [up2, upr, upn]
theorem upr_s {g : GG} {w : Nat} {f : Nat → Nat} : upr g w f w = f := if_pos rfl
theorem upr_n {g : GG} {w w' : Nat} {f : Nat → Nat} (h : w' ≠ w) : upr g w f w' = g w' := if_neg h
/-- a family, changed at one place -/
def upa {α : Type} (f : Nat → α) (k : Nat) (v : α) : Nat → α := fun j => if j = k then v else f j
def bI (b : Bool) : Int32 := if b then 1 else 0
theorem bI_t : bI true = 1 := rfl
theorem bI_f : bI false = 0 := rfl
section NV
variable {p : Program} {l : Launch} {e : Env} {R : Room} {s : State} {m : MethodId} {args : Array Value} {below : List Frame} {meth : Method} {c : Code} {H : Heap} {locs : List Loc} {cells slots : Nat} {Q : State → Prop} {cc : ByteArray} {pc : Nat} {ls : Array Slot} {rest : List Value}
theorem tp_i {x y : Int32} (h : x = y) (k : W p l e R s m args below meth c H locs cells slots Q (F0 m pc ls (.int y :: rest))) : W p l e R s m args below meth c H locs cells slots Q (F0 m pc ls (.int x :: rest)) := h ▸ k
theorem tp_l {x y : Int64} (h : x = y) (k : W p l e R s m args below meth c H locs cells slots Q (F0 m pc ls (.long y :: rest))) : W p l e R s m args below meth c H locs cells slots Q (F0 m pc ls (.long x :: rest)) := h ▸ k
theorem nv_iadd (hx : p.tables.exec = Jvm.exec) (hb : c.code = cc) {a b : Nat} (hdg : decode cc pc = .ok (.iadd, 1))
    (k : W p l e R s m args below meth c H locs cells slots Q (F0 m (pc + 1) ls (.int (nI (a + b)) :: rest))) : W p l e R s m args below meth c H locs cells slots Q (F0 m pc ls (.int (nI b) :: .int (nI a) :: rest)) :=
  lv_iadd hx hb hdg (tp_i (nI_add a b) k)
theorem nv_isub (hx : p.tables.exec = Jvm.exec) (hb : c.code = cc) {a b : Nat} (h : b ≤ a) (hdg : decode cc pc = .ok (.isub, 1))
    (k : W p l e R s m args below meth c H locs cells slots Q (F0 m (pc + 1) ls (.int (nI (a - b)) :: rest))) : W p l e R s m args below meth c H locs cells slots Q (F0 m pc ls (.int (nI b) :: .int (nI a) :: rest)) :=
  lv_isub hx hb hdg (tp_i (pk_sub h) k)
theorem nv_imul (hx : p.tables.exec = Jvm.exec) (hb : c.code = cc) {a b : Nat} (hdg : decode cc pc = .ok (.imul, 1))
    (k : W p l e R s m args below meth c H locs cells slots Q (F0 m (pc + 1) ls (.int (nI (a * b)) :: rest))) : W p l e R s m args below meth c H locs cells slots Q (F0 m pc ls (.int (nI b) :: .int (nI a) :: rest)) :=
  lv_imul hx hb hdg (tp_i (pk_mul a b) k)
theorem nv_idiv (hx : p.tables.exec = Jvm.exec) (hb : c.code = cc) {a b : Nat} (ha : a < 2 ^ 31) (h0 : 0 < b) (hb2 : b < 2 ^ 31) (hdg : decode cc pc = .ok (.idiv, 1))
    (k : W p l e R s m args below meth c H locs cells slots Q (F0 m (pc + 1) ls (.int (nI (a / b)) :: rest))) : W p l e R s m args below meth c H locs cells slots Q (F0 m pc ls (.int (nI b) :: .int (nI a) :: rest)) :=
  lv_idiv hx hb hdg (nI_ne0 h0 hb2) (tp_i (pk_div ha h0 hb2) k)
theorem nv_irem (hx : p.tables.exec = Jvm.exec) (hb : c.code = cc) {a b : Nat} (ha : a < 2 ^ 31) (h0 : 0 < b) (hb2 : b < 2 ^ 31) (hdg : decode cc pc = .ok (.irem, 1))
    (k : W p l e R s m args below meth c H locs cells slots Q (F0 m (pc + 1) ls (.int (nI (a % b)) :: rest))) : W p l e R s m args below meth c H locs cells slots Q (F0 m pc ls (.int (nI b) :: .int (nI a) :: rest)) :=
  lv_irem hx hb hdg (nI_ne0 h0 hb2) (tp_i (pk_rem ha h0 hb2) k)
/-- branches, said of the numbers -/
theorem cv_lt {x y : Int32} {X Y : Int} (hx : x.toInt = X) (hy : y.toInt = Y) : x < y ↔ X < Y := by rw [Int32.lt_iff_toInt_lt, hx, hy]
theorem cv_le {x y : Int32} {X Y : Int} (hx : x.toInt = X) (hy : y.toInt = Y) : x ≤ y ↔ X ≤ Y := by rw [Int32.le_iff_toInt_le, hx, hy]
theorem cv_eq {x y : Int32} {X Y : Int} (hx : x.toInt = X) (hy : y.toInt = Y) : x = y ↔ X = Y := by rw [← Int32.toInt_inj, hx, hy]
theorem nv_icmp_lt (hexec : p.tables.exec = Jvm.exec) (hb : c.code = cc) {x y : Int32} {X Y : Int} (hx : x.toInt = X) (hy : y.toInt = Y) {off : Int} {tgt : Nat} (hdg : decode cc pc = .ok (.if_icmp .lt off, 3)) (ht : (pc : Int) + off = (tgt : Int))
    (kt : X < Y → W p l e R s m args below meth c H locs cells slots Q (F0 m tgt ls rest)) (kf : Y ≤ X → W p l e R s m args below meth c H locs cells slots Q (F0 m (pc + 3) ls rest)) : W p l e R s m args below meth c H locs cells slots Q (F0 m pc ls (.int y :: .int x :: rest)) :=
  lv_icmp_lt hexec hb hdg ht (fun h => kt ((cv_lt hx hy).mp h)) (fun h => kf (Int.not_lt.mp (fun q => h ((cv_lt hx hy).mpr q))))
theorem nv_icmp_ge (hexec : p.tables.exec = Jvm.exec) (hb : c.code = cc) {x y : Int32} {X Y : Int} (hx : x.toInt = X) (hy : y.toInt = Y) {off : Int} {tgt : Nat} (hdg : decode cc pc = .ok (.if_icmp .ge off, 3)) (ht : (pc : Int) + off = (tgt : Int))
    (kt : Y ≤ X → W p l e R s m args below meth c H locs cells slots Q (F0 m tgt ls rest)) (kf : X < Y → W p l e R s m args below meth c H locs cells slots Q (F0 m (pc + 3) ls rest)) : W p l e R s m args below meth c H locs cells slots Q (F0 m pc ls (.int y :: .int x :: rest)) :=
  lv_icmp_ge hexec hb hdg ht (fun h => kt ((cv_le hy hx).mp h)) (fun h => kf (Int.not_le.mp (fun q => h ((cv_le hy hx).mpr q))))
theorem nv_icmp_gt (hexec : p.tables.exec = Jvm.exec) (hb : c.code = cc) {x y : Int32} {X Y : Int} (hx : x.toInt = X) (hy : y.toInt = Y) {off : Int} {tgt : Nat} (hdg : decode cc pc = .ok (.if_icmp .gt off, 3)) (ht : (pc : Int) + off = (tgt : Int))
    (kt : Y < X → W p l e R s m args below meth c H locs cells slots Q (F0 m tgt ls rest)) (kf : X ≤ Y → W p l e R s m args below meth c H locs cells slots Q (F0 m (pc + 3) ls rest)) : W p l e R s m args below meth c H locs cells slots Q (F0 m pc ls (.int y :: .int x :: rest)) :=
  lv_icmp_gt hexec hb hdg ht (fun h => kt ((cv_lt hy hx).mp h)) (fun h => kf (Int.not_lt.mp (fun q => h ((cv_lt hy hx).mpr q))))
theorem nv_icmp_le (hexec : p.tables.exec = Jvm.exec) (hb : c.code = cc) {x y : Int32} {X Y : Int} (hx : x.toInt = X) (hy : y.toInt = Y) {off : Int} {tgt : Nat} (hdg : decode cc pc = .ok (.if_icmp .le off, 3)) (ht : (pc : Int) + off = (tgt : Int))
    (kt : X ≤ Y → W p l e R s m args below meth c H locs cells slots Q (F0 m tgt ls rest)) (kf : Y < X → W p l e R s m args below meth c H locs cells slots Q (F0 m (pc + 3) ls rest)) : W p l e R s m args below meth c H locs cells slots Q (F0 m pc ls (.int y :: .int x :: rest)) :=
  lv_icmp_le hexec hb hdg ht (fun h => kt ((cv_le hx hy).mp h)) (fun h => kf (Int.not_le.mp (fun q => h ((cv_le hx hy).mpr q))))
theorem nv_icmp_eq (hexec : p.tables.exec = Jvm.exec) (hb : c.code = cc) {x y : Int32} {X Y : Int} (hx : x.toInt = X) (hy : y.toInt = Y) {off : Int} {tgt : Nat} (hdg : decode cc pc = .ok (.if_icmp .eq off, 3)) (ht : (pc : Int) + off = (tgt : Int))
    (kt : X = Y → W p l e R s m args below meth c H locs cells slots Q (F0 m tgt ls rest)) (kf : X ≠ Y → W p l e R s m args below meth c H locs cells slots Q (F0 m (pc + 3) ls rest)) : W p l e R s m args below meth c H locs cells slots Q (F0 m pc ls (.int y :: .int x :: rest)) :=
  lv_icmp_eq hexec hb hdg ht (fun h => kt ((cv_eq hx hy).mp h)) (fun h => kf (fun q => h ((cv_eq hx hy).mpr q)))
theorem nv_icmp_ne (hexec : p.tables.exec = Jvm.exec) (hb : c.code = cc) {x y : Int32} {X Y : Int} (hx : x.toInt = X) (hy : y.toInt = Y) {off : Int} {tgt : Nat} (hdg : decode cc pc = .ok (.if_icmp .ne off, 3)) (ht : (pc : Int) + off = (tgt : Int))
    (kt : X ≠ Y → W p l e R s m args below meth c H locs cells slots Q (F0 m tgt ls rest)) (kf : X = Y → W p l e R s m args below meth c H locs cells slots Q (F0 m (pc + 3) ls rest)) : W p l e R s m args below meth c H locs cells slots Q (F0 m pc ls (.int y :: .int x :: rest)) :=
  lv_icmp_ne hexec hb hdg ht (fun h => kt (fun q => h ((cv_eq hx hy).mpr q))) (fun h => kf ((cv_eq hx hy).mp h))
theorem z_toInt : (0 : Int32).toInt = 0 := rfl
theorem nv_if_lt (hexec : p.tables.exec = Jvm.exec) (hb : c.code = cc) {x : Int32} {X : Int} (hx : x.toInt = X) {off : Int} {tgt : Nat} (hdg : decode cc pc = .ok (.ifCond .lt off, 3)) (ht : (pc : Int) + off = (tgt : Int))
    (kt : X < 0 → W p l e R s m args below meth c H locs cells slots Q (F0 m tgt ls rest)) (kf : 0 ≤ X → W p l e R s m args below meth c H locs cells slots Q (F0 m (pc + 3) ls rest)) : W p l e R s m args below meth c H locs cells slots Q (F0 m pc ls (.int x :: rest)) :=
  lv_if_lt hexec hb hdg ht (fun h => kt ((cv_lt hx z_toInt).mp h)) (fun h => kf (Int.not_lt.mp (fun q => h ((cv_lt hx z_toInt).mpr q))))
theorem nv_if_ge (hexec : p.tables.exec = Jvm.exec) (hb : c.code = cc) {x : Int32} {X : Int} (hx : x.toInt = X) {off : Int} {tgt : Nat} (hdg : decode cc pc = .ok (.ifCond .ge off, 3)) (ht : (pc : Int) + off = (tgt : Int))
    (kt : 0 ≤ X → W p l e R s m args below meth c H locs cells slots Q (F0 m tgt ls rest)) (kf : X < 0 → W p l e R s m args below meth c H locs cells slots Q (F0 m (pc + 3) ls rest)) : W p l e R s m args below meth c H locs cells slots Q (F0 m pc ls (.int x :: rest)) :=
  lv_if_ge hexec hb hdg ht (fun h => kt ((cv_le z_toInt hx).mp h)) (fun h => kf (Int.not_le.mp (fun q => h ((cv_le z_toInt hx).mpr q))))
theorem nv_if_gt (hexec : p.tables.exec = Jvm.exec) (hb : c.code = cc) {x : Int32} {X : Int} (hx : x.toInt = X) {off : Int} {tgt : Nat} (hdg : decode cc pc = .ok (.ifCond .gt off, 3)) (ht : (pc : Int) + off = (tgt : Int))
    (kt : 0 < X → W p l e R s m args below meth c H locs cells slots Q (F0 m tgt ls rest)) (kf : X ≤ 0 → W p l e R s m args below meth c H locs cells slots Q (F0 m (pc + 3) ls rest)) : W p l e R s m args below meth c H locs cells slots Q (F0 m pc ls (.int x :: rest)) :=
  lv_if_gt hexec hb hdg ht (fun h => kt ((cv_lt z_toInt hx).mp h)) (fun h => kf (Int.not_lt.mp (fun q => h ((cv_lt z_toInt hx).mpr q))))
theorem nv_if_le (hexec : p.tables.exec = Jvm.exec) (hb : c.code = cc) {x : Int32} {X : Int} (hx : x.toInt = X) {off : Int} {tgt : Nat} (hdg : decode cc pc = .ok (.ifCond .le off, 3)) (ht : (pc : Int) + off = (tgt : Int))
    (kt : X ≤ 0 → W p l e R s m args below meth c H locs cells slots Q (F0 m tgt ls rest)) (kf : 0 < X → W p l e R s m args below meth c H locs cells slots Q (F0 m (pc + 3) ls rest)) : W p l e R s m args below meth c H locs cells slots Q (F0 m pc ls (.int x :: rest)) :=
  lv_if_le hexec hb hdg ht (fun h => kt ((cv_le hx z_toInt).mp h)) (fun h => kf (Int.not_le.mp (fun q => h ((cv_le hx z_toInt).mpr q))))
theorem nv_if_eq (hexec : p.tables.exec = Jvm.exec) (hb : c.code = cc) {x : Int32} {X : Int} (hx : x.toInt = X) {off : Int} {tgt : Nat} (hdg : decode cc pc = .ok (.ifCond .eq off, 3)) (ht : (pc : Int) + off = (tgt : Int))
    (kt : X = 0 → W p l e R s m args below meth c H locs cells slots Q (F0 m tgt ls rest)) (kf : X ≠ 0 → W p l e R s m args below meth c H locs cells slots Q (F0 m (pc + 3) ls rest)) : W p l e R s m args below meth c H locs cells slots Q (F0 m pc ls (.int x :: rest)) :=
  lv_if_eq hexec hb hdg ht (fun h => kt ((cv_eq hx z_toInt).mp h)) (fun h => kf (fun q => h ((cv_eq hx z_toInt).mpr q)))
theorem nv_if_ne (hexec : p.tables.exec = Jvm.exec) (hb : c.code = cc) {x : Int32} {X : Int} (hx : x.toInt = X) {off : Int} {tgt : Nat} (hdg : decode cc pc = .ok (.ifCond .ne off, 3)) (ht : (pc : Int) + off = (tgt : Int))
    (kt : X ≠ 0 → W p l e R s m args below meth c H locs cells slots Q (F0 m tgt ls rest)) (kf : X = 0 → W p l e R s m args below meth c H locs cells slots Q (F0 m (pc + 3) ls rest)) : W p l e R s m args below meth c H locs cells slots Q (F0 m pc ls (.int x :: rest)) :=
  lv_if_ne hexec hb hdg ht (fun h => kt (fun q => h ((cv_eq hx z_toInt).mpr q))) (fun h => kf ((cv_eq hx z_toInt).mp h))
theorem bI_0 {b : Bool} : bI b = 0 ↔ b = false := by cases b <;> decide
theorem bI_n0 {b : Bool} : ¬ bI b = 0 ↔ b = true := by cases b <;> decide
theorem bI_nar (b : Bool) : narrow .boolean (.int (bI b)) = .int (bI b) := by cases b <;> decide
theorem bI_toInt (b : Bool) : (bI b).toInt = if b then 1 else 0 := by cases b <;> decide
/-- branches over a boolean -/
theorem bv_if_eq (hexec : p.tables.exec = Jvm.exec) (hb : c.code = cc) {b : Bool} {off : Int} {tgt : Nat} (hdg : decode cc pc = .ok (.ifCond .eq off, 3)) (ht : (pc : Int) + off = (tgt : Int))
    (kt : b = false → W p l e R s m args below meth c H locs cells slots Q (F0 m tgt ls rest)) (kf : b = true → W p l e R s m args below meth c H locs cells slots Q (F0 m (pc + 3) ls rest)) : W p l e R s m args below meth c H locs cells slots Q (F0 m pc ls (.int (bI b) :: rest)) :=
  lv_if_eq hexec hb hdg ht (fun h => kt (bI_0.mp h)) (fun h => kf (bI_n0.mp h))
theorem bv_if_ne (hexec : p.tables.exec = Jvm.exec) (hb : c.code = cc) {b : Bool} {off : Int} {tgt : Nat} (hdg : decode cc pc = .ok (.ifCond .ne off, 3)) (ht : (pc : Int) + off = (tgt : Int))
    (kt : b = true → W p l e R s m args below meth c H locs cells slots Q (F0 m tgt ls rest)) (kf : b = false → W p l e R s m args below meth c H locs cells slots Q (F0 m (pc + 3) ls rest)) : W p l e R s m args below meth c H locs cells slots Q (F0 m pc ls (.int (bI b) :: rest)) :=
  lv_if_ne hexec hb hdg ht (fun h => kt (bI_n0.mp h)) (fun h => kf (bI_0.mp h))
variable {D : va_G} {cl : List vw_C} {tys : List (ClassId × FieldType)} {ws : va_W} {A : Nat → Prop} {H0 : Heap} {a : Nat}
/-- arrays of natural numbers -/
theorem nv_iald (hexec : p.tables.exec = Jvm.exec) (hb : c.code = cc) (hK : va_K D cl tys s) (hP : va_P D cl ws H) (q16 t0 : Nat) {cA : ClassId} {n : Nat} {f : Nat → Nat} (ha : ws[q16]? = some (a, .inl (cA, n, .inl (fun j => nI (f j))))) (ht : tys[t0]? = some (cA, .int)) {i : Nat} (hin : i < n) (hn : n < 2 ^ 31) (hdg : decode cc pc = .ok (.iaload, 1))
    (kk : W p l e R s m args below meth c H locs cells slots Q (F0 m (pc + 1) ls (.int (nI (f i)) :: rest))) : W p l e R s m args below meth c H locs cells slots Q (F0 m pc ls (.int (nI i) :: .ref a :: rest)) :=
  va_iald hexec hb hK hP q16 t0 ha ht (vp_in_nI hin hn) hdg (by rw [nI_clamp (by omega)]; exact kk)
theorem nv_iast (hexec : p.tables.exec = Jvm.exec) (hb : c.code = cc) (hK : va_K D cl tys s) (hP : va_P D cl ws H) (hD : va_D A ws) (hS : va_S A H0 H locs) (q16 t0 : Nat) {cA : ClassId} {n : Nat} {f : Nat → Nat} (ha : ws[q16]? = some (a, .inl (cA, n, .inl (fun j => nI (f j))))) (ht : tys[t0]? = some (cA, .int)) {i v : Nat} (hin : i < n) (hn : n < 2 ^ 31) (hdg : decode cc pc = .ok (.iastore, 1))
    (kk : ∀ (H1 : Heap) (locs1 : List Loc), va_P D cl (ws.set q16 (a, .inl (cA, n, .inl (fun j => nI (upn f i v j))))) H1 → va_D A (ws.set q16 (a, .inl (cA, n, .inl (fun j => nI (upn f i v j))))) → va_S A H0 H1 locs1 → W p l e R s m args below meth c H1 locs1 cells slots Q (F0 m (pc + 1) ls rest)) : W p l e R s m args below meth c H locs cells slots Q (F0 m pc ls (.int (nI v) :: .int (nI i) :: .ref a :: rest)) :=
  va_iast hexec hb hK hP hD hS q16 t0 ha ht (vp_in_nI hin hn) hdg (by rw [nI_clamp (by omega), upd_nI]; exact kk)
end NV
/-! blocks of cells -/
theorem bk_mem {D : va_G} {cl : List vw_C} {ws : va_W} {H : Heap} : va_P D cl ws H ↔ ∀ q ∈ ws, va_at D cl q H :=
  ⟨fun h q hq => by obtain ⟨k, hk⟩ := List.getElem?_of_mem hq; exact h k q hk, fun h k q hk => h q (List.mem_of_getElem? hk)⟩
theorem bk_D {A : Nat → Prop} {ws : va_W} : va_D A ws ↔ ws.Pairwise (fun p q => p.1 ≠ q.1) ∧ ∀ q ∈ ws, A q.1 := by
  constructor
  · intro h
    refine ⟨List.pairwise_iff_getElem.mpr (fun i j hi hj hij e => ?_), fun q hq => ?_⟩
    · have := h.1 i j _ _ (List.getElem?_eq_getElem hi) (List.getElem?_eq_getElem hj) e
      omega
    · obtain ⟨k, hk⟩ := List.getElem?_of_mem hq
      exact h.2 k q hk
  · intro h
    have hp := List.pairwise_iff_getElem.mp h.1
    refine ⟨fun i j p q hi hj e => ?_, fun k q hk => h.2 q (List.mem_of_getElem? hk)⟩
    obtain ⟨hi1, hi2⟩ := List.getElem?_eq_some_iff.mp hi
    obtain ⟨hj1, hj2⟩ := List.getElem?_eq_some_iff.mp hj
    rcases Nat.lt_trichotomy i j with g | g | g
    · exact absurd (by rw [hi2, hj2]; exact e) (hp i j hi1 hj1 g)
    · exact g
    · exact absurd (by rw [hi2, hj2]; exact e.symm) (hp j i hj1 hi1 g)
theorem bk_get {α : Type} {l l' : List α} {ks : List Nat} (h : ks.map (fun i => l[i]?) = l'.map some) {i : Nat} {x : α} (hx : l'[i]? = some x) : ∃ k, ks[i]? = some k ∧ l[k]? = some x := by
  have h1 : (ks.map (fun i => l[i]?))[i]? = some (some x) := by rw [h, List.getElem?_map, hx]; rfl
  rw [List.getElem?_map] at h1
  cases hk : ks[i]? with
  | none => rw [hk] at h1; cases h1
  | some k => rw [hk] at h1; exact ⟨k, rfl, Option.some.inj h1⟩
theorem bk_sub {α : Type} {l l' : List α} {ks : List Nat} (h : ks.map (fun i => l[i]?) = l'.map some) : ∀ x ∈ l', x ∈ l := by
  intro x hx
  obtain ⟨i, hi⟩ := List.getElem?_of_mem hx
  obtain ⟨k, -, hk⟩ := bk_get h hi
  exact List.mem_of_getElem? hk
theorem bk_pw {α : Type} {R : α → α → Prop} (hs : ∀ x y, R x y → R y x) {l l' : List α} {ks : List Nat} (h : ks.map (fun i => l[i]?) = l'.map some) (hn : va_nd ks = true) (hl : l.Pairwise R) : l'.Pairwise R := by
  have hp := List.pairwise_iff_getElem.mp hl
  refine List.pairwise_iff_getElem.mpr (fun i j hi hj hij => ?_)
  obtain ⟨k, a1, a2⟩ := bk_get h (List.getElem?_eq_getElem hi)
  obtain ⟨k', b1, b2⟩ := bk_get h (List.getElem?_eq_getElem hj)
  obtain ⟨u1, u2⟩ := List.getElem?_eq_some_iff.mp a2
  obtain ⟨v1, v2⟩ := List.getElem?_eq_some_iff.mp b2
  rcases Nat.lt_trichotomy k k' with g | g | g
  · rw [← u2, ← v2]; exact hp k k' u1 v1 g
  · subst g
    have := va_nd_inj ks hn i j k a1 b1
    omega
  · rw [← u2, ← v2]; exact hs _ _ (hp k' k v1 u1 g)
theorem bk_P {D : va_G} {cl : List vw_C} {bs bs' : List va_W} {H : Heap} {ks : List Nat} (h : ks.map (fun i => bs[i]?) = bs'.map some) (hP : va_P D cl bs.flatten H) : va_P D cl bs'.flatten H := by
  rw [bk_mem] at hP ⊢
  intro q hq
  obtain ⟨b, hb, hq⟩ := List.mem_flatten.mp hq
  exact hP q (List.mem_flatten.mpr ⟨b, bk_sub h b hb, hq⟩)
theorem bk_pick {A : Nat → Prop} {bs bs' : List va_W} {ks : List Nat} (h : ks.map (fun i => bs[i]?) = bs'.map some) (hn : va_nd ks = true) (hD : va_D A bs.flatten) : va_D A bs'.flatten := by
  rw [bk_D] at hD ⊢
  obtain ⟨h1, h2⟩ := hD
  rw [List.pairwise_flatten] at h1 ⊢
  refine ⟨⟨fun b hb => h1.1 b (bk_sub h b hb), bk_pw (fun x y g p hp q hq e => g q hq p hp e.symm) h hn h1.2⟩, fun q hq => ?_⟩
  obtain ⟨b, hb, hq⟩ := List.mem_flatten.mp hq
  exact h2 q (List.mem_flatten.mpr ⟨b, bk_sub h b hb, hq⟩)
theorem bk_free {A0 : Nat → Prop} {bs cb : List va_W} {H0 H : Heap} {locs : List Loc} {ks : List Nat} (h : ks.map (fun i => bs[i]?) = cb.map some) (hD : va_D A0 bs.flatten) (hS : va_S A0 H0 H locs) (hA : ∀ q, H0.size ≤ q → A0 q) : ∀ q, va_A cb.flatten H.size q → A0 q := by
  intro q hq
  rcases hq with ⟨k, e, hk⟩ | hq
  · obtain ⟨b, hb, hq⟩ := List.mem_flatten.mp (List.mem_of_getElem? hk)
    exact (bk_D.mp hD).2 (q, e) (List.mem_flatten.mpr ⟨b, bk_sub h b hb, hq⟩)
  · exact hA q (Nat.le_trans hS.1 hq)
/-- behind a call: the caller's other blocks as they were, and the callee's new ones, in the order ks -/
theorem bk_call {A0 : Nat → Prop} {D : va_G} {cl : List vw_C} {bs cb br cb' bs2 : List va_W} {H H1 : Heap} {isC isR ks : List Nat} (hC : isC.map (fun i => bs[i]?) = cb.map some) (hR : isR.map (fun i => bs[i]?) = br.map some) (hn : va_nd (isC ++ isR) = true)
    (hK : ks.map (fun i => (br ++ cb')[i]?) = bs2.map some) (hk2 : va_nd ks = true) (hP : va_P D cl bs.flatten H) (hD : va_D A0 bs.flatten) (hkeep : ∀ q : Nat, q < H.size → ¬ va_A cb.flatten H.size q → H1[q]? = H[q]?)
    (hF : ∀ q, va_A cb.flatten H.size q → A0 q) (hP1 : va_P D cl cb'.flatten H1) (hD1 : va_D (va_A cb.flatten H.size) cb'.flatten) : va_P D cl bs2.flatten H1 ∧ va_D A0 bs2.flatten := by
  have hall : (isC ++ isR).map (fun i => bs[i]?) = (cb ++ br).map some := by rw [List.map_append, List.map_append, hC, hR]
  have hDall := bk_pick hall hn hD
  rw [List.flatten_append] at hDall
  obtain ⟨hpw, hmA⟩ := bk_D.mp hDall
  obtain ⟨-, hpr, hcross⟩ := List.pairwise_append.mp hpw
  have hPr : va_P D cl br.flatten H := bk_P hR hP
  have apart : ∀ q ∈ br.flatten, q.1 < H.size ∧ ¬ va_A cb.flatten H.size q.1 := by
    intro q hq
    have hl := (bk_mem.mp hPr q hq).lt
    refine ⟨hl, fun h => ?_⟩
    rcases h with ⟨k2, e, h⟩ | h
    · exact hcross (q.1, e) (List.mem_of_getElem? h) q hq rfl
    · omega
  have hP2 : va_P D cl (br ++ cb').flatten H1 := by
    rw [List.flatten_append]
    refine va_P.app (bk_mem.mpr (fun q hq => ?_)) hP1
    exact (bk_mem.mp hPr q hq).kept (hkeep q.1 (apart q hq).1 (apart q hq).2)
  have hD2 : va_D A0 (br ++ cb').flatten := by
    rw [List.flatten_append]
    obtain ⟨g1, g2⟩ := bk_D.mp hD1
    refine bk_D.mpr ⟨List.pairwise_append.mpr ⟨hpr, g1, fun x hx y hy e => (apart x hx).2 (by rw [e]; exact g2 y hy)⟩, fun q hq => ?_⟩
    rcases List.mem_append.mp hq with hq | hq
    · exact hmA q (List.mem_append_right _ hq)
    · exact hF _ (g2 q hq)
  exact ⟨bk_P hK hP2, bk_pick hK hk2 hD2⟩
/-- what the walk of one run has fixed: slots of the classes, classes of the arrays, addresses of constants -/
abbrev EE : Type := va_G × (Nat → ClassId) × (Nat → Nat)
def tyl (y : Nat → ClassId) : List (ClassId × FieldType) := [(y 0, .int), (y 1, .char), (y 2, .byte), (y 3, .object "CricketCooperative$State"), (y 4, .long)]
def sRef : List (String × Nat × String) := [("CricketCooperative", 339, "no such member"), ("CricketCooperative", 341, "out of range"), ("CricketCooperative", 343, "not possible in this state"), ("CricketCooperative", 345, "too few coins"), ("CricketCooperative", 154, "no such rank"), ("CricketCooperative", 179, "no chorus"), ("CricketCooperative", 183, "beats out of range"), ("CricketCooperative", 202, "no tone would be carried"), ("CricketCooperative", 216, "no members"), ("CricketCooperative", 244, "no such spoilt beat"), ("CricketCooperative", 265, "the text buffer is full"), ("CricketCooperative$Program", 52, "join # # # #"), ("CricketCooperative$Program", 54, "wind ? #"), ("CricketCooperative$Program", 56, "tune ? #"), ("CricketCooperative$Program", 58, "buy ? #"), ("CricketCooperative$Program", 60, "beats #"), ("CricketCooperative$Program", 62, "quarter"), ("CricketCooperative$Program", 64, "vote # ?"), ("CricketCooperative", 281, "not a program"), ("CricketCooperative", 288, "a command fails"), ("CricketCooperative", 339, "no such member"), ("CricketCooperative", 339, "no such member"), ("java/lang/StringIndexOutOfBoundsException", 13, "String index out of range: "), ("java/util/Arrays", 337, " > "), ("java/util/Arrays", 48, "fromIndex("), ("java/util/Arrays", 57, ") > toIndex("), ("java/util/Arrays", 59, ")"), ("java/lang/ArrayIndexOutOfBoundsException", 13, "Array index out of range: "), ("CricketCooperative", 339, "no such member"), ("CricketCooperative", 326, "no call can be undone"), ("CricketCooperative", 331, "no state was saved"), ("CricketCooperativeLaw", 245, "beats "), ("CricketCooperativeLaw", 253, ";quarter"), ("CricketCooperativeLaw", 255, ";wind "), ("CricketCooperativeLaw", 257, " 9"), ("CricketCooperativeLaw", 263, ";buy "), ("CricketCooperativeLaw", 265, " 1"), ("CricketCooperativeLaw", 267, ";"), ("CricketCooperative", 339, "no such member")]
def txb (t : String) : List Int32 := t.toList.map (fun c => nI c.toNat)
def NBW : List (String × Nat × MethodName × String) := [(RX5, 9, yX4_init, RX5), (RX5, 24, yX2_init, RX5), (RX2, 9, yX4_init, RX5), (RX5, 31, yX0_init, RX5), (RX5, 38, yX1_init, RX5), (RX5, 45, yX3_init, RX5), (RX4, 112, yX5_stepsBetween, RX5)]
def CBW : List (String × String) := [("java/lang/IndexOutOfBoundsException", "java/lang/IndexOutOfBoundsException"), ("java/lang/IllegalArgumentException", "java/lang/IllegalArgumentException"), ("java/lang/IllegalStateException", "java/lang/IllegalStateException"), ("java/lang/UnsupportedOperationException", "java/lang/UnsupportedOperationException"), ("java/lang/ArrayIndexOutOfBoundsException", "java/lang/ArrayIndexOutOfBoundsException"), ("java/util/NoSuchElementException", "java/util/NoSuchElementException"), ("java/lang/ArithmeticException", "java/lang/ArithmeticException"), ("[B", "java/lang/Cloneable"), ("java/lang/ArrayIndexOutOfBoundsException", "java/lang/IndexOutOfBoundsException"), ("java/lang/StringIndexOutOfBoundsException", "java/lang/IndexOutOfBoundsException"), ("CricketCooperative", "java/lang/Object"), ("CricketCooperative$State", "java/lang/Object"), ("CricketCooperative$History", "java/lang/Object"), ("CricketCooperative$Dividends", "java/lang/Object"), ("CricketCooperative$Groups", "java/lang/Object"), ("CricketCooperative$Program", "java/lang/Object"), ("java/lang/StringBuilder", "java/lang/Object"), ("java/lang/IndexOutOfBoundsException", "java/lang/IndexOutOfBoundsException"), ("java/lang/IndexOutOfBoundsException", "java/lang/Object"), ("java/lang/IllegalArgumentException", "java/lang/Object"), ("java/lang/IllegalStateException", "java/lang/Object"), ("java/lang/UnsupportedOperationException", "java/lang/Object"), ("java/lang/ArrayIndexOutOfBoundsException", "java/lang/Object"), ("java/util/NoSuchElementException", "java/lang/Object"), ("java/lang/ArithmeticException", "java/lang/Object"), ("java/lang/StringIndexOutOfBoundsException", "java/lang/Object"), ("java/lang/String", "java/lang/Object"), ("java/lang/Throwable", "java/lang/Object")]
def NCW : List (String × String) := [("java/lang/StringBuilder", "java/lang/IllegalArgumentException"), ("java/lang/IndexOutOfBoundsException", "java/lang/IllegalArgumentException"), ("java/lang/IllegalStateException", "java/lang/IllegalArgumentException"), ("java/lang/UnsupportedOperationException", "java/lang/IllegalArgumentException"), ("java/lang/ArrayIndexOutOfBoundsException", "java/lang/IllegalArgumentException"), ("java/util/NoSuchElementException", "java/lang/IllegalArgumentException"), ("java/lang/ArithmeticException", "java/lang/IllegalArgumentException"), ("java/lang/StringIndexOutOfBoundsException", "java/lang/IllegalArgumentException"), ("java/lang/String", "java/lang/IllegalArgumentException"), ("java/lang/StringBuilder", "java/lang/IllegalStateException"), ("java/lang/IndexOutOfBoundsException", "java/lang/IllegalStateException"), ("java/lang/IllegalArgumentException", "java/lang/IllegalStateException"), ("java/lang/UnsupportedOperationException", "java/lang/IllegalStateException"), ("java/lang/ArrayIndexOutOfBoundsException", "java/lang/IllegalStateException"), ("java/util/NoSuchElementException", "java/lang/IllegalStateException"), ("java/lang/ArithmeticException", "java/lang/IllegalStateException"), ("java/lang/StringIndexOutOfBoundsException", "java/lang/IllegalStateException"), ("java/lang/String", "java/lang/IllegalStateException"), ("java/lang/StringBuilder", "java/lang/IndexOutOfBoundsException"), ("java/lang/IllegalArgumentException", "java/lang/IndexOutOfBoundsException"), ("java/lang/IllegalStateException", "java/lang/IndexOutOfBoundsException"), ("java/lang/UnsupportedOperationException", "java/lang/IndexOutOfBoundsException"), ("java/util/NoSuchElementException", "java/lang/IndexOutOfBoundsException"), ("java/lang/ArithmeticException", "java/lang/IndexOutOfBoundsException"), ("java/lang/String", "java/lang/IndexOutOfBoundsException"), ("java/lang/StringBuilder", "java/lang/UnsupportedOperationException"), ("java/lang/IndexOutOfBoundsException", "java/lang/UnsupportedOperationException"), ("java/lang/IllegalArgumentException", "java/lang/UnsupportedOperationException"), ("java/lang/IllegalStateException", "java/lang/UnsupportedOperationException"), ("java/lang/ArrayIndexOutOfBoundsException", "java/lang/UnsupportedOperationException"), ("java/util/NoSuchElementException", "java/lang/UnsupportedOperationException"), ("java/lang/ArithmeticException", "java/lang/UnsupportedOperationException"), ("java/lang/StringIndexOutOfBoundsException", "java/lang/UnsupportedOperationException"), ("java/lang/String", "java/lang/UnsupportedOperationException"), ("java/lang/StringBuilder", "java/util/NoSuchElementException"), ("java/lang/IndexOutOfBoundsException", "java/util/NoSuchElementException"), ("java/lang/IllegalArgumentException", "java/util/NoSuchElementException"), ("java/lang/IllegalStateException", "java/util/NoSuchElementException"), ("java/lang/UnsupportedOperationException", "java/util/NoSuchElementException"), ("java/lang/ArrayIndexOutOfBoundsException", "java/util/NoSuchElementException"), ("java/lang/ArithmeticException", "java/util/NoSuchElementException"), ("java/lang/StringIndexOutOfBoundsException", "java/util/NoSuchElementException"), ("java/lang/String", "java/util/NoSuchElementException"), ("java/lang/StringBuilder", "java/lang/ArithmeticException"), ("java/lang/IndexOutOfBoundsException", "java/lang/ArithmeticException"), ("java/lang/IllegalArgumentException", "java/lang/ArithmeticException"), ("java/lang/IllegalStateException", "java/lang/ArithmeticException"), ("java/lang/UnsupportedOperationException", "java/lang/ArithmeticException"), ("java/lang/ArrayIndexOutOfBoundsException", "java/lang/ArithmeticException"), ("java/util/NoSuchElementException", "java/lang/ArithmeticException"), ("java/lang/StringIndexOutOfBoundsException", "java/lang/ArithmeticException"), ("java/lang/String", "java/lang/ArithmeticException")]
def ZS (ad : Nat → Nat) (A : Nat → Prop) (U : State) (H : Heap) : Prop := ∀ (i : Nat) (q : String × Nat × String), sRef[i]? = some q → vk_S 1 [q.2.2.length] [txb q.2.2] (fun _ => ad i) (fun _ => ad (100 + i)) A U H ∧ vk_R q.1 q.2.1 q.2.2 (ad i) U
/-- the script, where it lies -/
def SCR (ad : Nat → Nat) (A : Nat → Prop) (U : State) (H : Heap) : Prop := va_X (ad 202) (ad 203) (fun j => nI (ad (1000 + j))) U H ∧ ¬ A (ad 202)
theorem SCR.lt {ad : Nat → Nat} {A : Nat → Prop} {U : State} {H : Heap} (h : SCR ad A U H) : ad 202 < H.size := by
  obtain ⟨⟨scr, h1, -⟩, -⟩ := h
  exact (Array.getElem?_eq_some_iff.mp h1).1
theorem SCR.kept {ad : Nat → Nat} {A : Nat → Prop} {U : State} {H H1 : Heap} (h : SCR ad A U H) (hq : ∀ a : Nat, a < H.size → ¬ A a → H1[a]? = H[a]?) : SCR ad A U H1 := ⟨h.1.kept (hq _ h.lt h.2), h.2⟩
theorem SCR.narrow {ad : Nat → Nat} {A B : Nat → Prop} {U : State} {H : Heap} (h : SCR ad A U H) (hq : ∀ q, B q → A q) : SCR ad B U H := ⟨h.1, fun g => h.2 (hq _ g)⟩
theorem SCR.moved {ad : Nat → Nat} {A : Nat → Prop} {u U : State} {H : Heap} (hv : u.vm.Alike U.vm) (h : SCR ad A u H) : SCR ad A U H := ⟨h.1.moved hv, h.2⟩
/-- what a run's constants are, and that a method which changes A leaves them -/
def ZZ (E : EE) (A : Nat → Prop) (U : State) (H : Heap) : Prop :=
  (vx_Zq Bundle.tN "UNASSIGNED_STACK" Bundle.steD A U H ∧ vx_Zq Bundle.tN "SUPPRESSED_SENTINEL" Bundle.listD A U H) ∧ (∀ q ∈ NBW, va_Nw (.methodLinkNest q.1 q.2.1 q.2.2.1 q.2.2.2) U) ∧ (∀ q ∈ CBW, va_Nw (.castable q.1 q.2) U) ∧ (∀ q ∈ NCW, va_Nc q.1 q.2 U) ∧ ZS E.2.2 A U H ∧
  (va_Z "java/lang/String" "COMPACT_STRINGS" "Z" (.int 1) A U H ∧ va_Zq "jdk/internal/util/Preconditions" "SIOOBE_FORMATTER" "Ljava/util/function/BiFunction;" A U H ∧ SCR E.2.2 A U H) ∧ (va_Z "java/lang/Integer" "DigitOnes" "[B" (.ref (E.2.2 200)) A U H ∧ va_T .byte (E.2.2 200) 100 (fun j => .int (nI (48 + j % 10))) A U H) ∧ (va_Z "java/lang/Integer" "DigitTens" "[B" (.ref (E.2.2 201)) A U H ∧ va_T .byte (E.2.2 201) 100 (fun j => .int (nI (48 + j / 10))) A U H)
theorem ZZ.kept {E : EE} {A : Nat → Prop} {U : State} {H H1 : Heap} (h : ZZ E A U H) (hq : ∀ a : Nat, a < H.size → ¬ A a → H1[a]? = H[a]?) : ZZ E A U H1 := by
  obtain ⟨⟨h1, h2⟩, h3, h4, h5, h6, ⟨h7, h7b⟩, ⟨h8, h9⟩, h10, h11⟩ := h
  exact ⟨⟨h1.kept hq, h2.kept hq⟩, h3, h4, h5, fun i q g => ⟨(h6 i q g).1.kept hq, (h6 i q g).2⟩, ⟨h7.kept hq, ⟨h7b.1.kept hq, h7b.2.kept hq⟩⟩, ⟨h8.kept hq, h9.kept hq⟩, h10.kept hq, h11.kept hq⟩
theorem ZZ.narrow {E : EE} {A B : Nat → Prop} {U : State} {H : Heap} (h : ZZ E A U H) (hq : ∀ q, B q → A q) : ZZ E B U H := by
  obtain ⟨⟨h1, h2⟩, h3, h4, h5, h6, ⟨h7, h7b⟩, ⟨h8, h9⟩, h10, h11⟩ := h
  exact ⟨⟨h1.narrow hq, h2.narrow hq⟩, h3, h4, h5, fun i q g => ⟨(h6 i q g).1.narrow hq, (h6 i q g).2⟩, ⟨h7.narrow hq, ⟨h7b.1.narrow hq, h7b.2.narrow hq⟩⟩, ⟨h8.narrow hq, h9.narrow hq⟩, h10.narrow hq, h11.narrow hq⟩
theorem ZZ.warm {E : EE} {A : Nat → Prop} {s U : State} {H : Heap} (hW : s.WarmedH U.vm) (h : ZZ E A s H) : ZZ E A U H := by
  obtain ⟨⟨h1, h2⟩, h3, h4, h5, h6, ⟨h7, h7b⟩, ⟨h8, h9⟩, h10, h11⟩ := h
  have hv := hW.alike
  exact ⟨⟨h1.moved hv, h2.moved hv⟩, fun q g => (h3 q g).warmM hW, fun q g => (h4 q g).warmC hW, fun q g => (h5 q g).moved hv, fun i q g => ⟨(h6 i q g).1.moved hv, (h6 i q g).2.warm hW⟩, ⟨h7.moved hv, ⟨h7b.1.moved hv, h7b.2.moved hv⟩⟩, ⟨h8.moved hv, h9.moved hv⟩, h10.moved hv, h11.moved hv⟩
/-- a method's start: its blocks of cells, and nothing else of the heap -/
def PB (E : EE) (sz : Nat) (bs : List va_W) (U : State) : Prop := U.heap.size = sz ∧ va_P E.1 vwCl bs.flatten U.heap ∧ va_K E.1 vwCl (tyl E.2.1) U ∧ va_D (fun _ => True) bs.flatten ∧ ZZ E (va_A bs.flatten sz) U U.heap
/-- its end -/
def QB (E : EE) (A : Nat → Prop) (bs : List va_W) (t : State) : Prop := va_P E.1 vwCl bs.flatten t.heap ∧ va_K E.1 vwCl (tyl E.2.1) t ∧ va_D A bs.flatten
theorem PB_blind (E : EE) (sz : Nat) (bs : List va_W) (av : List Value) : FrameBlind (va_Pc av (PB E sz bs)) := fun a U g mk q => by
  obtain ⟨q16, q17, qP, qK, qD, qZ⟩ := q
  exact ⟨q16, q17, qP, va_K.moved (u := U) (U := U.calling g mk a) (Vm.Alike.refl U.vm) qK, qD, ZZ.warm (s := U) (U := U.calling g mk a) (State.WarmedH.refl U) qZ⟩
abbrev Wd (y : MethodName) (b : ByteArray) (ml : Nat) (rt : Option FieldType) : List Cond := Cond.code y b ml rt :: TG
abbrev MI (l : Launch) (y : MethodName) (b : ByteArray) (ml : Nat) (rt : FieldType) (rm : Room) (Args : List Value) (E : EE) (sz : Nat) (bs : List va_W) {S : Type} (post : Int32 → S → Prop) (bs' : S → List va_W) (mc ms : Nat) : Prop :=
  Met l y (Wd y b ml (some rt)) rm (va_Pc Args (PB E sz bs)) (va_Qi post (fun u t => QB E (va_A bs.flatten sz) (bs' u) t) (va_A bs.flatten sz)) mc ms (va_A bs.flatten sz)
abbrev ML (l : Launch) (y : MethodName) (b : ByteArray) (ml : Nat) (rm : Room) (Args : List Value) (E : EE) (sz : Nat) (bs : List va_W) {S : Type} (post : Int64 → S → Prop) (bs' : S → List va_W) (mc ms : Nat) : Prop :=
  Met l y (Wd y b ml (some .long)) rm (va_Pc Args (PB E sz bs)) (va_Ql post (fun u t => QB E (va_A bs.flatten sz) (bs' u) t) (va_A bs.flatten sz)) mc ms (va_A bs.flatten sz)
abbrev MV (l : Launch) (y : MethodName) (b : ByteArray) (ml : Nat) (rm : Room) (Args : List Value) (E : EE) (sz : Nat) (bs : List va_W) {S : Type} (post : S → Prop) (bs' : S → List va_W) (mc ms : Nat) : Prop :=
  Met l y (Wd y b ml none) rm (va_Pc Args (PB E sz bs)) (va_Qv post (fun u t => QB E (va_A bs.flatten sz) (bs' u) t) (va_A bs.flatten sz)) mc ms (va_A bs.flatten sz)
section GO
variable {l : Launch} {y : MethodName} {cc : ByteArray} {ml : Nat} {rt : FieldType} {rm : Room} {Args : List Value} {E : EE} {sz : Nat} {bs : List va_W} {S : Type} {bs' : S → List va_W} {mc ms : Nat}
/-- a method that answers an int (or a smaller kind), from its entry -/
theorem mi_go {post : Int32 → S → Prop} (hy : plainName y.cls = true) (hlen : (lg_sl Args).length ≤ ml)
    (body : ∀ (p : Program) (e : Env) (s : State) (m : MethodId) (below : List Frame) (meth : Method) (c : Code) (A : Nat → Prop) (Q : State → Prop) (ls : Array Slot), p.tables.exec = Jvm.exec → c.code = cc → c.maxLocals = ml → s.vm.findClass y.cls = some m.cls → (∀ w ∈ TG, w.before Args.toArray s = true) → va_K E.1 vwCl (tyl E.2.1) s → ZZ E A s s.heap → (∀ q, s.heap.size ≤ q → A q) → s.heap.size = sz → va_P E.1 vwCl bs.flatten s.heap → va_D A bs.flatten → lv_has ls ml (lv_args 0 Args) →
      (∀ (H : Heap) (locs : List Loc) (v : Int32) (u : S) (pc : Nat) (ls : Array Slot), va_P E.1 vwCl (bs' u).flatten H → va_D A (bs' u).flatten → va_S A s.heap H locs → narrow rt (.int v) = .int v → post v u → decode cc pc = .ok (.ireturn, 1) → W p l e rm s m Args.toArray below meth c H locs mc ms Q (F0 m pc ls [.int v])) →
      W p l e rm s m Args.toArray below meth c s.heap [] 0 0 Q (F0 m 0 ls [])) : MI l y cc ml rt rm Args E sz bs post bs' mc ms := by
  refine Met.ofW (cc := cc) (maxL := ml) (ret := some rt) hy rfl ?_
  intro p e s m args below meth c s₁ B hml hv
  obtain ⟨rfl, hsz, hP, hK, hD0, hZ⟩ := hv
  rw [lg_entry_eq]
  refine body p e s m below meth c (va_A bs.flatten sz) _ _ B.exec B.bytes hml (findClass_of_methodNamed B.named) (fun w hw => atoms_spec B.pre w (List.mem_cons_of_mem _ hw)) hK hZ (fun q hq => Or.inr (by rw [← hsz]; exact hq)) hsz hP hD0.self (lv_entry Args hlen) ?_
  intro H locs v u pc ls hP' hD' hS' hn hpost hdg
  exact W.zret B.exec B.bytes B.returns hn (fun t ht hW => ⟨⟨v, u, rfl, hpost, by rw [ht]; exact hP', va_K.moved hW.alike hK, hD'⟩, hS'.F ht⟩) hS'.2.2 hdg B.notSynchronized
theorem ml_go {post : Int64 → S → Prop} (hy : plainName y.cls = true) (hlen : (lg_sl Args).length ≤ ml)
    (body : ∀ (p : Program) (e : Env) (s : State) (m : MethodId) (below : List Frame) (meth : Method) (c : Code) (A : Nat → Prop) (Q : State → Prop) (ls : Array Slot), p.tables.exec = Jvm.exec → c.code = cc → c.maxLocals = ml → s.vm.findClass y.cls = some m.cls → (∀ w ∈ TG, w.before Args.toArray s = true) → va_K E.1 vwCl (tyl E.2.1) s → ZZ E A s s.heap → (∀ q, s.heap.size ≤ q → A q) → s.heap.size = sz → va_P E.1 vwCl bs.flatten s.heap → va_D A bs.flatten → lv_has ls ml (lv_args 0 Args) →
      (∀ (H : Heap) (locs : List Loc) (v : Int64) (u : S) (pc : Nat) (ls : Array Slot), va_P E.1 vwCl (bs' u).flatten H → va_D A (bs' u).flatten → va_S A s.heap H locs → post v u → decode cc pc = .ok (.lreturn, 1) → W p l e rm s m Args.toArray below meth c H locs mc ms Q (F0 m pc ls [.long v])) →
      W p l e rm s m Args.toArray below meth c s.heap [] 0 0 Q (F0 m 0 ls [])) : ML l y cc ml rm Args E sz bs post bs' mc ms := by
  refine Met.ofW (cc := cc) (maxL := ml) (ret := some .long) hy rfl ?_
  intro p e s m args below meth c s₁ B hml hv
  obtain ⟨rfl, hsz, hP, hK, hD0, hZ⟩ := hv
  rw [lg_entry_eq]
  refine body p e s m below meth c (va_A bs.flatten sz) _ _ B.exec B.bytes hml (findClass_of_methodNamed B.named) (fun w hw => atoms_spec B.pre w (List.mem_cons_of_mem _ hw)) hK hZ (fun q hq => Or.inr (by rw [← hsz]; exact hq)) hsz hP hD0.self (lv_entry Args hlen) ?_
  intro H locs v u pc ls hP' hD' hS' hpost hdg
  exact W.lret B.exec B.bytes B.returns (fun t ht hW => ⟨⟨v, u, rfl, hpost, by rw [ht]; exact hP', va_K.moved hW.alike hK, hD'⟩, hS'.F ht⟩) hS'.2.2 hdg B.notSynchronized
theorem mv_go {post : S → Prop} (hy : plainName y.cls = true) (hlen : (lg_sl Args).length ≤ ml)
    (body : ∀ (p : Program) (e : Env) (s : State) (m : MethodId) (below : List Frame) (meth : Method) (c : Code) (A : Nat → Prop) (Q : State → Prop) (ls : Array Slot), p.tables.exec = Jvm.exec → c.code = cc → c.maxLocals = ml → s.vm.findClass y.cls = some m.cls → (∀ w ∈ TG, w.before Args.toArray s = true) → va_K E.1 vwCl (tyl E.2.1) s → ZZ E A s s.heap → (∀ q, s.heap.size ≤ q → A q) → s.heap.size = sz → va_P E.1 vwCl bs.flatten s.heap → va_D A bs.flatten → lv_has ls ml (lv_args 0 Args) →
      (∀ (H : Heap) (locs : List Loc) (u : S) (pc : Nat) (ls : Array Slot), va_P E.1 vwCl (bs' u).flatten H → va_D A (bs' u).flatten → va_S A s.heap H locs → post u → decode cc pc = .ok (.return_, 1) → W p l e rm s m Args.toArray below meth c H locs mc ms Q (F0 m pc ls [])) →
      (s.methodNamed? y = some m ∧ s.vm.method? m = some meth) →
      W p l e rm s m Args.toArray below meth c s.heap [] 0 0 Q (F0 m 0 ls [])) : MV l y cc ml rm Args E sz bs post bs' mc ms := by
  refine Met.ofW (cc := cc) (maxL := ml) (ret := none) hy rfl ?_
  intro p e s m args below meth c s₁ B hml hv
  obtain ⟨rfl, hsz, hP, hK, hD0, hZ⟩ := hv
  rw [lg_entry_eq]
  refine body p e s m below meth c (va_A bs.flatten sz) _ _ B.exec B.bytes hml (findClass_of_methodNamed B.named) (fun w hw => atoms_spec B.pre w (List.mem_cons_of_mem _ hw)) hK hZ (fun q hq => Or.inr (by rw [← hsz]; exact hq)) hsz hP hD0.self (lv_entry Args hlen) ?_ ⟨B.named, B.method⟩
  intro H locs u pc ls hP' hD' hS' hpost hdg
  exact W.vret B.exec B.bytes B.returns (fun t ht hW => ⟨⟨u, rfl, hpost, by rw [ht]; exact hP', va_K.moved hW.alike hK, hD'⟩, hS'.F ht⟩) hS'.2.2 hdg B.notSynchronized
end GO
/-- the words of a call: link, kind, choice, class, code; and the number of its arguments -/
def CWV (own : String) (idx : Nat) (C : String) (y : MethodName) (b : ByteArray) (ml : Nat) (rt : Option FieldType) (n : Nat) : Prop :=
  (Cond.methodLink own idx y ∈ TG ∧ Cond.instanceMethod y ∈ TG ∧ Cond.selects C y y ∈ TG ∧ Cond.initialized C ∈ TG ∧ Cond.code y b ml rt ∈ TG) ∧ y.cls = C ∧ y.cls ≠ "java/lang/invoke/MethodHandle" ∧ y.cls ≠ "java/lang/invoke/VarHandle" ∧ (parseMethodDescriptor y.desc).map (fun d => d.parameters.length) = some n
def CWS (own : String) (idx : Nat) (y : MethodName) (b : ByteArray) (ml : Nat) (rt : Option FieldType) (n : Nat) : Prop :=
  (Cond.methodLink own idx y ∈ TG ∧ Cond.static y ∈ TG ∧ Cond.initialized y.cls ∈ TG ∧ Cond.code y b ml rt ∈ TG) ∧ y.cls ≠ "java/lang/invoke/MethodHandle" ∧ y.cls ≠ "java/lang/invoke/VarHandle" ∧ (parseMethodDescriptor y.desc).map (fun d => d.parameters.length) = some n
theorem tg_good {w : Cond} (h : w ∈ TG) : (w.onTables && w.keeps) = true ∨ ∃ ty, w = .arrayClass ty := good_of_word (List.mem_filter.mp h).2
theorem tg_in {y : MethodName} {b : ByteArray} {ml : Nat} {rt : Option FieldType} (h : Cond.code y b ml rt ∈ TG) : GoodIn TG (Wd y b ml rt) := fun w hw => by
  rcases List.mem_cons.mp hw with rfl | hw
  · exact ⟨h, tg_good h⟩
  · exact ⟨hw, tg_good hw⟩
section CALL
variable {p : Program} {l : Launch} {e : Env} {R : Room} {s : State} {m : MethodId} {args : Array Value} {below : List Frame} {meth : Method} {c : Code} {H : Heap} {locs : List Loc} {cells slots : Nat} {Q : State → Prop} {cc : ByteArray} {pc : Nat} {ls : Array Slot} {st rest : List Value} {A : Nat → Prop}
variable {own C : String} {idx n ml nL mc ms bb ci N0 : Nat} {y : MethodName} {b : ByteArray} {rt : Option FieldType} {rm : Room} {As : List Value} {fs : List Value} {T0 : u_T} {E : EE} {bs cb : List va_W} {Qc : Array Value → State → Outcome → State → Prop} {free : Addr → Prop} {isC : List Nat}
/-- a callee's start, out of the caller's middle -/
theorem pb_of (hK : va_K E.1 vwCl (tyl E.2.1) s) (hZ : ZZ E A s s.heap) (hA : ∀ q, s.heap.size ≤ q → A q) (hS : va_S A s.heap H locs) (hP : va_P E.1 vwCl bs.flatten H) (hD : va_D A bs.flatten) (hC : isC.map (fun i => bs[i]?) = cb.map some) (hn : va_nd isC = true) {U : State} (hU : U.heap = H) (hW : s.WarmedH U.vm) : PB E H.size cb U := by
  have hF := bk_free hC hD hS hA
  refine ⟨by rw [hU], by rw [hU]; exact bk_P hC hP, va_K.moved hW.alike hK, (bk_pick hC hn hD).weaken (fun _ _ _ _ => trivial), ?_⟩
  rw [hU]
  exact ((hZ.kept (fun a h1 h2 => hS.2.1 a h1 h2)).narrow hF).warm hW
theorem run_V (hx : p.tables.exec = Jvm.exec) (hb : c.code = cc) (hml : c.maxLocals = nL) (hown : s.vm.findClass own = some m.cls) (hts : ∀ w ∈ TG, w.before args s = true) (hK : va_K E.1 vwCl (tyl E.2.1) s) (hZ : ZZ E A s s.heap) (hA : ∀ q, s.heap.size ≤ q → A q)
    (hM : Met l y (Wd y b ml rt) rm (va_Pc (.ref bb :: As) (PB E H.size cb)) Qc mc ms free) (w : CWV own idx C y b ml rt n) (hn : As.length = n) (hR : (rm.cells = mc ∧ rm.slots = ms) ∧ (rm.frames + 1 ≤ R.frames ∧ 8 + (ml + 11) + rm.locals ≤ R.locals))
    (ci : Nat) (hc : vwCl[ci]? = some (C, T0, N0)) (isC : List Nat) (hC : isC.map (fun i => bs[i]?) = cb.map some) (hnd : va_nd isC = true) (he : cb.flatten[0]? = some (bb, .inr (ci, fs))) (hP : va_P E.1 vwCl bs.flatten H) (hD : va_D A bs.flatten) (hS : va_S A s.heap H locs)
    (hlsz : ls.size = nL) (hst : st = As.reverse ++ .ref bb :: rest) (hcat : (rest.map fun v => v.category).sum ≤ 8) (hdg : decode cc pc = .ok (.invokevirtual idx, 3)) (hf : cells + mc ≤ R.cells ∧ slots + ms ≤ R.slots) :
    va_Run p l e R s m args below meth c H locs cells slots mc ms (F0 m pc ls st) rest (Qc (Value.ref bb :: As).toArray) free := by
  obtain ⟨⟨w1, w2, w3, w4, w5⟩, w6⟩ := w
  refine va_runV (As := As) (rest := rest) ⟨hx, hb, hml, hown, hts⟩ hM (cwV n hts (fun w hw => ?_) rfl hR.1.1 hR.1.2 w6 hR.2) ⟨PB_blind E H.size cb _, va_recv hK (bk_P hC hP) hc he, fun U hU hW => ⟨rfl, pb_of hK hZ hA hS hP hD hC hnd hU hW⟩⟩ rfl hn hlsz hst (lv_room hcat) hdg hf
  rcases List.mem_append.mp hw with hw | hw
  · simp only [List.mem_cons, List.not_mem_nil, or_false] at hw
    rcases hw with rfl | rfl | rfl | rfl
    · exact ⟨w1, tg_good w1⟩
    · exact ⟨w2, tg_good w2⟩
    · exact ⟨w3, tg_good w3⟩
    · exact ⟨w4, tg_good w4⟩
  · exact tg_in w5 w hw
theorem run_S (hx : p.tables.exec = Jvm.exec) (hb : c.code = cc) (hml : c.maxLocals = nL) (hown : s.vm.findClass own = some m.cls) (hts : ∀ w ∈ TG, w.before args s = true) (hK : va_K E.1 vwCl (tyl E.2.1) s) (hZ : ZZ E A s s.heap) (hA : ∀ q, s.heap.size ≤ q → A q)
    (hM : Met l y (Wd y b ml rt) rm (va_Pc As (PB E H.size cb)) Qc mc ms free) (w : CWS own idx y b ml rt n) (hn : As.length = n) (hR : (rm.cells = mc ∧ rm.slots = ms) ∧ (rm.frames + 1 ≤ R.frames ∧ 8 + (ml + 11) + rm.locals ≤ R.locals))
    (isC : List Nat) (hC : isC.map (fun i => bs[i]?) = cb.map some) (hnd : va_nd isC = true) (hP : va_P E.1 vwCl bs.flatten H) (hD : va_D A bs.flatten) (hS : va_S A s.heap H locs)
    (hlsz : ls.size = nL) (hst : st = As.reverse ++ rest) (hcat : (rest.map fun v => v.category).sum ≤ 8) (hdg : decode cc pc = .ok (.invokestatic idx, 3)) (hf : cells + mc ≤ R.cells ∧ slots + ms ≤ R.slots) :
    va_Run p l e R s m args below meth c H locs cells slots mc ms (F0 m pc ls st) rest (Qc As.toArray) free := by
  obtain ⟨⟨w1, w2, w3, w5⟩, w6⟩ := w
  exact va_runS (As := As) (rest := rest) ⟨hx, hb, hml, hown, hts⟩ hM ⟨callB_of n hts (tg_in w5) rfl hR.1.1 hR.1.2 (hts _ w3) (hts _ w1) w6 hR.2, hts _ w2⟩ ⟨PB_blind E H.size cb _, fun U hU hW => ⟨rfl, pb_of hK hZ hA hS hP hD hC hnd hU hW⟩⟩ rfl hn hlsz hst (lv_room hcat) hdg hf
/-- what a call leaves: the caller's blocks in the order that is asked for -/
theorem run_i {S : Type} {post : Int32 → S → Prop} {cb' : S → List va_W} {a : Array Value} (hr : va_Run p l e R s m args below meth c H locs cells slots mc ms (F0 m pc ls st) rest (va_Qi post (fun u t => QB E (va_A cb.flatten H.size) (cb' u) t) (va_A cb.flatten H.size) a) (va_A cb.flatten H.size))
    (hA : ∀ q, s.heap.size ≤ q → A q) (hP : va_P E.1 vwCl bs.flatten H) (hD : va_D A bs.flatten) (hS : va_S A s.heap H locs) (hC : isC.map (fun i => bs[i]?) = cb.map some) (isR ks : List Nat) {br : List va_W} {bs2 : S → List va_W} (hR : isR.map (fun i => bs[i]?) = br.map some) (hn : va_nd (isC ++ isR) = true)
    (hk : ∀ u, ks.map (fun i => (br ++ cb' u)[i]?) = (bs2 u).map some) (hk2 : va_nd ks = true)
    (kk : ∀ (r : Int32) (u : S) (H1 : Heap) (locs1 : List Loc), post r u → va_P E.1 vwCl (bs2 u).flatten H1 → va_D A (bs2 u).flatten → va_S A s.heap H1 locs1 → W p l e R s m args below meth c H1 locs1 (cells + mc) (slots + ms) Q (F0 m (pc + 3) ls (.int r :: rest))) : W p l e R s m args below meth c H locs cells slots Q (F0 m pc ls st) := by
  have hF := bk_free hC hD hS hA
  refine va_calli hr hS (fun q _ h => hF q h) hF (fun r u t H1 locs1 ht hvm hw hB hz1 hk1 hS1 => ?_)
  obtain ⟨hP1, -, hD1⟩ := hB
  rw [ht] at hP1
  obtain ⟨g1, g2⟩ := bk_call hC hR hn (hk u) hk2 hP hD hk1 hF hP1 hD1
  exact kk r u H1 locs1 hw g1 g2 hS1
theorem run_l {S : Type} {post : Int64 → S → Prop} {cb' : S → List va_W} {a : Array Value} (hr : va_Run p l e R s m args below meth c H locs cells slots mc ms (F0 m pc ls st) rest (va_Ql post (fun u t => QB E (va_A cb.flatten H.size) (cb' u) t) (va_A cb.flatten H.size) a) (va_A cb.flatten H.size))
    (hA : ∀ q, s.heap.size ≤ q → A q) (hP : va_P E.1 vwCl bs.flatten H) (hD : va_D A bs.flatten) (hS : va_S A s.heap H locs) (hC : isC.map (fun i => bs[i]?) = cb.map some) (isR ks : List Nat) {br : List va_W} {bs2 : S → List va_W} (hR : isR.map (fun i => bs[i]?) = br.map some) (hn : va_nd (isC ++ isR) = true)
    (hk : ∀ u, ks.map (fun i => (br ++ cb' u)[i]?) = (bs2 u).map some) (hk2 : va_nd ks = true)
    (kk : ∀ (r : Int64) (u : S) (H1 : Heap) (locs1 : List Loc), post r u → va_P E.1 vwCl (bs2 u).flatten H1 → va_D A (bs2 u).flatten → va_S A s.heap H1 locs1 → W p l e R s m args below meth c H1 locs1 (cells + mc) (slots + ms) Q (F0 m (pc + 3) ls (.long r :: rest))) : W p l e R s m args below meth c H locs cells slots Q (F0 m pc ls st) := by
  have hF := bk_free hC hD hS hA
  refine va_calll hr hS (fun q _ h => hF q h) hF (fun r u t H1 locs1 ht hvm hw hB hz1 hk1 hS1 => ?_)
  obtain ⟨hP1, -, hD1⟩ := hB
  rw [ht] at hP1
  obtain ⟨g1, g2⟩ := bk_call hC hR hn (hk u) hk2 hP hD hk1 hF hP1 hD1
  exact kk r u H1 locs1 hw g1 g2 hS1
theorem run_v {S : Type} {post : S → Prop} {cb' : S → List va_W} {a : Array Value} (hr : va_Run p l e R s m args below meth c H locs cells slots mc ms (F0 m pc ls st) rest (va_Qv post (fun u t => QB E (va_A cb.flatten H.size) (cb' u) t) (va_A cb.flatten H.size) a) (va_A cb.flatten H.size))
    (hA : ∀ q, s.heap.size ≤ q → A q) (hP : va_P E.1 vwCl bs.flatten H) (hD : va_D A bs.flatten) (hS : va_S A s.heap H locs) (hC : isC.map (fun i => bs[i]?) = cb.map some) (isR ks : List Nat) {br : List va_W} {bs2 : S → List va_W} (hR : isR.map (fun i => bs[i]?) = br.map some) (hn : va_nd (isC ++ isR) = true)
    (hk : ∀ u, ks.map (fun i => (br ++ cb' u)[i]?) = (bs2 u).map some) (hk2 : va_nd ks = true)
    (kk : ∀ (u : S) (H1 : Heap) (locs1 : List Loc), post u → va_P E.1 vwCl (bs2 u).flatten H1 → va_D A (bs2 u).flatten → va_S A s.heap H1 locs1 → W p l e R s m args below meth c H1 locs1 (cells + mc) (slots + ms) Q (F0 m (pc + 3) ls rest)) : W p l e R s m args below meth c H locs cells slots Q (F0 m pc ls st) := by
  have hF := bk_free hC hD hS hA
  refine va_callv hr hS (fun q _ h => hF q h) hF (fun u t H1 locs1 ht hvm hw hB hz1 hk1 hS1 => ?_)
  obtain ⟨hP1, -, hD1⟩ := hB
  rw [ht] at hP1
  obtain ⟨g1, g2⟩ := bk_call hC hR hn (hk u) hk2 hP hD hk1 hF hP1 hD1
  exact kk u H1 locs1 hw g1 g2 hS1
end CALL
section NB
variable {p : Program} {l : Launch} {e : Env} {R : Room} {s : State} {m : MethodId} {args : Array Value} {below : List Frame} {meth : Method} {c : Code} {H : Heap} {locs : List Loc} {cells slots : Nat} {Q : State → Prop} {cc : ByteArray} {pc : Nat} {ls : Array Slot} {rest : List Value}
theorem nv_ishl (hx : p.tables.exec = Jvm.exec) (hb : c.code = cc) {a k : Nat} (h : k < 32) (h2 : a * 2 ^ k < 2 ^ 32) (hdg : decode cc pc = .ok (.ishl, 1))
    (kk : W p l e R s m args below meth c H locs cells slots Q (F0 m (pc + 1) ls (.int (nI (a * 2 ^ k)) :: rest))) : W p l e R s m args below meth c H locs cells slots Q (F0 m pc ls (.int (nI k) :: .int (nI a) :: rest)) :=
  lv_ishl hx hb hdg (tp_i (pk_shlN _ k (s_l k h) h2) kk)
theorem nv_ishr (hx : p.tables.exec = Jvm.exec) (hb : c.code = cc) {a k : Nat} (h : k < 32) (h2 : a < 2 ^ 31) (hdg : decode cc pc = .ok (.ishr, 1))
    (kk : W p l e R s m args below meth c H locs cells slots Q (F0 m (pc + 1) ls (.int (nI (a / 2 ^ k)) :: rest))) : W p l e R s m args below meth c H locs cells slots Q (F0 m pc ls (.int (nI k) :: .int (nI a) :: rest)) :=
  lv_ishr hx hb hdg (tp_i (pk_shrN h2 _ k (s_l k h)) kk)
theorem nv_iushr (hx : p.tables.exec = Jvm.exec) (hb : c.code = cc) {a k : Nat} (h : k < 32) (h2 : a < 2 ^ 32) (hdg : decode cc pc = .ok (.iushr, 1))
    (kk : W p l e R s m args below meth c H locs cells slots Q (F0 m (pc + 1) ls (.int (nI (a / 2 ^ k)) :: rest))) : W p l e R s m args below meth c H locs cells slots Q (F0 m pc ls (.int (nI k) :: .int (nI a) :: rest)) :=
  lv_iushr hx hb hdg (pk_ushrN h2 _ k (s_u k h)) kk
theorem nv_ior (hx : p.tables.exec = Jvm.exec) (hb : c.code = cc) {a k : Nat} (hdg : decode cc pc = .ok (.ior, 1))
    (kk : W p l e R s m args below meth c H locs cells slots Q (F0 m (pc + 1) ls (.int (nI (a ||| k)) :: rest))) : W p l e R s m args below meth c H locs cells slots Q (F0 m pc ls (.int (nI k) :: .int (nI a) :: rest)) :=
  lv_ior hx hb hdg (tp_i (fa_or a k) kk)
theorem nv_iand (hx : p.tables.exec = Jvm.exec) (hb : c.code = cc) {a k : Nat} (hdg : decode cc pc = .ok (.iand, 1))
    (kk : W p l e R s m args below meth c H locs cells slots Q (F0 m (pc + 1) ls (.int (nI (a &&& k)) :: rest))) : W p l e R s m args below meth c H locs cells slots Q (F0 m pc ls (.int (nI k) :: .int (nI a) :: rest)) :=
  lv_iand hx hb hdg (tp_i (fa_and a k) kk)
theorem nv_lshl (hx : p.tables.exec = Jvm.exec) (hb : c.code = cc) {a k : Nat} (h : k < 64) (hdg : decode cc pc = .ok (.lshl, 1))
    (kk : W p l e R s m args below meth c H locs cells slots Q (F0 m (pc + 1) ls (.long (lN (a * 2 ^ k)) :: rest))) : W p l e R s m args below meth c H locs cells slots Q (F0 m pc ls (.int (nI k) :: .long (lN a) :: rest)) :=
  lv_lshl hx hb hdg (wb_shl a h) kk
theorem nv_lor (hx : p.tables.exec = Jvm.exec) (hb : c.code = cc) {a k : Nat} (ha : a < 2 ^ 64) (hk : k < 2 ^ 64) (hdg : decode cc pc = .ok (.lor, 1))
    (kk : W p l e R s m args below meth c H locs cells slots Q (F0 m (pc + 1) ls (.long (lN (a ||| k)) :: rest))) : W p l e R s m args below meth c H locs cells slots Q (F0 m pc ls (.long (lN k) :: .long (lN a) :: rest)) :=
  lv_lor hx hb hdg (tp_l (wb_or ha hk) kk)
theorem nv_land (hx : p.tables.exec = Jvm.exec) (hb : c.code = cc) {a k : Nat} (ha : a < 2 ^ 64) (hk : k < 2 ^ 64) (hdg : decode cc pc = .ok (.land, 1))
    (kk : W p l e R s m args below meth c H locs cells slots Q (F0 m (pc + 1) ls (.long (lN (a &&& k)) :: rest))) : W p l e R s m args below meth c H locs cells slots Q (F0 m pc ls (.long (lN k) :: .long (lN a) :: rest)) :=
  lv_land hx hb hdg (tp_l (wb_and ha hk) kk)
theorem fb_bm {z : Int} (h1 : -2147483648 ≤ z) (h2 : z < 2147483648) : z.bmod (2 ^ 32) = z := by rw [Int.bmod_def]; split <;> omega
/-- a remainder of numbers that may be negative -/
theorem irem_t {x y : Int32} {X Y : Int} (hx : x.toInt = X) (hy : y.toInt = Y) (h1 : -1073741824 < X) (h2 : X < 1073741824) (h3 : 0 < Y) (h4 : Y < 1073741824) : (x - x / y * y).toInt = X.tmod Y := by
  have hq := Int.natAbs_tdiv_le_natAbs X Y
  have e1 : (x / y).toInt = X.tdiv Y := by
    rw [Int32.toInt_div, hx, hy]
    exact fb_bm (by omega) (by omega)
  have h5 : X.tdiv Y * Y = X - X.tmod Y := by
    have := Int.mul_tdiv_add_tmod X Y
    rw [Int.mul_comm] at this
    omega
  have hb1 : -Y < X.tmod Y ∧ X.tmod Y < Y := ⟨Int.lt_tmod_of_pos X h3, Int.tmod_lt_of_pos X h3⟩
  have e2 : (x / y * y).toInt = X - X.tmod Y := by
    rw [Int32.toInt_mul, e1, hy, h5]
    exact fb_bm (by omega) (by omega)
  rw [Int32.toInt_sub, hx, e2, fb_bm (by omega) (by omega)]
  omega
theorem isub_t {x y : Int32} {X Y : Int} (hx : x.toInt = X) (hy : y.toInt = Y) (h1 : -2147483648 ≤ X - Y) (h2 : X - Y < 2147483648) : (x - y).toInt = X - Y := by
  rw [Int32.toInt_sub, hx, hy, fb_bm (by omega) (by omega)]
theorem iadd_t {x y : Int32} {X Y : Int} (hx : x.toInt = X) (hy : y.toInt = Y) (h1 : -2147483648 ≤ X + Y) (h2 : X + Y < 2147483648) : (x + y).toInt = X + Y := by
  rw [Int32.toInt_add, hx, hy, fb_bm (by omega) (by omega)]
/-- a number out of an int that isn't negative -/
theorem raw_n {x : Int32} (h : 0 ≤ x.toInt) : ∃ t : Nat, t < 2147483648 ∧ x = nI t ∧ x.toInt = (t : Int) := by
  obtain ⟨j, h1, h2⟩ := nI_of (x := x) (by rw [Int32.lt_iff_toInt_lt]; show ¬ x.toInt < 0; omega)
  exact ⟨j, h1, h2, by rw [h2]; exact nI_toInt h1⟩
theorem nI_tI {n : Nat} (h : n < 2147483648) : (nI n).toInt = (n : Int) := nI_toInt h
end NB
section NC
variable {p : Program} {l : Launch} {e : Env} {R : Room} {s : State} {m : MethodId} {args : Array Value} {below : List Frame} {meth : Method} {c : Code} {H : Heap} {locs : List Loc} {cells slots : Nat} {Q : State → Prop} {cc : ByteArray} {pc : Nat} {ls : Array Slot} {st rest : List Value} {A : Nat → Prop}
/-- an array's cell says of its places alone -/
theorem arr_ext {cA : ClassId} {n : Nat} {f g : Nat → Int32} (h : ∀ j, j < n → f j = g j) : vp_cell cA (n, .inl f) = vp_cell cA (n, .inl g) := by
  show arrV cA n (fun j => .int (f j)) = arrV cA n (fun j => .int (g j))
  unfold arrV
  congr 1
  apply Array.ext
  · simp
  · intro i h1 h2
    simp only [Array.size_ofFn] at h1
    simp [h i h1]
theorem P_ext {D : va_G} {cl : List vw_C} {ws : va_W} {H : Heap} {k a : Nat} {cA : ClassId} {n : Nat} {f g : Nat → Int32} (hk : ws[k]? = some (a, .inl (cA, n, .inl f))) (h : ∀ j, j < n → f j = g j) (hP : va_P D cl ws H) : va_P D cl (ws.set k (a, .inl (cA, n, .inl g))) H := by
  intro i q hq
  rw [List.getElem?_set] at hq
  split at hq
  · rename_i hi
    subst hi
    split at hq
    · cases hq
      have := hP k _ hk
      show H[a]? = some (vp_cell cA (n, .inl g))
      rw [← arr_ext h]
      exact this
    · cases hq
  · exact hP i q hq
theorem nv_copy (hx : p.tables.exec = Jvm.exec) (hb : c.code = cc) (hml : c.maxLocals = ls.size) {own : String} {index : Nat} (hown : s.vm.findClass own = some m.cls) (hlink : (Cond.methodLink own index arraycopyName).before args s = true) (hnat : (Cond.native arraycopyName).before args s = true) (hstat : (Cond.static arraycopyName).before args s = true) (hini : (Cond.initialized "java/lang/System").before args s = true)
    {D : va_G} {cl : List vw_C} {tys : List (ClassId × FieldType)} {ws : va_W} {H0 : Heap} (hK : va_K D cl tys s) (hP : va_P D cl ws H) (hD : va_D A ws) (hS : va_S A H0 H locs) (q16 q17 t0 : Nat) {a a0 : Nat} {c0 : ClassId} {n : Nat} {f g : Nat → Nat} (ha0 : ws[q16]? = some (a0, .inl (c0, n, .inl (fun j => nI (f j))))) (ha1 : ws[q17]? = some (a, .inl (c0, n, .inl (fun j => nI (g j))))) (ht0 : tys[t0]? = some (c0, .int)) (hn : n < 2 ^ 31)
    (hframes : 1 ≤ R.frames) (hlocals : (rest.map fun v => v.category).sum + (nativeFrameWords "java/lang/System" "arraycopy" 5 + 11) ≤ R.locals) (hdg : decode cc pc = .ok (.invokestatic index, 3))
    (kk : ∀ (H1 : Heap) (locs1 : List Loc), va_P D cl (ws.set q17 (a, .inl (c0, n, .inl (fun j => nI (f j))))) H1 → va_D A (ws.set q17 (a, .inl (c0, n, .inl (fun j => nI (f j))))) → va_S A H0 H1 locs1 → W p l e R s m args below meth c H1 locs1 cells slots Q (F0 m (pc + 3) ls rest)) : W p l e R s m args below meth c H locs cells slots Q (F0 m pc ls (.int (nI n) :: .int (nI 0) :: .ref a :: .int (nI 0) :: .ref a0 :: rest)) := by
  have e0 : (nI 0).toNatClampNeg = 0 := nI_clamp (by omega)
  have e1 : (nI n).toNatClampNeg = n := nI_clamp hn
  refine va_copyi hx hb hml hown hlink hnat hstat hini hK hP hD hS q16 q17 t0 t0 ha0 ha1 ht0 ht0 rfl (nI_pos (by omega)) (nI_pos (by omega)) (nI_pos hn) (by rw [e0, e1]; omega) (by rw [e0, e1]; omega) (fun _ _ => rfl) hframes hlocals hdg (fun H1 locs1 hP1 hD1 hS1 => ?_)
  rw [e0, e1] at hP1
  have hq : q17 < ws.length := (List.getElem?_eq_some_iff.mp ha1).1
  have h2 := P_ext (k := q17) (g := fun j => nI (f j)) (List.getElem?_set_self hq) (fun j hj => by show va_cpy _ _ 0 0 n j = _; rw [pk_cpy_in (by omega) (by omega)]; simp) hP1
  rw [List.set_set] at h2
  exact kk H1 locs1 h2 (hD.set ha1) hS1
variable {own C : String} {idx n ml nL mc ms bb ci N0 : Nat} {y : MethodName} {b : ByteArray} {rt : Option FieldType} {rm : Room} {As : List Value} {fs : List Value} {T0 : u_T} {E : EE} {bs cb : List va_W} {Qc : Array Value → State → Outcome → State → Prop} {free : Addr → Prop} {isC : List Nat}
/-- a static call of a nest mate's private method -/
theorem run_SN {host : String} (hx : p.tables.exec = Jvm.exec) (hb : c.code = cc) (hml : c.maxLocals = nL) (hown : s.vm.findClass own = some m.cls) (hts : ∀ w ∈ TG, w.before args s = true) (hK : va_K E.1 vwCl (tyl E.2.1) s) (hZ : ZZ E A s s.heap) (hA : ∀ q, s.heap.size ≤ q → A q)
    (hM : Met l y (Wd y b ml rt) rm (va_Pc As (PB E H.size cb)) Qc mc ms free) (w0 : (own, idx, y, host) ∈ NBW) (w : (Cond.static y ∈ TG ∧ Cond.initialized y.cls ∈ TG ∧ Cond.code y b ml rt ∈ TG) ∧ y.cls ≠ "java/lang/invoke/MethodHandle" ∧ y.cls ≠ "java/lang/invoke/VarHandle" ∧ (parseMethodDescriptor y.desc).map (fun d => d.parameters.length) = some n) (hn : As.length = n) (hR : (rm.cells = mc ∧ rm.slots = ms) ∧ (rm.frames + 1 ≤ R.frames ∧ 8 + (ml + 11) + rm.locals ≤ R.locals))
    (isC : List Nat) (hC : isC.map (fun i => bs[i]?) = cb.map some) (hnd : va_nd isC = true) (hP : va_P E.1 vwCl bs.flatten H) (hD : va_D A bs.flatten) (hS : va_S A s.heap H locs)
    (hlsz : ls.size = nL) (hst : st = As.reverse ++ rest) (hcat : (rest.map fun v => v.category).sum ≤ 8) (hdg : decode cc pc = .ok (.invokestatic idx, 3)) (hf : cells + mc ≤ R.cells ∧ slots + ms ≤ R.slots) :
    va_Run p l e R s m args below meth c H locs cells slots mc ms (F0 m pc ls st) rest (Qc As.toArray) free := by
  obtain ⟨⟨w1, w2, w3⟩, w6⟩ := w
  exact va_runSN (As := As) (rest := rest) ⟨hx, hb, hml, hown, hts⟩ hM ⟨va_cnB n hts (tg_in w3) rfl hR.1.1 hR.1.2 (hZ.2.1 _ w0) (hts _ w2) w6 hR.2, hts _ w1, trivial⟩ ⟨PB_blind E H.size cb _, fun U hU hW => ⟨rfl, pb_of hK hZ hA hS hP hD hC hnd hU hW⟩⟩ rfl hn hlsz hst (lv_room hcat) hdg hf
end NC
