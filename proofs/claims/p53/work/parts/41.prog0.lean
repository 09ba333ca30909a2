/-! the class's Program: its cells -/
def prC (E : EE) (a : Nat → Nat) (q : Nat → Nat) (F : GG) : va_W := [(a 0, .inr (7, [.ref (a 1), .ref (a 2), .ref (a 3), .int (nI (q 0)), .int (nI (q 1)), .int (nI (q 2))])),
  (a 1, .inl (E.2.1 1, 60, .inl (fun j => nI (F 0 j)))), (a 2, .inl (E.2.1 0, 8, .inl (fun j => nI (F 1 j)))), (a 3, .inl (E.2.1 0, 32, .inl (fun j => nI (F 2 j))))]
section NC9
variable {p : Program} {l : Launch} {e : Env} {R : Room} {s : State} {m : MethodId} {args : Array Value} {below : List Frame} {meth : Method} {c : Code} {H : Heap} {locs : List Loc} {cells slots : Nat} {Q : State → Prop} {cc : ByteArray} {pc : Nat} {ls : Array Slot} {rest : List Value} {D : va_G} {cl : List vw_C} {tys : List (ClassId × FieldType)} {ws : va_W} {A : Nat → Prop} {H0 : Heap} {a : Nat}
theorem nv_cald (hexec : p.tables.exec = Jvm.exec) (hb : c.code = cc) (hK : va_K D cl tys s) (hP : va_P D cl ws H) (q16 t0 : Nat) {cA : ClassId} {n : Nat} {f : Nat → Nat} (ha : ws[q16]? = some (a, .inl (cA, n, .inl (fun j => nI (f j))))) (ht : tys[t0]? = some (cA, .char)) {i : Nat} (hin : i < n) (hn : n < 2 ^ 31) (hdg : decode cc pc = .ok (.caload, 1))
    (kk : W p l e R s m args below meth c H locs cells slots Q (F0 m (pc + 1) ls (.int (nI (f i)) :: rest))) : W p l e R s m args below meth c H locs cells slots Q (F0 m pc ls (.int (nI i) :: .ref a :: rest)) :=
  va_cald hexec hb hK hP q16 t0 ha ht (vp_in_nI hin hn) hdg (by rw [nI_clamp (by omega)]; exact kk)
theorem nv_cast (hexec : p.tables.exec = Jvm.exec) (hb : c.code = cc) (hK : va_K D cl tys s) (hP : va_P D cl ws H) (hD : va_D A ws) (hS : va_S A H0 H locs) (q16 t0 : Nat) {cA : ClassId} {n : Nat} {f : Nat → Nat} (ha : ws[q16]? = some (a, .inl (cA, n, .inl (fun j => nI (f j))))) (ht : tys[t0]? = some (cA, .char)) {i v : Nat} (hin : i < n) (hn : n < 2 ^ 31) (hv : v < 65536) (hdg : decode cc pc = .ok (.castore, 1))
    (kk : ∀ (H1 : Heap) (locs1 : List Loc), va_P D cl (ws.set q16 (a, .inl (cA, n, .inl (fun j => nI (upn f i v j))))) H1 → va_D A (ws.set q16 (a, .inl (cA, n, .inl (fun j => nI (upn f i v j))))) → va_S A H0 H1 locs1 → W p l e R s m args below meth c H1 locs1 cells slots Q (F0 m (pc + 1) ls rest)) : W p l e R s m args below meth c H locs cells slots Q (F0 m pc ls (.int (nI v) :: .int (nI i) :: .ref a :: rest)) :=
  va_cast hexec hb hK hP hD hS q16 t0 ha ht (vp_in_nI hin hn) hdg (by
    rw [nI_clamp (by omega), show vp_nar .char (nI v) = nI v from by unfold vp_nar; rw [(pk_charN hv).1], upd_nI]; exact kk)
end NC9
