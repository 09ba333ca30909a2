/-! the line: a StringBuilder of Latin-1 letters -/
def sbO (E : EE) (y : Nat → Nat) (v ml n : Nat) : va_W := [(y 0, .inr (1, [.ref v, .int (nI 0), .int (nI ml), .int (nI n)]))]
def baC (E : EE) (v m : Nat) (t : Nat → Nat) : va_W := [(v, .inl (E.2.1 2, m, .inl (fun j => nI (t j))))]
/-- the letters that have been written -/
def TX (t : Nat → Nat) (L : List Nat) : Prop := ∀ j, j < L.length → t j = L.getD j 0
theorem TX_0 {t : Nat → Nat} : TX t [] := fun j h => absurd h (Nat.not_lt_zero j)
theorem TX_keep {t t2 : Nat → Nat} {L : List Nat} (h : TX t L) (hk : ∀ j, j < L.length → t2 j = t j) : TX t2 L := fun j hj => (hk j hj).trans (h j hj)
theorem getD_app1 {L M : List Nat} {j : Nat} (h : j < L.length) : (L ++ M).getD j 0 = L.getD j 0 := by
  rw [List.getD_eq_getElem?_getD, List.getElem?_append_left h, ← List.getD_eq_getElem?_getD]
theorem getD_app2 {L M : List Nat} {j : Nat} : (L ++ M).getD (L.length + j) 0 = M.getD j 0 := by
  rw [List.getD_eq_getElem?_getD, List.getElem?_append_right (Nat.le_add_right _ _), Nat.add_sub_cancel_left, ← List.getD_eq_getElem?_getD]
theorem TX_app {t : Nat → Nat} {L M : List Nat} (h : ∀ j, j < L.length → t j = L.getD j 0) (h2 : ∀ i, i < M.length → t (L.length + i) = M.getD i 0) : TX t (L ++ M) := by
  intro j hj
  rcases Nat.lt_or_ge j L.length with c | c
  · rw [getD_app1 c]; exact h j c
  · obtain ⟨i, rfl⟩ : ∃ i, j = L.length + i := ⟨j - L.length, by omega⟩
    rw [getD_app2]
    exact h2 i (by rw [List.length_append] at hj; omega)
theorem flat_app {bs : List va_W} {b : va_W} : bs.flatten ++ b = (bs ++ [b]).flatten := by simp
theorem byt_n : ∀ n, n < 128 → vp_nar .byte (nI n) = nI n := by decide +kernel
theorem byt_fit : ∀ n, n < 128 → fits .byte (.int (nI n)) = true := by decide +kernel
theorem i2b_n : ∀ n, n < 128 → (nI n).toInt8.toInt32 = nI n := by decide +kernel
section NBY
variable {p : Program} {l : Launch} {e : Env} {R : Room} {s : State} {m : MethodId} {args : Array Value} {below : List Frame} {meth : Method} {c : Code} {H : Heap} {locs : List Loc} {cells slots : Nat} {Q : State → Prop} {cc : ByteArray} {pc : Nat} {ls : Array Slot} {rest : List Value} {D : va_G} {cl : List vw_C} {tys : List (ClassId × FieldType)} {ws : va_W} {A : Nat → Prop} {H0 : Heap} {a : Nat}
theorem nv_bald (hexec : p.tables.exec = Jvm.exec) (hb : c.code = cc) (hK : va_K D cl tys s) (hP : va_P D cl ws H) (q16 t0 : Nat) {cA : ClassId} {n : Nat} {f : Nat → Nat} (ha : ws[q16]? = some (a, .inl (cA, n, .inl (fun j => nI (f j))))) (ht : tys[t0]? = some (cA, .byte)) {i : Nat} (hin : i < n) (hn : n < 2 ^ 31) (hdg : decode cc pc = .ok (.baload, 1))
    (kk : W p l e R s m args below meth c H locs cells slots Q (F0 m (pc + 1) ls (.int (nI (f i)) :: rest))) : W p l e R s m args below meth c H locs cells slots Q (F0 m pc ls (.int (nI i) :: .ref a :: rest)) :=
  va_bald hexec hb hK hP q16 t0 ha ht (vp_in_nI hin hn) hdg (by rw [nI_clamp (by omega)]; exact kk)
theorem nv_bast (hexec : p.tables.exec = Jvm.exec) (hb : c.code = cc) (hK : va_K D cl tys s) (hP : va_P D cl ws H) (hD : va_D A ws) (hS : va_S A H0 H locs) (q16 t0 : Nat) {cA : ClassId} {n : Nat} {f : Nat → Nat} (ha : ws[q16]? = some (a, .inl (cA, n, .inl (fun j => nI (f j))))) (ht : tys[t0]? = some (cA, .byte)) {i v : Nat} (hin : i < n) (hn : n < 2 ^ 31) (hv : v < 128) (hdg : decode cc pc = .ok (.bastore, 1))
    (kk : ∀ (H1 : Heap) (locs1 : List Loc), va_P D cl (ws.set q16 (a, .inl (cA, n, .inl (fun j => nI (upn f i v j))))) H1 → va_D A (ws.set q16 (a, .inl (cA, n, .inl (fun j => nI (upn f i v j))))) → va_S A H0 H1 locs1 → W p l e R s m args below meth c H1 locs1 cells slots Q (F0 m (pc + 1) ls rest)) : W p l e R s m args below meth c H locs cells slots Q (F0 m pc ls (.int (nI v) :: .int (nI i) :: .ref a :: rest)) :=
  va_bast hexec hb hK hP hD hS q16 t0 ha ht (vp_in_nI hin hn) hdg (by
    rw [nI_clamp (by omega), byt_n v hv, upd_nI]; exact kk)
/-- bytes copied into the start of a longer row -/
theorem nv_bcopy (hx : p.tables.exec = Jvm.exec) (hb : c.code = cc) (hml : c.maxLocals = ls.size) {own : String} {index : Nat} (hown : s.vm.findClass own = some m.cls) (hlink : (Cond.methodLink own index arraycopyName).before args s = true) (hnat : (Cond.native arraycopyName).before args s = true) (hstat : (Cond.static arraycopyName).before args s = true) (hini : (Cond.initialized "java/lang/System").before args s = true)
    (hK : va_K D cl tys s) (hP : va_P D cl ws H) (hD : va_D A ws) (hS : va_S A H0 H locs) (q16 q17 t0 : Nat) {a0 : Nat} {c0 : ClassId} {n n1 : Nat} {f g : Nat → Nat} (ha0 : ws[q16]? = some (a0, .inl (c0, n, .inl (fun j => nI (f j))))) (ha1 : ws[q17]? = some (a, .inl (c0, n1, .inl (fun j => nI (g j))))) (ht0 : tys[t0]? = some (c0, .byte)) (hnn : n ≤ n1) (hn : n1 < 2 ^ 31) (hf : ∀ j, f j < 128)
    (hframes : 1 ≤ R.frames) (hlocals : (rest.map fun v => v.category).sum + (nativeFrameWords "java/lang/System" "arraycopy" 5 + 11) ≤ R.locals) (hdg : decode cc pc = .ok (.invokestatic index, 3))
    (kk : ∀ (H1 : Heap) (locs1 : List Loc), va_P D cl (ws.set q17 (a, .inl (c0, n1, .inl (fun j => nI (if j < n then f j else g j))))) H1 → va_D A (ws.set q17 (a, .inl (c0, n1, .inl (fun j => nI (if j < n then f j else g j))))) → va_S A H0 H1 locs1 → W p l e R s m args below meth c H1 locs1 cells slots Q (F0 m (pc + 3) ls rest)) : W p l e R s m args below meth c H locs cells slots Q (F0 m pc ls (.int (nI n) :: .int (nI 0) :: .ref a :: .int (nI 0) :: .ref a0 :: rest)) := by
  have e0 : (nI 0).toNatClampNeg = 0 := nI_clamp (by omega)
  have e1 : (nI n).toNatClampNeg = n := nI_clamp (by omega)
  refine va_copyi hx hb hml hown hlink hnat hstat hini hK hP hD hS q16 q17 t0 t0 ha0 ha1 ht0 ht0 rfl (nI_pos (by omega)) (nI_pos (by omega)) (nI_pos (by omega)) (by rw [e0, e1]; omega) (by rw [e0, e1]; omega) (fun j _ => by first | rfl | exact byt_fit _ (hf _)) hframes hlocals hdg (fun H1 locs1 hP1 hD1 hS1 => ?_)
  rw [e0, e1] at hP1
  have hq : q17 < ws.length := (List.getElem?_eq_some_iff.mp ha1).1
  have h2 := P_ext (k := q17) (g := fun j => nI (if j < n then f j else g j)) (List.getElem?_set_self hq) (fun j hj => by
    show va_cpy _ _ 0 0 n j = _
    by_cases hjn : j < n
    · rw [pk_cpy_in (by omega) (by omega), if_pos hjn]; simp
    · rw [pk_cpy_out (by omega), if_neg hjn]) hP1
  rw [List.set_set] at h2
  exact kk H1 locs1 h2 (hD.set ha1) hS1
end NBY
section NNW
variable {p : Program} {l : Launch} {e : Env} {R : Room} {s : State} {m : MethodId} {args : Array Value} {below : List Frame} {meth : Method} {c : Code} {H : Heap} {locs : List Loc} {cells slots : Nat} {Q : State → Prop} {cc : ByteArray} {pc : Nat} {ls : Array Slot} {rest : List Value} {ws : va_W} {A : Nat → Prop} {H0 : Heap} {E : EE}
theorem uq_int (hK : va_K E.1 vwCl (tyl E.2.1) s) (c : ClassId) (h : va_RA s c .int) : c = E.2.1 0 := Option.some.inj ((va_nm_int h).symm.trans (va_nm_int (hK.2 0 _ rfl).2))
theorem uq_char (hK : va_K E.1 vwCl (tyl E.2.1) s) (c : ClassId) (h : va_RA s c .char) : c = E.2.1 1 := Option.some.inj ((va_nm_char h).symm.trans (va_nm_char (hK.2 1 _ rfl).2))
theorem uq_byte (hK : va_K E.1 vwCl (tyl E.2.1) s) (c : ClassId) (h : va_RA s c .byte) : c = E.2.1 2 := Option.some.inj ((va_nm_byte h).symm.trans (va_nm_byte (hK.2 2 _ rfl).2))
/-- a new row of numbers, all 0 -/
theorem nv_newt (hexec : p.tables.exec = Jvm.exec) (hb : c.code = cc) {atype : ArrayType} (harr : (Cond.arrayClass (newarray.typeOf atype)).before args s = true) {ty : FieldType} (hty : newarray.typeOf atype = ty) (hK : va_K E.1 vwCl (tyl E.2.1) s) (hP : va_P E.1 vwCl ws H) (hD : va_D A ws) (hS : va_S A H0 H locs) (hA : ∀ q, H0.size ≤ q → A q) (t0 : Nat) (huq : ∀ c, va_RA s c ty → c = E.2.1 t0)
    {n : Nat} (hv : ∀ cA : ClassId, vp_cell cA (n, .inl (fun _ => nI 0)) = arrV cA n (fun _ => defaultValue ty)) (hn : n < 2 ^ 31) (hbytes : n * componentBytes ty ≤ 536870912) (hcells : cells + 1 ≤ R.cells) (hslots : slots + n ≤ R.slots) (hdg : decode cc pc = .ok (.newarray atype, 2))
    (kk : ∀ (q : Nat) (H1 : Heap), va_P E.1 vwCl (ws ++ [(q, .inl (E.2.1 t0, n, .inl (fun _ => nI 0)))]) H1 → va_D A (ws ++ [(q, .inl (E.2.1 t0, n, .inl (fun _ => nI 0)))]) → va_S A H0 H1 locs →
      W p l e R s m args below meth c H1 locs (cells + 1) (slots + n) Q (F0 m (pc + 2) ls (.ref q :: rest))) : W p l e R s m args below meth c H locs cells slots Q (F0 m pc ls (.int (nI n) :: rest)) := by
  refine va_newa hexec hb harr hty hK hP hD hS hA (a0 := (n, .inl (fun _ => nI 0))) hv (nI_pos (by omega)) (nI_clamp hn) hbytes hcells hslots hdg (fun q cA H1 hK1 hP1 hD1 hS1 => ?_)
  have hc : cA = E.2.1 t0 := huq cA (hK1.2 (tyl E.2.1).length (cA, ty) (by rw [List.getElem?_append_right (Nat.le_refl _), Nat.sub_self]; rfl)).2
  subst hc
  exact kk q H1 hP1 hD1 hS1
end NNW
/-! methods that answer a reference -/
abbrev MQ2 (l : Launch) (y : MethodName) (b : ByteArray) (ml : Nat) (rt : FieldType) (rm : Room) (Args : List Value) (E : EE) (sz : Nat) (bs : List va_W) {S : Type} (post : S → Prop) (ra : S → Nat) (bs' : S → List va_W) (mc ms : Nat) : Prop :=
  Met l y (Wd y b ml (some rt)) rm (va_Pc Args (PB E sz bs)) (va_Qr post (fun u a t => a = ra u ∧ QB E (va_A bs.flatten sz) (bs' u) t) (va_A bs.flatten sz)) mc ms (va_A bs.flatten sz)
section RR2
variable {p : Program} {l : Launch} {e : Env} {R : Room} {s : State} {m : MethodId} {args : Array Value} {below : List Frame} {meth : Method} {c : Code} {H : Heap} {locs : List Loc} {cells slots : Nat} {Q : State → Prop} {cc : ByteArray} {pc : Nat} {ls : Array Slot} {st rest : List Value} {A : Nat → Prop}
variable {mc ms : Nat} {E : EE} {bs cb : List va_W} {isC : List Nat}
theorem run_q {S : Type} {post : S → Prop} {cb' : S → List va_W} {ra : S → Nat} {a : Array Value} (hr : va_Run p l e R s m args below meth c H locs cells slots mc ms (F0 m pc ls st) rest (va_Qr post (fun u x t => x = ra u ∧ QB E (va_A cb.flatten H.size) (cb' u) t) (va_A cb.flatten H.size) a) (va_A cb.flatten H.size))
    (hA : ∀ q, s.heap.size ≤ q → A q) (hP : va_P E.1 vwCl bs.flatten H) (hD : va_D A bs.flatten) (hS : va_S A s.heap H locs) (hC : isC.map (fun i => bs[i]?) = cb.map some) (isR ks : List Nat) {br : List va_W} {bs2 : S → List va_W} (hR : isR.map (fun i => bs[i]?) = br.map some) (hn : va_nd (isC ++ isR) = true)
    (hk : ∀ u, ks.map (fun i => (br ++ cb' u)[i]?) = (bs2 u).map some) (hk2 : va_nd ks = true)
    (kk : ∀ (u : S) (H1 : Heap) (locs1 : List Loc), post u → va_P E.1 vwCl (bs2 u).flatten H1 → va_D A (bs2 u).flatten → va_S A s.heap H1 locs1 → W p l e R s m args below meth c H1 locs1 (cells + mc) (slots + ms) Q (F0 m (pc + 3) ls (.ref (ra u) :: rest))) : W p l e R s m args below meth c H locs cells slots Q (F0 m pc ls st) := by
  have hF := bk_free hC hD hS hA
  refine va_callr hr hS (fun q _ h => hF q h) hF (fun u x t H1 locs1 ht hvm hw hB hz1 hk1 hS1 => ?_)
  obtain ⟨rfl, hP1, -, hD1⟩ := hB
  rw [ht] at hP1
  obtain ⟨g1, g2⟩ := bk_call hC hR hn (hk u) hk2 hP hD hk1 hF hP1 hD1
  exact kk u H1 locs1 hw g1 g2 hS1
end RR2
section GOQ
variable {l : Launch} {y : MethodName} {cc : ByteArray} {ml : Nat} {rt : FieldType} {rm : Room} {Args : List Value} {E : EE} {sz : Nat} {bs : List va_W} {S : Type} {bs' : S → List va_W} {mc ms : Nat} {ra : S → Nat}
theorem mq_go {post : S → Prop} (hy : plainName y.cls = true) (hlen : (lg_sl Args).length ≤ ml) (hrt : (∃ n, rt = .object n) ∨ ∃ t, rt = .array t)
    (body : ∀ (p : Program) (e : Env) (s : State) (m : MethodId) (below : List Frame) (meth : Method) (c : Code) (A : Nat → Prop) (Q : State → Prop) (ls : Array Slot), p.tables.exec = Jvm.exec → c.code = cc → c.maxLocals = ml → s.vm.findClass y.cls = some m.cls → (∀ w ∈ TG, w.before Args.toArray s = true) → va_K E.1 vwCl (tyl E.2.1) s → ZZ E A s s.heap → (∀ q, s.heap.size ≤ q → A q) → s.heap.size = sz → va_P E.1 vwCl bs.flatten s.heap → va_D A bs.flatten → lv_has ls ml (lv_args 0 Args) →
      (∀ (H : Heap) (locs : List Loc) (u : S) (pc : Nat) (ls : Array Slot) (cells slots : Nat), va_P E.1 vwCl (bs' u).flatten H → va_D A (bs' u).flatten → va_S A s.heap H locs → post u → decode cc pc = .ok (.areturn, 1) → cells ≤ mc → slots ≤ ms → W p l e rm s m Args.toArray below meth c H locs cells slots Q (F0 m pc ls [.ref (ra u)])) →
      W p l e rm s m Args.toArray below meth c s.heap [] 0 0 Q (F0 m 0 ls [])) : MQ2 l y cc ml rt rm Args E sz bs post ra bs' mc ms := by
  refine Met.ofW (cc := cc) (maxL := ml) (ret := some rt) hy rfl ?_
  intro p e s m args below meth c s₁ B hml hv
  obtain ⟨rfl, hsz, hP, hK, hD0, hZ⟩ := hv
  rw [lg_entry_eq]
  refine body p e s m below meth c (va_A bs.flatten sz) _ _ B.exec B.bytes hml (findClass_of_methodNamed B.named) (fun w hw => atoms_spec B.pre w (List.mem_cons_of_mem _ hw)) hK hZ (fun q hq => Or.inr (by rw [← hsz]; exact hq)) hsz hP hD0.self (lv_entry Args hlen) ?_
  intro H locs u pc ls cells slots hP' hD' hS' hpost hdg hc hs
  exact W_widen hc hs (W.aret B.exec B.bytes B.returns hrt (Or.inr ⟨ra u, rfl⟩) (fun t ht hW => ⟨⟨u, ra u, rfl, hpost, rfl, by rw [ht]; exact hP', va_K.moved hW.alike hK, hD'⟩, hS'.F ht⟩) hS'.2.2 hdg B.notSynchronized)
end GOQ
abbrev MQx (l : Launch) (y : MethodName) (b : ByteArray) (ml : Nat) (rt : FieldType) (rm : Room) (Args : List Value) (E : EE) (sz : Nat) (bs : List va_W) {S : Type} (post : S → Prop) (ra : S → Nat) (bs' : S → List va_W) (mc ms : Nat) : Prop :=
  Met l y (Wd y b ml (some rt)) rm (va_Pc Args (PX E sz bs)) (va_Qr post (fun u a t => a = ra u ∧ QB E (va_A bs.flatten sz) (bs' u) t) (va_A bs.flatten sz)) mc ms (va_A bs.flatten sz)
section GOX
variable {l : Launch} {y : MethodName} {cc : ByteArray} {ml : Nat} {rt : FieldType} {rm : Room} {Args : List Value} {E : EE} {sz : Nat} {bs : List va_W} {S : Type} {bs' : S → List va_W} {mc ms : Nat} {ra : S → Nat}
theorem mq_gox {post : S → Prop} (hy : plainName y.cls = true) (hlen : (lg_sl Args).length ≤ ml) (hrt : (∃ n, rt = .object n) ∨ ∃ t, rt = .array t)
    (body : ∀ (p : Program) (e : Env) (s : State) (m : MethodId) (below : List Frame) (meth : Method) (c : Code) (A : Nat → Prop) (Q : State → Prop) (ls : Array Slot), p.tables.exec = Jvm.exec → c.code = cc → c.maxLocals = ml → s.vm.findClass y.cls = some m.cls → (∀ w ∈ TG, w.before Args.toArray s = true) → va_K E.1 vwCl (tyl E.2.1) s → ZZ E A s s.heap → DD s → (∀ q, s.heap.size ≤ q → A q) → s.heap.size = sz → va_P E.1 vwCl bs.flatten s.heap → va_D A bs.flatten → lv_has ls ml (lv_args 0 Args) →
      (∀ (H : Heap) (locs : List Loc) (u : S) (pc : Nat) (ls : Array Slot) (cells slots : Nat), va_P E.1 vwCl (bs' u).flatten H → va_D A (bs' u).flatten → va_S A s.heap H locs → post u → decode cc pc = .ok (.areturn, 1) → cells ≤ mc → slots ≤ ms → W p l e rm s m Args.toArray below meth c H locs cells slots Q (F0 m pc ls [.ref (ra u)])) →
      W p l e rm s m Args.toArray below meth c s.heap [] 0 0 Q (F0 m 0 ls [])) : MQx l y cc ml rt rm Args E sz bs post ra bs' mc ms := by
  refine Met.ofW (cc := cc) (maxL := ml) (ret := some rt) hy rfl ?_
  intro p e s m args below meth c s₁ B hml hv
  obtain ⟨rfl, ⟨hsz, hP, hK, hD0, hZ⟩, hDD⟩ := hv
  rw [lg_entry_eq]
  refine body p e s m below meth c (va_A bs.flatten sz) _ _ B.exec B.bytes hml (findClass_of_methodNamed B.named) (fun w hw => atoms_spec B.pre w (List.mem_cons_of_mem _ hw)) hK hZ hDD (fun q hq => Or.inr (by rw [← hsz]; exact hq)) hsz hP hD0.self (lv_entry Args hlen) ?_
  intro H locs u pc ls cells slots hP' hD' hS' hpost hdg hc hs
  exact W_widen hc hs (W.aret B.exec B.bytes B.returns hrt (Or.inr ⟨ra u, rfl⟩) (fun t ht hW => ⟨⟨u, ra u, rfl, hpost, rfl, by rw [ht]; exact hP', va_K.moved hW.alike hK, hD'⟩, hS'.F ht⟩) hS'.2.2 hdg B.notSynchronized)
end GOX
abbrev MVx (l : Launch) (y : MethodName) (b : ByteArray) (ml : Nat) (rm : Room) (Args : List Value) (E : EE) (sz : Nat) (bs : List va_W) {S : Type} (post : S → Prop) (bs' : S → List va_W) (mc ms : Nat) : Prop :=
  Met l y (Wd y b ml none) rm (va_Pc Args (PX E sz bs)) (va_Qv post (fun u t => QB E (va_A bs.flatten sz) (bs' u) t) (va_A bs.flatten sz)) mc ms (va_A bs.flatten sz)
section GOVX
variable {l : Launch} {y : MethodName} {cc : ByteArray} {ml : Nat} {rt : FieldType} {rm : Room} {Args : List Value} {E : EE} {sz : Nat} {bs : List va_W} {S : Type} {bs' : S → List va_W} {mc ms : Nat}
theorem mv_gox {post : S → Prop} (hy : plainName y.cls = true) (hlen : (lg_sl Args).length ≤ ml)
    (body : ∀ (p : Program) (e : Env) (s : State) (m : MethodId) (below : List Frame) (meth : Method) (c : Code) (A : Nat → Prop) (Q : State → Prop) (ls : Array Slot), p.tables.exec = Jvm.exec → c.code = cc → c.maxLocals = ml → s.vm.findClass y.cls = some m.cls → (∀ w ∈ TG, w.before Args.toArray s = true) → va_K E.1 vwCl (tyl E.2.1) s → ZZ E A s s.heap → DD s → (∀ q, s.heap.size ≤ q → A q) → s.heap.size = sz → va_P E.1 vwCl bs.flatten s.heap → va_D A bs.flatten → lv_has ls ml (lv_args 0 Args) →
      (∀ (H : Heap) (locs : List Loc) (u : S) (pc : Nat) (ls : Array Slot), va_P E.1 vwCl (bs' u).flatten H → va_D A (bs' u).flatten → va_S A s.heap H locs → post u → decode cc pc = .ok (.return_, 1) → W p l e rm s m Args.toArray below meth c H locs mc ms Q (F0 m pc ls [])) →
      (s.methodNamed? y = some m ∧ s.vm.method? m = some meth) →
      W p l e rm s m Args.toArray below meth c s.heap [] 0 0 Q (F0 m 0 ls [])) : MVx l y cc ml rm Args E sz bs post bs' mc ms := by
  refine Met.ofW (cc := cc) (maxL := ml) (ret := none) hy rfl ?_
  intro p e s m args below meth c s₁ B hml hv
  obtain ⟨rfl, ⟨hsz, hP, hK, hD0, hZ⟩, hDD⟩ := hv
  rw [lg_entry_eq]
  refine body p e s m below meth c (va_A bs.flatten sz) _ _ B.exec B.bytes hml (findClass_of_methodNamed B.named) (fun w hw => atoms_spec B.pre w (List.mem_cons_of_mem _ hw)) hK hZ hDD (fun q hq => Or.inr (by rw [← hsz]; exact hq)) hsz hP hD0.self (lv_entry Args hlen) ?_ ⟨B.named, B.method⟩
  intro H locs u pc ls hP' hD' hS' hpost hdg
  exact W.vret B.exec B.bytes B.returns (fun t ht hW => ⟨⟨u, rfl, hpost, by rw [ht]; exact hP', va_K.moved hW.alike hK, hD'⟩, hS'.F ht⟩) hS'.2.2 hdg B.notSynchronized
end GOVX
