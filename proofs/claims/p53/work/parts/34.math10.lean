/-! one command, as the reference reads it -/
section LK9
variable {p : Program} {l : Launch} {e : Env} {R : Room} {s : State} {m : MethodId} {args : Array Value} {below : List Frame} {meth : Method} {c : Code} {H : Heap} {locs : List Loc} {cells slots : Nat} {Q : State → Prop} {cc : ByteArray} {pc : Nat} {ls : Array Slot} {rest : List Value}
theorem nv_lk (hx : p.tables.exec = Jvm.exec) (hb : c.code = cc) {dflt : Int} {ps : Array (Int × Int)} {len : Nat} {x : Int32} {X : Int} (hX : x.toInt = X) {off : Int} {tgt : Nat} (hdg : decode cc pc = .ok (.lookupswitch dflt ps, len)) (hp : (ps.toList.zip (ps.toList.drop 1)).all (fun (a, next) => a.1 < next.1) = true) (ho : Op.lookupswitch.offset ps.toList dflt X = off) (ht : (pc : Int) + off = (tgt : Int))
    (k : W p l e R s m args below meth c H locs cells slots Q (F0 m tgt ls rest)) : W p l e R s m args below meth c H locs cells slots Q (F0 m pc ls (.int x :: rest)) :=
  lv_lookup hx hb hdg hp (by rw [hX]; exact ho) ht k
end LK9
theorem osw9 {v a o d : Int} {r : List (Int × Int)} (h : ¬ v = a) : Op.lookupswitch.offset ((a, o) :: r) d v = Op.lookupswitch.offset r d v := by
  rw [Op.lookupswitch.offset_cons, if_neg]
  intro q
  exact h q.symm
theorem numR_le {tx : Nat → Nat} {e most sp w : Nat} {t : List Nat} (h : sp ≤ e) (hw : w ≤ 1) : sp ≤ (numR tx e t most sp w).1 ∧ (numR tx e t most sp w).1 ≤ e ∧ (numR tx e t most sp w).2.1 ≤ 1 ∧ (numR tx e t most sp w).2.2 + 1 ≤ 10 ^ most := by
  obtain ⟨a, b, c⟩ := sayR_le (tx := tx) (l := t) (w := w) h
  have hd := digR_le (tx := tx) (f := most) (n := 0) (d := 0) b
  have hn := digR_n (tx := tx) (e := e) (f := most) (sp := (sayR tx e t sp w).1) (n := 0) (d := 0) (by decide)
  have hp := Nat.pow_le_pow_right (n := 10) (by decide) (show (digR tx e most (sayR tx e t sp w).1 0 0).2.2 ≤ most by omega)
  have h1 := Nat.pow_le_pow_right (n := 10) (by decide) (show 0 ≤ most by omega)
  unfold numR
  split
  · refine ⟨Nat.le_trans a hd.1, hd.2.1, ?_, by show (digR tx e most (sayR tx e t sp w).1 0 0).2.1 + 1 ≤ 10 ^ most; omega⟩
    show (if _ then 1 else 0) ≤ 1
    split <;> omega
  · exact ⟨a, b, c hw, by show 0 + 1 ≤ 10 ^ most; omega⟩
def seqR (tx : Nat → Nat) (e c : Nat) : List (List Nat × Nat × Nat) → Nat × Nat × (Nat → Nat) → Nat × Nat × (Nat → Nat)
  | [], s => s
  | (p, k, m) :: l, s => seqR tx e c l ((numR tx e p m s.1 s.2.1).1, (numR tx e p m s.1 s.2.1).2.1, upn s.2.2 (5 * c + k) (numR tx e p m s.1 s.2.1).2.2)
theorem seqR_0 {tx : Nat → Nat} {e c : Nat} {s : Nat × Nat × (Nat → Nat)} : seqR tx e c [] s = s := rfl
theorem seqR_s {tx : Nat → Nat} {e c k m sp w a b n : Nat} {p : List Nat} {l : List (List Nat × Nat × Nat)} {t : Nat → Nat} (h : numR tx e p m sp w = (a, b, n)) : seqR tx e c ((p, k, m) :: l) (sp, w, t) = seqR tx e c l (a, b, upn t (5 * c + k) n) := by
  show seqR tx e c l ((numR tx e p m sp w).1, (numR tx e p m sp w).2.1, upn t (5 * c + k) (numR tx e p m sp w).2.2) = _
  rw [h]
def srtN (h : Nat) : Nat := if h = 0 then 4294967295 else h - 1
theorem srt_v {h : Nat} : nI h - 1 = nI (srtN h) := by
  unfold srtN
  split
  · rename_i q; subst q; decide
  · rename_i q
    obtain ⟨k, rfl⟩ : ∃ k, h = k + 1 := ⟨h - 1, by omega⟩
    exact (m1_of k).symm
def isE (tx : Nat → Nat) (e sp : Nat) : Bool := decide (hrE e tx sp = 99 ∧ hrE e tx (sp + 1) = 102)
def LJ9 : List (List Nat × Nat × Nat) := [(tl "join ", 1, 2), (tl " ", 2, 2), (tl " ", 3, 2), (tl " ", 4, 2)]
def LW9 (t : String) : List (List Nat × Nat × Nat) := [(tl t, 1, 1), (tl " ", 2, 2)]
def LE9 : List (List Nat × Nat × Nat) := [(tl "beats ", 1, 2)]
def LV9 : List (List Nat × Nat × Nat) := [(tl "vote ", 1, 2), (tl " ", 2, 1)]
def rdT (tx : Nat → Nat) (e c sp : Nat) (t : Nat → Nat) : Nat → Nat := upn t (5 * c) (if isE tx e sp = true then 101 else srtN (hrE e tx sp))
def rdR (tx : Nat → Nat) (e c sp : Nat) (t : Nat → Nat) : Nat × Nat × (Nat → Nat) :=
  if hrE e tx sp = 107 then seqR tx e c LJ9 (sp, 0, rdT tx e c sp t)
  else if hrE e tx sp = 120 then seqR tx e c (LW9 "wind ") (sp, 0, rdT tx e c sp t)
  else if hrE e tx sp = 117 then seqR tx e c (LW9 "tune ") (sp, 0, rdT tx e c sp t)
  else if hrE e tx sp = 99 then (if isE tx e sp = true then seqR tx e c LE9 (sp, 0, rdT tx e c sp t) else seqR tx e c (LW9 "buy ") (sp, 0, rdT tx e c sp t))
  else if hrE e tx sp = 114 then ((sayR tx e (tl "quarter") sp 0).1, (sayR tx e (tl "quarter") sp 0).2, rdT tx e c sp t)
  else if hrE e tx sp = 119 then seqR tx e c LV9 (sp, 0, rdT tx e c sp t)
  else (sp, 1, rdT tx e c sp t)
theorem z_811c {z : Nat → Nat} {a b a' b' : Nat} : upn (upn (upn (upn z 8 a) 11 b) 8 a') 11 b' = upn (upn z 8 a') 11 b' := by rw [z_118, upn_upn]
