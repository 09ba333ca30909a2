/-! the reference's arrays, exchanged -/
def moL (k : Nat) : Nat := match k with
  | 3 => 592
  | 5 => 60
  | 6 => 300
  | 7 => 60
  | _ => 74
theorem upr_upr {g : GG} {w : Nat} {f h : Nat → Nat} : upr (upr g w f) w h = upr g w h := by
  funext i; unfold upr; split <;> rfl
theorem mo_set {E : EE} {b z : Nat → Nat} {F : GG} {H : Heap} {k : Nat} (hk : k < 8) {f : Nat → Nat} (h : ∀ j, j < moL k → F k j = f j) (hP : va_P E.1 vwCl ([moR E b z F] : List va_W).flatten H) : va_P E.1 vwCl ([moR E b z (upr F k f)] : List va_W).flatten H := by
  match k, hk, h with
  | 0, _, h => exact (have := P_ext (k := 1) (f := fun j => nI (F 0 j)) (g := fun j => nI (f j)) rfl (fun j hj => congrArg nI (h j hj)) hP; this)
  | 1, _, h => exact (have := P_ext (k := 2) (f := fun j => nI (F 1 j)) (g := fun j => nI (f j)) rfl (fun j hj => congrArg nI (h j hj)) hP; this)
  | 2, _, h => exact (have := P_ext (k := 3) (f := fun j => nI (F 2 j)) (g := fun j => nI (f j)) rfl (fun j hj => congrArg nI (h j hj)) hP; this)
  | 3, _, h => exact (have := P_ext (k := 4) (f := fun j => nI (F 3 j)) (g := fun j => nI (f j)) rfl (fun j hj => congrArg nI (h j hj)) hP; this)
  | 4, _, h => exact (have := P_ext (k := 5) (f := fun j => nI (F 4 j)) (g := fun j => nI (f j)) rfl (fun j hj => congrArg nI (h j hj)) hP; this)
  | 5, _, h => exact (have := P_ext (k := 6) (f := fun j => nI (F 5 j)) (g := fun j => nI (f j)) rfl (fun j hj => congrArg nI (h j hj)) hP; this)
  | 6, _, h => exact (have := P_ext (k := 7) (f := fun j => nI (F 6 j)) (g := fun j => nI (f j)) rfl (fun j hj => congrArg nI (h j hj)) hP; this)
  | 7, _, h => exact (have := P_ext (k := 8) (f := fun j => nI (F 7 j)) (g := fun j => nI (f j)) rfl (fun j hj => congrArg nI (h j hj)) hP; this)
theorem D_map {A : Nat → Prop} {ws ws' : va_W} (h : ws.map (·.1) = ws'.map (·.1)) (hD : va_D A ws) : va_D A ws' := by
  have key : ∀ (k : Nat) (q : Nat × va_E), ws'[k]? = some q → ∃ p, ws[k]? = some p ∧ p.1 = q.1 := by
    intro k q hq
    have h1 := congrArg (fun l => l[k]?) h
    simp only [List.getElem?_map, hq] at h1
    cases h2 : ws[k]? with
    | none => rw [h2] at h1; cases h1
    | some p => rw [h2] at h1; exact ⟨p, rfl, Option.some.inj h1⟩
  refine ⟨fun i j p q h1 h2 h3 => ?_, fun k q hq => ?_⟩
  · obtain ⟨p1, a1, a2⟩ := key i p h1
    obtain ⟨q17, b1, b2⟩ := key j q h2
    exact hD.1 i j p1 q17 a1 b1 (by rw [a2, b2]; exact h3)
  · obtain ⟨p1, a1, a2⟩ := key k q hq
    rw [← a2]; exact hD.2 k p1 a1
theorem mo_D {A : Nat → Prop} {E : EE} {b z z' : Nat → Nat} {F F' : GG} (hD : va_D A ([moR E b z F] : List va_W).flatten) : va_D A ([moR E b z' F'] : List va_W).flatten := D_map (ws := ([moR E b z F] : List va_W).flatten) (ws' := ([moR E b z' F'] : List va_W).flatten) rfl hD
theorem hfl_upa {gs : Nat → GG} {k : Nat} {f : GG} (hk : k < 3) : hfl (upa gs k f) = hfl gs := by
  funext j; unfold hfl upa; rw [if_neg (by omega)]
theorem moF_0 {g h : GG} {gs : Nat → GG} {ar : GG} : upr (moF g gs ar) 0 (flat h) = moF h gs ar := by
  funext i
  match i with
  | 0 => rfl
  | n + 1 => unfold upr; rw [if_neg (by omega)]; match n with
    | 0 => rfl
    | 1 => rfl
    | 2 => rfl
    | 3 => rfl
    | 4 => rfl
    | 5 => rfl
    | n + 6 => rfl
theorem moF_1 {g h : GG} {gs : Nat → GG} {ar : GG} : upr (moF g gs ar) 1 (flat h) = moF g (upa gs 0 h) ar := by
  funext i
  match i with
  | 0 => rfl
  | 1 => rfl
  | 2 => rfl
  | 3 => exact (hfl_upa (by decide)).symm
  | 4 => rfl
  | 5 => rfl
  | 6 => rfl
  | n + 7 => unfold upr; rw [if_neg (by omega)]; rfl
theorem moF_2 {g h : GG} {gs : Nat → GG} {ar : GG} : upr (moF g gs ar) 2 (flat h) = moF g (upa gs 1 h) ar := by
  funext i
  match i with
  | 0 => rfl
  | 1 => rfl
  | 2 => rfl
  | 3 => exact (hfl_upa (by decide)).symm
  | 4 => rfl
  | 5 => rfl
  | 6 => rfl
  | n + 7 => unfold upr; rw [if_neg (by omega)]; rfl
theorem moF_4 {g h : GG} {gs : Nat → GG} {ar : GG} : upr (moF g gs ar) 4 (flat h) = moF g (upa gs 2 h) ar := by
  funext i
  match i with
  | 0 => rfl
  | 1 => rfl
  | 2 => rfl
  | 3 => exact (hfl_upa (by decide)).symm
  | 4 => rfl
  | 5 => rfl
  | 6 => rfl
  | n + 7 => unfold upr; rw [if_neg (by omega)]; rfl
theorem moF_3 {g : GG} {gs gs' : Nat → GG} {ar : GG} (h : ∀ k, k < 3 → gs' k = gs k) : upr (moF g gs ar) 3 (hfl gs') = moF g gs' ar := by
  funext i
  match i with
  | 0 => rfl
  | 1 => show flat (gs 0) = flat (gs' 0); rw [h 0 (by decide)]
  | 2 => show flat (gs 1) = flat (gs' 1); rw [h 1 (by decide)]
  | 3 => rfl
  | 4 => show flat (gs 2) = flat (gs' 2); rw [h 2 (by decide)]
  | 5 => rfl
  | 6 => rfl
  | n + 7 => unfold upr; rw [if_neg (by omega)]; rfl
section MOX
variable {E : EE} {b z : Nat → Nat} {g h0 : GG} {gs : Nat → GG} {ar : GG} {H : Heap} {f : Nat → Nat}
theorem mo_s (h : ∀ j, j < 74 → f j = flat h0 j) (hP : va_P E.1 vwCl ([moR E b z (upr (moF g gs ar) 0 f)] : List va_W).flatten H) : va_P E.1 vwCl ([moC E b z h0 gs ar] : List va_W).flatten H := by
  have h1 := mo_set (k := 0) (f := flat h0) (by decide) (fun j hj => (congrFun upr_s j).trans (h j hj)) hP
  rw [upr_upr, moF_0] at h1
  exact h1
theorem mo_fr (h : ∀ j, j < 74 → f j = flat h0 j) (hP : va_P E.1 vwCl ([moR E b z (upr (moF g gs ar) 1 f)] : List va_W).flatten H) : va_P E.1 vwCl ([moC E b z g (upa gs 0 h0) ar] : List va_W).flatten H := by
  have h1 := mo_set (k := 1) (f := flat h0) (by decide) (fun j hj => (congrFun upr_s j).trans (h j hj)) hP
  rw [upr_upr, moF_1] at h1
  exact h1
theorem mo_sv (h : ∀ j, j < 74 → f j = flat h0 j) (hP : va_P E.1 vwCl ([moR E b z (upr (moF g gs ar) 2 f)] : List va_W).flatten H) : va_P E.1 vwCl ([moC E b z g (upa gs 1 h0) ar] : List va_W).flatten H := by
  have h1 := mo_set (k := 2) (f := flat h0) (by decide) (fun j hj => (congrFun upr_s j).trans (h j hj)) hP
  rw [upr_upr, moF_2] at h1
  exact h1
theorem mo_th (h : ∀ j, j < 74 → f j = flat h0 j) (hP : va_P E.1 vwCl ([moR E b z (upr (moF g gs ar) 4 f)] : List va_W).flatten H) : va_P E.1 vwCl ([moC E b z g (upa gs 2 h0) ar] : List va_W).flatten H := by
  have h1 := mo_set (k := 4) (f := flat h0) (by decide) (fun j hj => (congrFun upr_s j).trans (h j hj)) hP
  rw [upr_upr, moF_4] at h1
  exact h1
theorem mo_pre (k : Nat) {f' : Nat → Nat} : moC E b z g gs ar = moR E b z (upr (moF g gs ar) k (fl (moF g gs ar k) f' 0)) := by
  rw [fl_0, upr_id]
end MOX
/-- the history's rows, moved down -/
def shG (gs : Nat → GG) : Nat → GG := fun i => if 3 ≤ i ∧ i < 10 then gs (i + 1) else gs i
/-- what a call leaves of the reference's small numbers and of its states -/
def mchZ (F k ans : Nat) (z : Nat → Nat) : Nat → Nat := if F = 0 then upn (upn (upn z 0 0) 7 ans) 1 (chK (z 1)) else upn (upn z 0 0) 0 (F - k)
def mchS (F k : Nat) (g : GG) (gs : Nat → GG) : Nat → GG := if F = 0 then chS k (upa gs 0 g) else upa gs 0 g
/-- the first of n that p takes -/
def fst1 (p : Nat → Bool) : Nat → Nat
  | 0 => 0
  | n + 1 => if fst1 p n < n then fst1 p n else if p n then n else n + 1
theorem fst1_le (p : Nat → Bool) : ∀ n, fst1 p n ≤ n
  | 0 => Nat.le_refl _
  | n + 1 => by
    show (if fst1 p n < n then fst1 p n else if p n then n else n + 1) ≤ n + 1
    have := fst1_le p n
    split
    · omega
    · split <;> omega
theorem fst1_none {p : Nat → Bool} : ∀ {n : Nat}, (∀ j, j < n → p j = false) → fst1 p n = n
  | 0, _ => rfl
  | n + 1, h => by
    show (if _ then _ else _) = _
    rw [if_neg (by rw [fst1_none (fun j hj => h j (Nat.lt_succ_of_lt hj))]; exact Nat.lt_irrefl n), if_neg (by rw [h n (Nat.lt_succ_self n)]; decide)]
theorem fst1_at {p : Nat → Bool} {i : Nat} (hi : p i = true) (h : ∀ j, j < i → p j = false) : ∀ {n : Nat}, i < n → fst1 p n = i
  | 0, hn => absurd hn (Nat.not_lt_zero _)
  | n + 1, hn => by
    show (if _ then _ else _) = _
    by_cases e : i = n
    · subst e; rw [if_neg (by rw [fst1_none h]; exact Nat.lt_irrefl i), if_pos hi]
    · have := fst1_at hi h (n := n) (by omega)
      rw [if_pos (by omega), this]
/-- beats in common, counted -/
def cmN (g : GG) (x y : Nat) : Nat → Nat
  | 0 => 0
  | k + 1 => cmN g x y k + (if (dueB g x (g 8 1 + (k + 1)) && dueB g y (g 8 1 + (k + 1))) = true then 1 else 0)
theorem cmN_le {g : GG} {x y : Nat} : ∀ {k : Nat}, cmN g x y k ≤ k
  | 0 => Nat.le_refl _
  | k + 1 => by have := cmN_le (g := g) (x := x) (y := y) (k := k); show _ + (if _ then 1 else 0) ≤ _; split <;> omega
theorem cmN_t {g : GG} {x y k : Nat} (h : (dueB g x (g 8 1 + (k + 1)) && dueB g y (g 8 1 + (k + 1))) = true) : cmN g x y (k + 1) = cmN g x y k + 1 := by show _ + (if _ then 1 else 0) = _; rw [if_pos h]
theorem cmN_f {g : GG} {x y k : Nat} (h : (dueB g x (g 8 1 + (k + 1)) && dueB g y (g 8 1 + (k + 1))) = false) : cmN g x y (k + 1) = cmN g x y k + 0 := by show _ + (if _ then 1 else 0) = _; rw [if_neg (by rw [h]; decide)]
/-- the fewest of the reference: it begins with eight -/
def few8 (g : GG) : Nat → Nat
  | 0 => 8
  | n + 1 => if wnB g n = true ∧ pcn n < few8 g n then pcn n else few8 g n
theorem few8_le {g : GG} : ∀ {n : Nat}, few8 g n ≤ 8
  | 0 => Nat.le_refl _
  | n + 1 => by
    have h := few8_le (g := g) (n := n)
    show (if _ then _ else _) ≤ _
    split <;> omega
theorem chg_full {E : EE} {b z : Nat → Nat} {g : GG} {gs : Nat → GG} {ar : GG} (h : z 1 = 8) : moC E b z g (upa (shG gs) (3 + (z 1 - 1)) (gs 0)) ar = moC E b (upn z 1 (chK (z 1))) g (chS (z 1) gs) ar := by
  have h1 : upn z 1 (chK (z 1)) = z := by
    funext j; unfold upn chK
    by_cases e : j = 1
    · rw [if_pos e, if_pos h, e, h]
    · rw [if_neg e]
  have h2 : upa (shG gs) (3 + (z 1 - 1)) (gs 0) = chS (z 1) gs := by
    unfold chS shG chK
    rw [h, if_pos rfl]
    congr 1
    funext i
    by_cases e : 3 ≤ i ∧ i < 10
    · rw [if_pos e, if_pos ⟨rfl, e⟩]
    · rw [if_neg e, if_neg (fun q => e q.2)]
  rw [h1, h2]
theorem chg_more {E : EE} {b z : Nat → Nat} {g : GG} {gs : Nat → GG} {ar : GG} (h : z 1 ≠ 8) : moC E b (upn z 1 (z 1 + 1)) g (upa gs (3 + (z 1 + 1 - 1)) (gs 0)) ar = moC E b (upn z 1 (chK (z 1))) g (chS (z 1) gs) ar := by
  have h1 : chK (z 1) = z 1 + 1 := if_neg h
  have h2 : upa gs (3 + (z 1 + 1 - 1)) (gs 0) = chS (z 1) gs := by
    unfold chS
    rw [h1, show 2 + (z 1 + 1) = 3 + (z 1 + 1 - 1) by omega]
    congr 1
    funext i
    rw [if_neg (fun q => h q.1)]
  rw [h1, h2]
theorem ahd_self {g : GG} {m : Nat} : ahd g m m = false := by
  unfold ahd
  rw [if_neg (fun h => h rfl), if_neg (fun h => h rfl)]
  exact decide_eq_false (Nat.lt_irrefl m)
