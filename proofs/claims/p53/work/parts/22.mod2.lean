/-! the reference's calls -/
def tn (x : Int32) : Nat := x.toInt.toNat
theorem tn_nI {n : Nat} (h : n < 2147483648) : tn (nI n) = n := by unfold tn; rw [nI_toInt h]; exact Int.toNat_natCast n
def fPay (g : GG) : Nat := if g 8 0 = 0 then 3 else 0
def aVot (g : GG) (t k : Nat) : Nat := if favN g t k < quo g then 0 else 1
theorem flat_set64' {g : GG} {v : Nat} : upn (flat g) 64 v = flat (up2 g 7 0 v) := flat_setb (k := 0)
theorem spo_bI {A B : Bool} (h : A = B) : nI (if A = true then 1 else 0) = bI B := by subst h; cases A <;> rfl
theorem cl2_f1 {g : GG} {x y k : Nat} (hx : x < k) (h : (stM g k).testBit x = false) : cl2 g x y = false := by
  rw [stM_bit, decide_eq_true hx, Bool.true_and] at h
  unfold cl2; rw [h]; rfl
theorem cl2_f2 {g : GG} {x y k : Nat} (hy : y < k) (h : (stM g k).testBit y = false) : cl2 g x y = false := by
  rw [stM_bit, decide_eq_true hy, Bool.true_and] at h
  unfold cl2; rw [h, Bool.and_false]; rfl
theorem cl2_3 {g : GG} {x y k : Nat} {b : Bool} (hx : x < k) (hy : y < k) (h1 : (stM g k).testBit x = true) (h2 : (stM g k).testBit y = true) (h : decide (ap (g 3 x) (g 3 y) = 1 ∨ ap (g 3 x) (g 3 y) = 6) = b) : cl2 g x y = b := by
  rw [stM_bit, decide_eq_true hx, Bool.true_and] at h1
  rw [stM_bit, decide_eq_true hy, Bool.true_and] at h2
  unfold cl2; rw [h1, h2, h]; rfl
abbrev rm_X6_oneBeat : Room := { frames := 2, cells := 0, slots := 0, locals := 44 }
