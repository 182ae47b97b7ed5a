def plcI (j : Nat) : Int32 := if j = 1 then 3 else if j = 2 then 1 else if j = 3 then 2 else 0
theorem and3_in (x : Int32) : vp_in (x &&& 3) 4 := pk_andIn x 2 (by decide) (by decide)
theorem rw16_at {b : Nat → Nat} {i : Int32} (h : vp_in i 16) : rw16 b i.toNatClampNeg = some (b (14 + ix i)) := if_pos (Nat.not_le.mp fun q => h (Or.inr q))
theorem rw2_at {b : Nat → Nat} {i : Int32} (h : vp_in i 2) : rw2 b i.toNatClampNeg = some (b (12 + ix i)) := if_pos (Nat.not_le.mp fun q => h (Or.inr q))
theorem row16 {i : Int32} (h : vp_in i 16) : isRow (14 + ix i) := by
  have : ix i < 16 := Nat.not_le.mp fun q => h (Or.inr q)
  exact Or.inr ⟨by omega, by omega⟩
theorem row2 {i : Int32} (h : vp_in i 2) : isRow (12 + ix i) := by
  have : ix i < 2 := Nat.not_le.mp fun q => h (Or.inr q)
  exact Or.inr ⟨by omega, by omega⟩
