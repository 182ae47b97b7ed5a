/-! what the Line's own numbers are bounded by -/
abbrev okL (f : Nat → Nat → Int32) : Prop := 0 < f 0 0 ∧ f 0 0 ≤ 6
theorem i0 : (0 : Int32).toInt = 0 := by decide
theorem i6 : (6 : Int32).toInt = 6 := by decide
theorem i1 : (1 : Int32).toInt = 1 := by decide
theorem il_lt {N : Int32} {B i : Nat} (hN : N ≤ nI B) (hB : B < 2 ^ 31) (hi : i ≤ B) (c : ¬ (N ≤ nI i)) : i < B := by
  rcases Nat.lt_or_ge i B with h | h
  · exact h
  · have e : i = B := by omega
    subst e
    exact absurd hN c
theorem il_gt {i : Nat} (hi : i ≤ 10) (c : ¬ (9 < nI i)) : i < 10 := by
  rcases Nat.lt_or_ge i 10 with h | h
  · exact h
  · have e : i = 10 := by omega
    subst e
    exact absurd (by decide) c
theorem sw_out {x : Int32} (n : Nat) (h : ∀ j, j ≤ n → ¬ x = nI j) : x.toInt < 0 ∨ (n : Int) < x.toInt := by
  by_cases h0 : x.toInt < 0
  · exact Or.inl h0
  · right
    by_cases h1 : (n : Int) < x.toInt
    · exact h1
    · exfalso
      have hx := Int32.toInt_lt x
      refine h x.toInt.toNat (by omega) (Int32.toInt_inj.mp ?_)
      rw [nI_toInt (by omega)]
      omega
theorem in67 {x : Int32} (h : vp_in x 6) : vp_in x 7 := by
  rw [vp_in_iff] at h ⊢
  omega
theorem okL_j {f : Nat → Nat → Int32} (hok : okL f) : ∃ j, 1 ≤ j ∧ j ≤ 6 ∧ f 0 0 = nI j := by
  obtain ⟨h1, h2⟩ := hok
  rw [Int32.lt_iff_toInt_lt, i0] at h1
  rw [Int32.le_iff_toInt_le, i6] at h2
  obtain ⟨j, hj, e⟩ := vp_in_of (x := f 0 0) (n := 7) (vp_in_iff.mpr ⟨by omega, by omega⟩) (by decide)
  refine ⟨j, ?_, by omega, e⟩
  rw [e, nI_toInt (by omega)] at h1
  omega
theorem hs_in {f : Nat → Nat → Int32} {x : Int32} (hok : okL f) (c : ¬ (kX3_hasSection f x = 0)) : vp_in x 6 := by
  unfold kX3_hasSection at c
  rw [vp_in_iff]
  by_cases h1 : x < 0
  · rw [if_pos h1] at c
    exact absurd rfl c
  · rw [if_neg h1] at c
    by_cases h2 : f 0 0 ≤ x
    · rw [if_pos h2] at c
      exact absurd rfl c
    · have h3 := hok.2
      rw [Int32.lt_iff_toInt_lt, i0] at h1
      rw [Int32.le_iff_toInt_le] at h2 h3
      rw [i6] at h3
      omega
theorem heads_le {f : Nat → Nat → Int32} (hok : okL f) : kX3_heads f ≤ nI 7 := by
  obtain ⟨j, h1, h2, e⟩ := okL_j hok
  unfold kX3_heads
  rw [e]
  split
  · rw [nI_1]
    exact nI_le (by omega) (by decide)
  · exact nI_le (by omega) (by decide)
theorem rh_in {f : Nat → Nat → Int32} {x : Int32} (h : vp_in x 6) : vp_in (kX3_rightHead f x) 7 := by
  obtain ⟨j, hj, e⟩ := vp_in_of h (by decide)
  have h1 : vp_in (x + 1) 7 := by
    rw [e, nI_1]
    exact vp_in_nI (by omega) (by decide)
  unfold kX3_rightHead
  split
  · exact h1
  · split
    · exact vp_in_nI (n := 0) (by decide) (by decide)
    · exact h1
theorem joins_in {f : Nat → Nat → Int32} {x : Int32} (hok : okL f) (c : ¬ (kX3_joins f x = 0)) : vp_in (kX3_leftOf f x) 6 ∧ vp_in (kX3_rightOf f x) 6 := by
  unfold kX3_joins at c
  by_cases h1 : kX3_hasSection f (kX3_leftOf f x) = 0
  · rw [if_pos h1] at c
    exact absurd rfl c
  · rw [if_neg h1] at c
    by_cases h2 : kX3_hasSection f (kX3_rightOf f x) = 0
    · rw [if_pos h2] at c
      exact absurd rfl c
    · exact ⟨hs_in hok h1, hs_in hok h2⟩
theorem ok_add {f : Nat → Nat → Int32} {x y : Int32} (hok : okL f) : okL (kX3_addToSum f x y) := by
  unfold kX3_addToSum
  split
  · exact hok
  · exact hok
theorem ok_receive {f : Nat → Nat → Int32} {x : Int32} (hok : okL f) : okL (kX3_receive f x) := by
  unfold kX3_receive
  split
  · exact ok_add (ok_add hok)
  · exact ok_add (ok_add hok)
theorem ok_hear2 {x : Int32} : ∀ (n i : Nat) (f : Nat → Nat → Int32), okL f → okL (kX3_hear_2 x n i f) := by
  intro n
  induction n with
  | zero => exact fun i f h => h
  | succ n ih =>
    intro i f h
    unfold kX3_hear_2
    split
    · exact h
    · split
      · exact ih _ _ (ok_receive h)
      · split
        · exact ih _ _ h
        · exact ih _ _ h
theorem ok_hear {f : Nat → Nat → Int32} {x : Int32} (hok : okL f) : okL (kX3_hear f x) := ok_hear2 _ _ _ hok
theorem ok_judge {f : Nat → Nat → Int32} {x : Int32} (hok : okL f) : okL (kX3_judge f x) := by
  unfold kX3_judge kX3_judgeSweep
  repeat' split
  all_goals exact hok
theorem ok_judgeJoint {f : Nat → Nat → Int32} {x y z : Int32} (hok : okL f) : okL (kX3_judgeJoint f x y z) := by
  unfold kX3_judgeJoint kX3_heal
  repeat' split
  all_goals exact hok
theorem ok_pass28 {x : Int32} : ∀ (n i : Nat) (f : Nat → Nat → Int32), okL f → okL (kX3_pass_28 x n i f) := by
  intro n
  induction n with
  | zero => exact fun i f h => h
  | succ n ih =>
    intro i f h
    unfold kX3_pass_28
    split
    · split
      · exact h
      · exact h
    · split
      · exact ih _ _ h
      · exact ih _ _ (ok_judgeJoint h)
theorem ok_pass7 {x : Int32} : ∀ (n i : Nat) (f : Nat → Nat → Int32), okL f → okL (kX3_pass_7 x n i f) := by
  intro n
  induction n with
  | zero => exact fun i f h => h
  | succ n ih =>
    intro i f h
    unfold kX3_pass_7
    split
    · exact ok_pass28 _ _ _ h
    · exact ih _ _ (ok_judge h)
theorem ok_pass {f : Nat → Nat → Int32} {x : Int32} (hok : okL f) : okL (kX3_pass f x) := ok_pass7 _ _ _ (ok_hear hok)
