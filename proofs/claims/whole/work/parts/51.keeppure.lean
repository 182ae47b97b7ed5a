theorem rp_ne {f : Nat → Nat → Int32} {K k : Nat} {q : Nat → Int32} (h : k ≠ K) : rp f K q k = f k := by
  unfold rp
  rw [show Nat.beq k K = false from by rw [← Bool.not_eq_true, Nat.beq_eq]; exact h]
  rfl
theorem rp_eq {f : Nat → Nat → Int32} {K : Nat} {q : Nat → Int32} : rp f K q K = q := by
  unfold rp
  rw [show Nat.beq K K = true from Nat.beq_refl K]
  rfl
theorem rm16 {n : Nat} (h : n < 100) : remI (nI n) 16 = nI (n % 16) := pk_rem (by omega) (by decide) (by decide)
theorem tb_in {n s x : Int32} (hn : vp_in n 16) (hs : vp_in s 17) (c1 : ¬ (x < 1)) (c2 : x ≤ s) : vp_in (remI ((n + 16) - x) 16) 16 := by
  obtain ⟨i, hi, rfl⟩ := vp_in_of hn (by decide)
  obtain ⟨j, hj, rfl⟩ := vp_in_of hs (by decide)
  have h0 : ¬ x < 0 := by
    rw [Int32.lt_iff_toInt_lt, i1] at c1
    rw [Int32.lt_iff_toInt_lt, i0]
    omega
  obtain ⟨k, hk, rfl⟩ := nI_of h0
  rw [nI_leI hk (by omega)] at c2
  rw [show nI i + 16 = nI (i + 16) from nI_add i 16, pk_sub (by omega), rm16 (by omega)]
  exact vp_in_nI (Nat.mod_lt _ (by decide)) (by decide)
theorem bk_in {x : Int32} (c1 : ¬ (x < 0)) (c2 : x < 20) : vp_in x 20 := by
  have e20 : (20 : Int32).toInt = 20 := by decide
  rw [Int32.lt_iff_toInt_lt, i0] at c1
  rw [Int32.lt_iff_toInt_lt, e20] at c2
  rw [vp_in_iff]
  omega
theorem ge1 {x : Int32} (c : 1 ≤ x) : ¬ x = 0 := by
  rintro rfl
  exact absurd c (by decide)
theorem heads_j {f : Nat → Nat → Int32} (hok : okL f) : ∃ j, 1 ≤ j ∧ j ≤ 7 ∧ kX3_heads f = nI j := by
  obtain ⟨n, h1, h2, e⟩ := okL_j hok
  unfold kX3_heads
  rw [e]
  split
  · exact ⟨n + 1, by omega, by omega, nI_1 n⟩
  · exact ⟨n, h1, by omega, rfl⟩
theorem hh_in {f : Nat → Nat → Int32} {x : Int32} (hok : okL f) (c : ¬ (kX3_hasHead f x = 0)) : vp_in x 7 := by
  obtain ⟨j, h1, h2, e⟩ := heads_j hok
  unfold kX3_hasHead at c
  rw [e] at c
  by_cases q1 : x < 0
  · rw [if_pos q1] at c
    exact absurd rfl c
  · rw [if_neg q1] at c
    obtain ⟨k, hk, rfl⟩ := nI_of q1
    by_cases q2 : nI j ≤ nI k
    · rw [if_pos q2] at c
      exact absurd rfl c
    · rw [nI_leI (by omega) hk] at q2
      exact vp_in_nI (by omega) (by decide)
theorem rf_in {f g : Nat → Nat → Int32} {x y z : Int32} (hok : okL f) (c : kX5_refusalToMove f g x y z = 0) : vp_in x 7 := by
  refine hh_in hok (fun q => ?_)
  unfold kX5_refusalToMove at c
  rw [if_pos q] at c
  exact absurd c (by decide)
theorem hp_in {f g : Nat → Nat → Int32} {x : Int32} (c : ¬ (kX2_hasPlace f g x = 0)) : vp_in x 2 := by
  unfold kX2_hasPlace at c
  by_cases q1 : x < 0
  · rw [if_pos q1] at c
    exact absurd rfl c
  · rw [if_neg q1] at c
    obtain ⟨k, hk, rfl⟩ := nI_of q1
    by_cases q2 : 2 ≤ nI k
    · rw [if_pos q2] at c
      exact absurd rfl c
    · have q3 : ¬ nI 2 ≤ nI k := q2
      rw [nI_leI (by omega) hk] at q3
      exact vp_in_nI (by omega) (by decide)
/-- a draw of the keeper's: its next seed, and what is drawn -/
def seedK (s : Int32) : Int32 := (s * 1103515245 + 12345) &&& 2147483647
theorem seedK_j (s : Int32) : ∃ k, k < 2147483648 ∧ seedK s = nI k := pk_andE (s * 1103515245 + 12345) 31 (by decide)
theorem next_lt {f g : Nat → Nat → Int32} {n : Nat} (h0 : 0 < n) (hn : n < 2 ^ 31) : ∃ k, k < n ∧ (kX1_next f g (nI n)).1 = nI k := by
  obtain ⟨k, hk, e⟩ := seedK_j (g 7 0)
  refine ⟨k / 65536 % n, Nat.mod_lt _ h0, ?_⟩
  unfold kX1_next
  rw [if_pos (show (1 : Int32) ≤ nI n from nI_le (a := 1) (by omega) hn)]
  show remI (seedK (g 7 0) / 65536) (nI n) = _
  unfold remI
  rw [e, show (65536 : Int32) = nI 65536 from rfl, pk_div (by omega) (by decide) (by decide), pk_rem (by omega) h0 hn]
theorem nx_in {f g : Nat → Nat → Int32} (hok : okL f) : vp_in (kX1_next f g (kX3_heads f)).1 7 := by
  obtain ⟨j, h1, h2, e⟩ := heads_j hok
  rw [e]
  obtain ⟨k, hk, e2⟩ := next_lt (f := f) (g := g) (n := j) (by omega) (by omega)
  rw [e2]
  exact vp_in_nI (by omega) (by decide)
theorem next_2 (f g : Nat → Nat → Int32) (x : Int32) : (kX1_next f g x).2 = up2 g 7 0 (seedK (g 7 0)) := by
  unfold kX1_next
  split
  · rfl
  · rfl
theorem ok_carry {f : Nat → Nat → Int32} {x y z t : Int32} (hok : okL f) : okL (kX3_carry f x y z t).2 := by
  have e : (kX3_carry f x y z t).2 0 0 = f 0 0 := by
    unfold kX3_carry
    repeat' split
    all_goals rfl
  unfold okL
  rw [e]
  exact hok
theorem driftOnce_eq (f g : Nat → Nat → Int32) : kX5_driftOnce f g = kX5_driftOnce_64 f (kX1_next f (kX1_next f (kX1_next f (kX1_next f (kX1_next f g (kX3_heads f)).2 2).2 3).2 16).2 ((1 : Int32) <<< ((kX3_heads f) &&& 31))).2 (kX1_next f g (kX3_heads f)).1 (kX1_next f (kX1_next f g (kX3_heads f)).2 2).1 ((kX1_next f (kX1_next f (kX1_next f g (kX3_heads f)).2 2).2 3).1 + 1) (kX1_next f (kX1_next f (kX1_next f (kX1_next f g (kX3_heads f)).2 2).2 3).2 16).1 (kX1_next f (kX1_next f (kX1_next f (kX1_next f (kX1_next f g (kX3_heads f)).2 2).2 3).2 16).2 ((1 : Int32) <<< ((kX3_heads f) &&& 31))).1 := rfl
theorem dO_1 (f : Nat → Nat → Int32) (h side n luck lost : Int32) (g5 : Nat → Nat → Int32) : ∃ (d : Nat → Nat → Int32) (y : Int32), (kX5_driftOnce_64 f g5 h side n luck lost).1 = kX3_pass d y ∧ (d = f ∨ ∃ t : Int32, d = (kX3_carry f h side n t).2) := by
  unfold kX5_driftOnce_64
  split
  · split
    · exact ⟨f, 0, rfl, Or.inl rfl⟩
    · exact ⟨f, lost, rfl, Or.inl rfl⟩
  · split
    · split
      · exact ⟨_, 0, rfl, Or.inr ⟨0, rfl⟩⟩
      · exact ⟨_, lost, rfl, Or.inr ⟨0, rfl⟩⟩
    · split
      · split
        · exact ⟨_, 0, rfl, Or.inr ⟨0, rfl⟩⟩
        · exact ⟨_, lost, rfl, Or.inr ⟨0, rfl⟩⟩
      · split
        · exact ⟨_, 0, rfl, Or.inr ⟨1, rfl⟩⟩
        · exact ⟨_, lost, rfl, Or.inr ⟨1, rfl⟩⟩
theorem dO_2 (f : Nat → Nat → Int32) (h side n luck lost : Int32) (g5 : Nat → Nat → Int32) : (kX5_driftOnce_64 f g5 h side n luck lost).2 = g5 := by
  unfold kX5_driftOnce_64
  repeat' split
  all_goals rfl
theorem ok_drift {f g : Nat → Nat → Int32} (hok : okL f) : okL (kX5_driftOnce f g).1 := by
  rw [driftOnce_eq]
  obtain ⟨d, y, e, q⟩ := dO_1 f (kX1_next f g (kX3_heads f)).1 (kX1_next f (kX1_next f g (kX3_heads f)).2 2).1 ((kX1_next f (kX1_next f (kX1_next f g (kX3_heads f)).2 2).2 3).1 + 1) (kX1_next f (kX1_next f (kX1_next f (kX1_next f g (kX3_heads f)).2 2).2 3).2 16).1 (kX1_next f (kX1_next f (kX1_next f (kX1_next f (kX1_next f g (kX3_heads f)).2 2).2 3).2 16).2 ((1 : Int32) <<< ((kX3_heads f) &&& 31))).1 (kX1_next f (kX1_next f (kX1_next f (kX1_next f (kX1_next f g (kX3_heads f)).2 2).2 3).2 16).2 ((1 : Int32) <<< ((kX3_heads f) &&& 31))).2
  rw [e]
  rcases q with rfl | ⟨t, rfl⟩
  · exact ok_pass hok
  · exact ok_pass (ok_carry hok)
theorem hn_padd {f g : Nat → Nat → Int32} (hn : vp_in (g 2 0) 16) : vp_in (kX4_add f g 2 0) 16 := by
  obtain ⟨i, hi, e⟩ := vp_in_of hn (by decide)
  have e2 : ∀ q, rp g (14 + ix (g 2 0)) q 2 0 = g 2 0 := fun q => by rw [rp_ne (by omega)]
  have e3 : vp_in (remI (g 2 0 + 1) 16) 16 := by
    rw [e, nI_1, rm16 (by omega)]
    exact vp_in_nI (Nat.mod_lt _ (by decide)) (by decide)
  unfold kX4_add
  split
  · rw [up2_eq, e2]
    exact e3
  · rw [up2_o (K := 3) (K' := 2) rfl, up2_eq, e2]
    exact e3
theorem drift_2 (f g : Nat → Nat → Int32) : (kX5_driftOnce f g).2 = up2 (up2 (up2 (up2 (up2 g 7 0 (seedK (g 7 0))) 7 0 (seedK (seedK (g 7 0)))) 7 0 (seedK (seedK (seedK (g 7 0))))) 7 0 (seedK (seedK (seedK (seedK (g 7 0)))))) 7 0 (seedK (seedK (seedK (seedK (seedK (g 7 0)))))) := by
  rw [driftOnce_eq, dO_2]
  simp only [next_2, up2_eq]
theorem hn_drift {f g : Nat → Nat → Int32} (hn : vp_in (g 2 0) 16) : vp_in ((kX5_driftOnce f g).2 2 0) 16 := by
  rw [drift_2]
  exact hn
