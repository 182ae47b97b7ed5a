/-! what the reference's own numbers are bounded by -/
abbrev okM (f : Nat → Nat → Int32) : Prop := 0 < f 0 (ix 0) ∧ f 0 (ix 0) ≤ 6
theorem vin_c {i : Int32} {n : Nat} (h : ¬ (i < 0 ∨ n ≤ i.toNatClampNeg)) : vp_in i n := h
theorem ix_nI {n : Nat} (h : n < 2 ^ 31) : ix (nI n) = n := nI_clamp h
theorem vinA {x y : Int32} {A B N : Nat} (hx : vp_in x A) (hy : vp_in y B) (h : (Nat.ble (A + B) (N + 1) && Nat.ble N 2000000) = true) : vp_in (x + y) N := by
  rw [Bool.and_eq_true, Nat.ble_eq, Nat.ble_eq] at h
  obtain ⟨j, hj, rfl⟩ := vp_in_of hx (by omega)
  obtain ⟨k, hk, rfl⟩ := vp_in_of hy (by omega)
  rw [nI_add]
  exact vp_in_nI (by omega) (by omega)
theorem vin_lit {k : Int32} (h : 0 ≤ k) : vp_in k (k.toNatClampNeg + 1) := by
  rw [Int32.le_iff_toInt_le, i0] at h
  rw [vp_in_iff]
  have hc : k.toNatClampNeg = k.toInt.toNat := rfl
  omega
theorem vin1 {x k : Int32} {A N : Nat} (hx : vp_in x A) (h : (decide (0 ≤ k) && (Nat.ble (A + (k.toNatClampNeg + 1)) (N + 1) && Nat.ble N 2000000)) = true) : vp_in (x + k) N := by
  rw [Bool.and_eq_true, decide_eq_true_eq] at h
  exact vinA hx (vin_lit h.1) h.2
theorem vin2 {k y : Int32} {B N : Nat} (hy : vp_in y B) (h : (decide (0 ≤ k) && (Nat.ble ((k.toNatClampNeg + 1) + B) (N + 1) && Nat.ble N 2000000)) = true) : vp_in (k + y) N := by
  rw [Bool.and_eq_true, decide_eq_true_eq] at h
  exact vinA (vin_lit h.1) hy h.2
theorem vin3 {x k y : Int32} {A B N : Nat} (hx : vp_in x A) (hy : vp_in y B) (h : (decide (0 ≤ k) && (Nat.ble ((A + k.toNatClampNeg) + B) (N + 1) && Nat.ble N 2000000)) = true) : vp_in (x + k + y) N := by
  rw [Bool.and_eq_true, decide_eq_true_eq, Bool.and_eq_true, Nat.ble_eq, Nat.ble_eq] at h
  have hB : 1 ≤ B := by
    rw [vp_in_iff] at hy
    omega
  refine vinA (A := A + k.toNatClampNeg) (vinA hx (vin_lit h.1) ?_) hy ?_
  · rw [Bool.and_eq_true, Nat.ble_eq, Nat.ble_eq]
    omega
  · rw [Bool.and_eq_true, Nat.ble_eq, Nat.ble_eq]
    omega
theorem okM_j {f : Nat → Nat → Int32} (hok : okM f) : ∃ j, 1 ≤ j ∧ j ≤ 6 ∧ f 0 (ix 0) = nI j := by
  obtain ⟨h1, h2⟩ := hok
  rw [Int32.lt_iff_toInt_lt, i0] at h1
  rw [Int32.le_iff_toInt_le, i6] at h2
  obtain ⟨j, hj, e⟩ := vp_in_of (x := f 0 (ix 0)) (n := 7) (vp_in_iff.mpr ⟨by omega, by omega⟩) (by decide)
  refine ⟨j, ?_, by omega, e⟩
  rw [e, nI_toInt (by omega)] at h1
  omega
theorem n0M {f : Nat → Nat → Int32} (hok : okM f) : ¬ f 0 (ix 0) = 0 := by
  obtain ⟨j, h1, h2, e⟩ := okM_j hok
  rw [e]
  exact nI_ne0 (by omega) (by omega)
theorem nar01 {v : Int32} (h : v = 0 ∨ v = 1) : narrow .boolean (.int v) = .int v := by
  rcases h with rfl | rfl <;> rfl
theorem in01 (f : Nat → Nat → Int32) (x y z : Int32) : kX6_in f x y z = 0 ∨ kX6_in f x y z = 1 := by
  unfold kX6_in
  repeat' split
  · exact Or.inl rfl
  · exact Or.inl rfl
  · exact Or.inr rfl
theorem nar_in {f : Nat → Nat → Int32} {x y z : Int32} : narrow .boolean (.int (kX6_in f x y z)) = .int (kX6_in f x y z) := nar01 (in01 f x y z)
theorem mr_in {f : Nat → Nat → Int32} {x : Int32} (hok : okM f) (h : vp_in x 7) (c : ¬ (kX6_rightOf f x = (-1))) : vp_in (kX6_rightOf f x) 6 := by
  obtain ⟨n, h1, h2, e⟩ := okM_j hok
  obtain ⟨j, hj, rfl⟩ := vp_in_of h (by decide)
  unfold kX6_rightOf at c ⊢
  rw [e] at c ⊢
  by_cases q : nI n ≤ nI j
  · rw [if_pos q] at c
    exact absurd rfl c
  · rw [if_neg q]
    rw [nI_leI (by omega) (by omega)] at q
    exact vp_in_nI (by omega) (by decide)
theorem ml_in {f : Nat → Nat → Int32} {x : Int32} (hok : okM f) (h : vp_in x 7) (c : ¬ (kX6_leftOf f x = (-1))) : vp_in (kX6_leftOf f x) 6 := by
  obtain ⟨n, h1, h2, e⟩ := okM_j hok
  obtain ⟨j, hj, rfl⟩ := vp_in_of h (by decide)
  unfold kX6_leftOf at c ⊢
  rw [e] at c ⊢
  by_cases q : nI j ≤ 0
  · rw [if_pos q] at c ⊢
    by_cases r : f 0 (ix 1) = 1
    · rw [if_pos r]
      obtain ⟨n', rfl⟩ : ∃ n', n = n' + 1 := ⟨n - 1, by omega⟩
      rw [nI_pred]
      exact vp_in_nI (by omega) (by decide)
    · rw [if_neg r] at c
      exact absurd rfl c
  · rw [if_neg q]
    have hj0 : j ≠ 0 := by
      rintro rfl
      exact q (Int32.le_refl _)
    obtain ⟨j', rfl⟩ : ∃ j', j = j' + 1 := ⟨j - 1, by omega⟩
    rw [nI_pred]
    exact vp_in_nI (by omega) (by decide)
theorem inc7 {v : Int32} (h : vp_in v 6) : vp_in (v + 1) 7 := vin1 h (by decide)
theorem rem7 {f : Nat → Nat → Int32} {v : Int32} (hok : okM f) (h : vp_in v 6) : vp_in (remI (v + 1) (f 0 (ix 0))) 7 := by
  obtain ⟨n, h1, h2, e⟩ := okM_j hok
  obtain ⟨j, hj, rfl⟩ := vp_in_of h (by decide)
  rw [e, nI_1]
  unfold remI
  rw [pk_rem (by omega) (by omega) (by omega)]
  have := Nat.mod_lt (j + 1) (show n > 0 by omega)
  exact vp_in_nI (by omega) (by decide)
theorem mrh_in {f : Nat → Nat → Int32} {x : Int32} (hok : okM f) (h : vp_in x 6) : vp_in (kX6_rightHead f x) 7 := by
  unfold kX6_rightHead
  split
  · exact rem7 hok h
  · exact inc7 h
theorem mj_in {f : Nat → Nat → Int32} {x : Int32} (hok : okM f) (h : vp_in x 7) (c : ¬ (kX6_isJoint f x = 0)) : vp_in (kX6_leftOf f x) 6 ∧ vp_in (kX6_rightOf f x) 6 := by
  unfold kX6_isJoint at c
  by_cases h1 : kX6_leftOf f x = (-1)
  · rw [if_pos h1] at c
    exact absurd rfl c
  · rw [if_neg h1] at c
    by_cases h2 : kX6_rightOf f x = (-1)
    · rw [if_pos h2] at c
      exact absurd rfl c
    · exact ⟨ml_in hok h h1, mr_in hok h h2⟩
theorem in_hi {f : Nat → Nat → Int32} {x y z : Int32} (c : ¬ (kX6_in f x y z = 0)) : x ≤ z := by
  unfold kX6_in at c
  by_cases h1 : x < y
  · rw [if_pos h1] at c
    exact absurd rfl c
  · rw [if_neg h1] at c
    by_cases h2 : z < x
    · rw [if_pos h2] at c
      exact absurd rfl c
    · rw [Int32.lt_iff_toInt_lt] at h2
      rw [Int32.le_iff_toInt_le]
      omega
theorem in_lo {f : Nat → Nat → Int32} {x y z : Int32} (c : ¬ (kX6_in f x y z = 0)) : y ≤ x := by
  unfold kX6_in at c
  by_cases h1 : x < y
  · rw [if_pos h1] at c
    exact absurd rfl c
  · rw [Int32.lt_iff_toInt_lt] at h1
    rw [Int32.le_iff_toInt_le]
    omega
theorem in_vp {f : Nat → Nat → Int32} {x : Int32} {n : Nat} (c : ¬ (kX6_in f x 0 (nI n) = 0)) (hn : n < 2 ^ 30) : vp_in x (n + 1) := by
  have h1 := in_lo c
  have h2 := in_hi c
  rw [Int32.le_iff_toInt_le, i0] at h1
  rw [Int32.le_iff_toInt_le, nI_toInt (by omega)] at h2
  rw [vp_in_iff]
  omega
theorem vin_mono {x : Int32} {A B : Nat} (h : vp_in x A) (hab : A ≤ B) : vp_in x B := by
  rw [vp_in_iff] at h ⊢
  omega
theorem ms_in {f : Nat → Nat → Int32} {x : Int32} (hok : okM f) (c : ¬ (kX6_isSection f x = 0)) : vp_in x 6 := by
  obtain ⟨n, h1, h2, e⟩ := okM_j hok
  unfold kX6_isSection at c
  obtain ⟨n', rfl⟩ : ∃ n', n = n' + 1 := ⟨n - 1, by omega⟩
  rw [e, nI_pred] at c
  exact vin_mono (in_vp c (by omega)) (by omega)
theorem mheads_j {f : Nat → Nat → Int32} (hok : okM f) : ∃ j, 1 ≤ j ∧ j ≤ 7 ∧ kX6_heads f = nI j := by
  obtain ⟨n, h1, h2, e⟩ := okM_j hok
  unfold kX6_heads
  rw [e]
  split
  · exact ⟨n, h1, by omega, rfl⟩
  · exact ⟨n + 1, by omega, by omega, nI_1 n⟩
theorem mheads_le {f : Nat → Nat → Int32} (hok : okM f) : kX6_heads f ≤ nI 7 := by
  obtain ⟨j, h1, h2, e⟩ := mheads_j hok
  rw [e]
  exact nI_le (by omega) (by decide)
theorem mh_in {f : Nat → Nat → Int32} {x : Int32} (hok : okM f) (c : ¬ (kX6_isHead f x = 0)) : vp_in x 7 := by
  obtain ⟨n, h1, h2, e⟩ := mheads_j hok
  unfold kX6_isHead at c
  obtain ⟨n', rfl⟩ : ∃ n', n = n' + 1 := ⟨n - 1, by omega⟩
  rw [e, nI_pred] at c
  exact vin_mono (in_vp c (by omega)) (by omega)
theorem le20 {x : Int32} (h : vp_in x 21) : x ≤ nI 20 := by
  obtain ⟨j, hj, rfl⟩ := vp_in_of h (by decide)
  exact nI_le (by omega) (by decide)
theorem wr20 {x : Int32} (h : vp_in x 21) (c : ¬ (x = 20)) : vp_in x 20 := by
  obtain ⟨j, hj, rfl⟩ := vp_in_of h (by decide)
  have : j ≠ 20 := by
    rintro rfl
    exact c rfl
  exact vp_in_nI (by omega) (by decide)
theorem lt6 {f : Nat → Nat → Int32} {v : Int32} (hok : okM f) (h : vp_in v 7) (c : ¬ (f 0 (ix 0) ≤ v)) : vp_in v 6 := by
  obtain ⟨n, h1, h2, e⟩ := okM_j hok
  obtain ⟨j, hj, rfl⟩ := vp_in_of h (by decide)
  rw [e, nI_leI (by omega) (by omega)] at c
  exact vp_in_nI (by omega) (by decide)
/-! what is written where -/
theorem up2_ne {f : Nat → Nat → Int32} {K i j : Nat} {x : Int32} (h : j ≠ i) : up2 f K i x K j = f K j := by
  unfold up2
  rw [show Nat.beq K K = true from Nat.beq_refl K]
  exact if_neg h
theorem up2_o {f : Nat → Nat → Int32} {K K' i : Nat} {x : Int32} (h : Nat.beq K' K = false) : up2 f K i x K' = f K' := by
  unfold up2
  rw [h]
  rfl
theorem up2_eq {f : Nat → Nat → Int32} {K i : Nat} {x : Int32} : up2 f K i x K i = x := by
  unfold up2
  rw [show Nat.beq K K = true from Nat.beq_refl K]
  exact if_pos rfl
theorem okM_up {f : Nat → Nat → Int32} {j : Nat} {x : Int32} (hok : okM f) (hj : 0 < j) : okM (up2 f 0 j x) := by
  have e : up2 f 0 j x 0 (ix 0) = f 0 (ix 0) := up2_ne (by have : ix 0 = 0 := rfl; omega)
  unfold okM
  rw [e]
  exact hok
theorem ix3 {x k y : Int32} {A B : Nat} (hx : vp_in x A) (hy : vp_in y B) (h : (decide (0 ≤ k) && (Nat.ble ((A + k.toNatClampNeg) + B) 2000000)) = true) : ix (x + k + y) = ix x + ix k + ix y := by
  rw [Bool.and_eq_true, decide_eq_true_eq, Nat.ble_eq] at h
  obtain ⟨i, hi, rfl⟩ := vp_in_of hx (by omega)
  obtain ⟨m, hm, rfl⟩ := vp_in_of (vin_lit h.1) (by omega)
  obtain ⟨j, hj, rfl⟩ := vp_in_of hy (by omega)
  rw [nI_clamp (n := m) (by omega)] at h hm
  rw [nI_add, nI_add, ix_nI (by omega), ix_nI (by omega), ix_nI (by omega), ix_nI (by omega)]
theorem gt3 {x k y : Int32} {A B : Nat} (hx : vp_in x A) (hy : vp_in y B) (h : (decide (0 ≤ k) && (Nat.ble ((A + k.toNatClampNeg) + B) 2000000)) = true) (h0 : 0 < ix k) : 0 < ix (x + k + y) := by
  rw [ix3 hx hy h]
  omega
theorem ix2 {x y : Int32} {A B : Nat} (hx : vp_in x A) (hy : vp_in y B) (h : A + B ≤ 2000000) : ix (x + y) = ix x + ix y := by
  obtain ⟨i, hi, rfl⟩ := vp_in_of hx (by omega)
  obtain ⟨j, hj, rfl⟩ := vp_in_of hy (by omega)
  rw [nI_add, ix_nI (by omega), ix_nI (by omega), ix_nI (by omega)]
theorem okM_u3 {f : Nat → Nat → Int32} {x k y v : Int32} {A B : Nat} (hok : okM f) (hx : vp_in x A) (hy : vp_in y B) (h : (decide (0 ≤ k) && (Nat.ble ((A + k.toNatClampNeg) + B) 2000000)) = true) (h0 : 0 < ix k) : okM (up2 f 0 (ix (x + k + y)) v) := okM_up hok (gt3 hx hy h h0)
theorem okM_heal {f : Nat → Nat → Int32} {x y : Int32} (hok : okM f) (hx : vp_in x 1597) (hy : vp_in y 6) : okM (kX6_heal f x y) := by
  unfold kX6_heal
  exact okM_u3 (okM_u3 (okM_u3 hok hx hy (by decide) (by decide)) hx hy (by decide) (by decide)) hx hy (by decide) (by decide)
theorem okM_judge {f : Nat → Nat → Int32} {x y : Int32} (hok : okM f) (hx : vp_in x 1597) (hy : vp_in y 6) : okM (kX6_judgeOne f x y) := by
  unfold kX6_judgeOne
  split
  · split
    · split
      · exact okM_u3 hok hx hy (by decide) (by decide)
      · exact okM_u3 hok hx hy (by decide) (by decide)
    · split
      · split
        · exact okM_u3 hok hx hy (by decide) (by decide)
        · exact okM_u3 hok hx hy (by decide) (by decide)
      · split
        · split
          · split
            · exact okM_heal hok hx hy
            · exact hok
          · exact okM_u3 hok hx hy (by decide) (by decide)
        · exact hok
  · exact okM_u3 (okM_u3 hok hx hy (by decide) (by decide)) hx hy (by decide) (by decide)
theorem okM_sweep {f : Nat → Nat → Int32} {x y : Int32} (hok : okM f) (hx : vp_in x 1597) (hy : vp_in y 7) (c : ¬ (kX6_isJoint f y = 0)) : okM (kX6_sweepOver f x y) := by
  have hl := (mj_in hok hy c).1
  have hr := (mj_in hok hy c).2
  have e1 : ∀ v, okM (up2 f 0 (ix (x + 76 + y)) v) := fun v => okM_u3 hok hx hy (by decide) (by decide)
  have e2 : ∀ v, okM (up2 (kX6_heal (kX6_heal f x (kX6_leftOf f y)) x (kX6_rightOf f y)) 0 (ix (x + 76 + y)) v) := fun v => okM_u3 (okM_heal (okM_heal hok hx hl) hx hr) hx hy (by decide) (by decide)
  have key : okM (if f 0 (ix (x + 9 + kX6_leftOf f y)) + f 0 (ix (x + 9 + kX6_rightOf f y)) ≤ 0 then (if f 0 (ix (x + 9 + kX6_leftOf f y)) + f 0 (ix (x + 9 + kX6_rightOf f y)) = 0 then (if f 0 (ix (x + 76 + y)) = 1 then (if kX6_hasBad f x (kX6_leftOf f y) = 0 then (if kX6_hasBad f x (kX6_rightOf f y) = 0 then up2 (kX6_heal (kX6_heal f x (kX6_leftOf f y)) x (kX6_rightOf f y)) 0 (ix (x + 76 + y)) 0 else f) else f) else f) else f) else up2 f 0 (ix (x + 76 + y)) 1) := by
    split
    · split
      · split
        · split
          · split
            · exact e2 _
            · exact hok
          · exact hok
        · exact hok
      · exact hok
    · exact e1 _
  unfold kX6_sweepOver
  split
  · exact key
  · split
    · exact key
    · exact e1 _
theorem okM_t3 {f : Nat → Nat → Int32} {x y v1 v2 v3 : Int32} (hok : okM f) (hx : vp_in x 1597) (hy : vp_in y 7) : okM (up2 (up2 (up2 f 0 (ix (x + 48 + y)) v1) 0 (ix (x + 69 + y)) v2) 0 (ix (x + 55 + y)) v3) := okM_u3 (okM_u3 (okM_u3 hok hx hy (by decide) (by decide)) hx hy (by decide) (by decide)) hx hy (by decide) (by decide)
theorem okM_hear {f : Nat → Nat → Int32} {x y z : Int32} (hok : okM f) (hx : vp_in x 1597) (hy : vp_in y 7) : okM (kX6_hear f x y z) := by
  have e1 : ∀ v, ¬ (kX6_leftOf f y = (-1)) → okM (up2 f 0 (ix (x + 9 + kX6_leftOf f y)) v) := fun v c => okM_u3 hok hx (ml_in hok hy c) (by decide) (by decide)
  have e2 : ∀ v, ¬ (kX6_rightOf f y = (-1)) → okM (up2 f 0 (ix (x + 9 + kX6_rightOf f y)) v) := fun v c => okM_u3 hok hx (mr_in hok hy c) (by decide) (by decide)
  have e3 : ∀ (g : Nat → Nat → Int32) (v : Int32), okM g → ¬ (kX6_leftOf g y = (-1)) → okM (up2 g 0 (ix (x + 9 + kX6_leftOf g y)) v) := fun g v hg c => okM_u3 hg hx (ml_in hg hy c) (by decide) (by decide)
  unfold kX6_hear
  by_cases hz : z = 0
  · rw [if_pos hz]
    split
    · split
      · split
        · exact okM_t3 hok hx hy
        · exact okM_t3 (e1 _ (by assumption)) hx hy
      · split
        · exact okM_t3 (e2 _ (by assumption)) hx hy
        · exact okM_t3 (e3 _ _ (e2 _ (by assumption)) (by assumption)) hx hy
    · split
      · split
        · exact okM_t3 hok hx hy
        · exact okM_t3 (e1 _ (by assumption)) hx hy
      · split
        · exact okM_t3 (e2 _ (by assumption)) hx hy
        · exact okM_t3 (e3 _ _ (e2 _ (by assumption)) (by assumption)) hx hy
  · rw [if_neg hz]
    split
    · exact okM_u3 hok hx hy (by decide) (by decide)
    · exact okM_u3 hok hx hy (by decide) (by decide)
theorem okM_t53 {x y : Int32} (hx : vp_in x 1597) : ∀ (n i : Nat) (f : Nat → Nat → Int32), i ≤ 7 → okM f → okM (kX6_tickIn_53 x y n i f) := by
  intro n
  induction n with
  | zero => exact fun i f _ h => h
  | succ n ih =>
    intro i f hi h
    unfold kX6_tickIn_53
    have e : 0 < ix (x + 2) := by
      rw [ix2 hx (vin_lit (k := 2) (by decide)) (by decide)]
      exact Nat.lt_of_lt_of_le (show 0 < ix 2 by decide) (Nat.le_add_left _ _)
    split
    · split
      · exact okM_up h e
      · exact okM_up h e
    · have hlt : i < 7 := il_lt (mheads_le h) (by decide) hi (by assumption)
      split
      · exact ih _ _ hlt h
      · exact ih _ _ hlt (okM_sweep h hx (vp_in_nI hlt (by decide)) (by assumption))
theorem okM_t29 {x y : Int32} (hx : vp_in x 1597) : ∀ (n i : Nat) (f : Nat → Nat → Int32), i ≤ 6 → okM f → okM (kX6_tickIn_29 x y n i f) := by
  intro n
  induction n with
  | zero => exact fun i f _ h => h
  | succ n ih =>
    intro i f hi h
    unfold kX6_tickIn_29
    split
    · exact okM_t53 hx _ _ _ (by omega) h
    · have hlt : i < 6 := il_lt h.2 (by decide) hi (by assumption)
      exact ih _ _ hlt (okM_judge h hx (vp_in_nI hlt (by decide)))
theorem okM_t2 {x y : Int32} (hx : vp_in x 1597) : ∀ (n i : Nat) (f : Nat → Nat → Int32), i ≤ 7 → okM f → okM (kX6_tickIn_2 x y n i f) := by
  intro n
  induction n with
  | zero => exact fun i f _ h => h
  | succ n ih =>
    intro i f hi h
    unfold kX6_tickIn_2
    split
    · exact okM_t29 hx _ _ _ (by omega) h
    · have hlt : i < 7 := il_lt (mheads_le h) (by decide) hi (by assumption)
      exact ih _ _ hlt (okM_hear h hx (vp_in_nI hlt (by decide)))
theorem okM_tick {f : Nat → Nat → Int32} {x y : Int32} (hok : okM f) (hx : vp_in x 1597) : okM (kX6_tickIn f x y) := okM_t2 hx _ _ _ (by omega) hok
/-! rows copied: nothing else changes -/
theorem cr_o {x y : Int32} {K : Nat} : ∀ (n i : Nat) (f : Nat → Nat → Int32), kX6_copyRow_2 x y n i f (K + 1) = f (K + 1) := by
  intro n
  induction n with
  | zero => exact fun i f => rfl
  | succ n ih =>
    intro i f
    unfold kX6_copyRow_2
    split
    · rfl
    · exact ih _ _
theorem cr_K {f : Nat → Nat → Int32} {x y : Int32} (K : Nat) : kX6_copyRow f x y (K + 1) = f (K + 1) := cr_o _ _ _
theorem cr_1 {f : Nat → Nat → Int32} {x y : Int32} : kX6_copyRow f x y 1 = f 1 := cr_K 0
theorem cr_kn {f : Nat → Nat → Int32} {x y : Int32} (he : f 1 0 = 16) : kX6_copyRow f x y 1 0 = 16 := by
  rw [cr_1]
  exact he
theorem cr_l {x y : Int32} (hy : vp_in y 1597) {j : Nat} (hj : j < ix y) : ∀ (n i : Nat) (f : Nat → Nat → Int32), i ≤ 84 → kX6_copyRow_2 x y n i f 0 j = f 0 j := by
  intro n
  induction n with
  | zero => exact fun i f _ => rfl
  | succ n ih =>
    intro i f hi
    unfold kX6_copyRow_2
    split
    · rfl
    · have hlt : i < 84 := il_lt (Int32.le_refl _) (by decide) hi (by assumption)
      rw [ih _ _ hlt]
      refine up2_ne ?_
      rw [ix2 hy (vp_in_nI hlt (by decide)) (by decide)]
      omega
theorem cr_low {f : Nat → Nat → Int32} {x y : Int32} (hy : vp_in y 1597) {j : Nat} (hj : j < ix y) : kX6_copyRow f x y 0 j = f 0 j := cr_l hy hj _ _ _ (by omega)
theorem okM_eq {f g : Nat → Nat → Int32} (hok : okM f) (h : g 0 0 = f 0 0) : okM g := by
  have h : g 0 (ix 0) = f 0 (ix 0) := h
  unfold okM
  rw [h]
  exact hok
theorem okM_cr {f : Nat → Nat → Int32} (hok : okM f) : okM (kX6_copyRow f 0 1596) := okM_eq hok (cr_low (vin_c (by decide)) (by decide))
theorem m84v {i : Nat} (h : i ≤ 16) : (84 : Int32) * nI i = nI (84 * i) := pk_mul 84 i
theorem m84 {i : Nat} (h : i < 16) : vp_in (84 * nI i) 1597 := by
  rw [m84v (by omega)]
  exact vp_in_nI (by omega) (by decide)
theorem m84s {i : Nat} (h : i < 16) : vp_in (84 * (nI i + 1)) 1597 := by
  rw [nI_1, m84v (by omega)]
  exact vp_in_nI (by omega) (by decide)
theorem kn_a {x : Int32} (h : x = 16) : vp_in (84 * (x - 1 + 1)) 1597 := by
  subst h
  exact vin_c (by decide)
theorem kn_j {x : Int32} (h : vp_in x 17) (c : ¬ (x = 16)) : ∃ j, j < 16 ∧ x = nI j := by
  obtain ⟨j, hj, rfl⟩ := vp_in_of h (by decide)
  have : j ≠ 16 := by
    rintro rfl
    exact c rfl
  exact ⟨j, by omega, rfl⟩
theorem kn_b {x : Int32} (h : vp_in x 17) (c : ¬ (x = 16)) : vp_in (84 * (x + 1)) 1597 := by
  obtain ⟨j, hj, rfl⟩ := kn_j h c
  exact m84s hj
/-- remember() leaves the first row as it is -/
theorem rem_11 {j : Nat} (hj : j < 84) : ∀ (n i : Nat) (f : Nat → Nat → Int32), 1 ≤ i → i ≤ 16 → f 1 0 = 16 → kX6_remember_11 n i f 0 j = f 0 j ∧ kX6_remember_11 n i f 1 0 = 16 := by
  intro n
  induction n with
  | zero => exact fun i f _ _ h => ⟨rfl, h⟩
  | succ n ih =>
    intro i f h1 hi he
    unfold kX6_remember_11
    split
    · rw [up2_o (K := 1) (K' := 0) rfl, up2_eq, cr_1, up2_eq]
      refine ⟨?_, ?_⟩
      · rw [cr_low (kn_a he) (by rw [he]; exact Nat.lt_of_lt_of_le hj (by decide)), up2_o (K := 1) (K' := 0) rfl]
      · rw [he]
        decide
    · have hlt : i < 16 := il_lt (Int32.le_refl _) (by decide) hi (by assumption)
      have e1 := ih (i + 1) (kX6_copyRow f (84 * (nI i + 1)) (84 * nI i)) (by omega) hlt (cr_kn he)
      refine ⟨e1.1.trans ?_, e1.2⟩
      refine cr_low (m84 hlt) ?_
      rw [m84v (by omega), ix_nI (by omega)]
      omega
theorem rem_low {f : Nat → Nat → Int32} (hk : vp_in (f 1 0) 17) {j : Nat} (hj : j < 84) : kX6_remember f 0 j = f 0 j := by
  unfold kX6_remember
  by_cases h : f 1 0 = 16
  · rw [if_pos h]
    exact (rem_11 hj _ _ _ (by omega) (by omega) h).1
  · rw [if_neg h]
    obtain ⟨k, hk1, e⟩ := kn_j hk h
    rw [up2_o (K := 1) (K' := 0) rfl]
    refine cr_low (kn_b hk h) ?_
    rw [e, nI_1, m84v (by omega), ix_nI (by omega)]
    omega
theorem hk_rem {f : Nat → Nat → Int32} (hk : vp_in (f 1 0) 17) : vp_in (kX6_remember f 1 0) 17 := by
  unfold kX6_remember
  by_cases h : f 1 0 = 16
  · rw [if_pos h, (rem_11 (j := 0) (by omega) _ _ _ (by omega) (by omega) h).2]
    exact vin_c (by decide)
  · rw [if_neg h]
    obtain ⟨k, hk1, e⟩ := kn_j hk h
    rw [up2_eq, cr_1, e, nI_1]
    exact vp_in_nI (by omega) (by decide)
theorem okM_rem {f : Nat → Nat → Int32} (hok : okM f) (hk : vp_in (f 1 0) 17) : okM (kX6_remember f) := okM_eq hok (rem_low hk (by omega))
theorem hs_rem {f : Nat → Nat → Int32} (hk : vp_in (f 1 0) 17) (hs : 0 ≤ f 0 (ix 83)) : 0 ≤ kX6_remember f 0 (ix 83) := by
  rw [show kX6_remember f 0 (ix 83) = f 0 (ix 83) from rem_low hk (by decide)]
  exact hs
theorem un84 {f : Nat → Nat → Int32} {x k : Int32} (hk : vp_in k 17) (c : ¬ (kX6_in f x 1 16 = 0)) (c2 : x ≤ k) : vp_in (84 * (k - x + 1)) 1597 := by
  obtain ⟨j, hj, rfl⟩ := vp_in_of hk (by decide)
  have h1 := in_lo c
  have h2 := in_hi c
  have e16 : (16 : Int32).toInt = 16 := by decide
  rw [Int32.le_iff_toInt_le, i1] at h1
  rw [Int32.le_iff_toInt_le, e16] at h2
  obtain ⟨n, hn, rfl⟩ := vp_in_of (x := x) (n := 17) (vp_in_iff.mpr ⟨by omega, by omega⟩) (by decide)
  rw [nI_toInt (by omega)] at h1
  rw [nI_leI (by omega) (by omega)] at c2
  rw [pk_sub c2]
  exact m84s (by omega)
theorem im84 {f : Nat → Nat → Int32} {x : Int32} (c : ¬ (kX6_in f x 0 1 = 0)) : vp_in (1428 + 84 * x) 1597 := by
  obtain ⟨j, hj, rfl⟩ := vp_in_of (in_vp (n := 1) c (by decide)) (by decide)
  rw [m84v (by omega), show (1428 : Int32) = nI 1428 from rfl, nI_add]
  exact vp_in_nI (by omega) (by decide)
