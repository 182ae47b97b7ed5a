/-! draws: the seed stays from 0 on -/
theorem okM_d {f : Nat → Nat → Int32} {x : Int32} (hok : okM f) : okM (kX6_draw f x).2 := by
  unfold kX6_draw
  exact okM_up hok (by decide)
theorem hd0 {f : Nat → Nat → Int32} (hok : okM f) : ¬ kX6_heads f = 0 := by
  obtain ⟨j, h1, h2, e⟩ := mheads_j hok
  rw [e]
  exact nI_ne0 (by omega) (by omega)
theorem sh0 {f : Nat → Nat → Int32} (hok : okM f) : ¬ ((1 : Int32) <<< ((kX6_heads f) &&& 31)) = 0 := by
  obtain ⟨j, h1, h2, e⟩ := mheads_j hok
  rw [e]
  rcases (show j = 1 ∨ j = 2 ∨ j = 3 ∨ j = 4 ∨ j = 5 ∨ j = 6 ∨ j = 7 by omega) with rfl | rfl | rfl | rfl | rfl | rfl | rfl <;> decide
theorem okM_d4 {f : Nat → Nat → Int32} {x y z w : Int32} (hok : okM f) : okM (kX6_draw (kX6_draw (kX6_draw (kX6_draw f x).2 y).2 z).2 w).2 := okM_d (okM_d (okM_d (okM_d hok)))
theorem okM_d5 {f : Nat → Nat → Int32} {x y z w v : Int32} (hok : okM f) : okM (kX6_draw (kX6_draw (kX6_draw (kX6_draw (kX6_draw f x).2 y).2 z).2 w).2 v).2 := okM_d (okM_d4 hok)
/-- the next seed -/
def seedN (s : Int32) : Int32 := (remL (s.toInt64 * 1103515245 + 12345) 2147483648).toInt32
theorem seedN_nI {k : Nat} (hk : k < 2 ^ 31) : seedN (nI k) = nI ((k * 1103515245 + 12345) % 2147483648) := by
  unfold seedN remL
  rw [nI_l hk, show (1103515245 : Int64) = lN 1103515245 from rfl, show (12345 : Int64) = lN 12345 from rfl, show (2147483648 : Int64) = lN 2147483648 from rfl, lN_mul, lN_add, pk_lRem (by omega) (by omega) (by omega), lN_i]
theorem seedN_j {s : Int32} (h : 0 ≤ s) : ∃ k, k < 2147483648 ∧ seedN s = nI k := by
  have h1 : ¬ s < 0 := by
    rw [Int32.le_iff_toInt_le] at h
    rw [Int32.lt_iff_toInt_lt]
    omega
  obtain ⟨k, hk, rfl⟩ := nI_of h1
  exact ⟨_, Nat.mod_lt _ (by decide), seedN_nI hk⟩
theorem nI_0le {k : Nat} (h : k < 2147483648) : 0 ≤ nI k := nI_le (a := 0) (Nat.zero_le _) h
theorem draw_eq (f : Nat → Nat → Int32) (x : Int32) : kX6_draw f x = (remI (seedN (f 0 (ix 83)) / 65536) x, up2 f 0 (ix 83) (seedN (f 0 (ix 83)))) := rfl
theorem hs_draw {f : Nat → Nat → Int32} {x : Int32} (hs : 0 ≤ f 0 (ix 83)) : 0 ≤ (kX6_draw f x).2 0 (ix 83) := by
  rw [draw_eq]
  show 0 ≤ up2 f 0 (ix 83) (seedN (f 0 (ix 83))) 0 (ix 83)
  rw [up2_eq]
  obtain ⟨k, hk, e⟩ := seedN_j hs
  rw [e]
  exact nI_0le hk
theorem dr_lt {f : Nat → Nat → Int32} {n : Nat} (hs : 0 ≤ f 0 (ix 83)) (h0 : 0 < n) (hn : n < 2 ^ 31) : ∃ k, k < n ∧ (kX6_draw f (nI n)).1 = nI k := by
  rw [draw_eq]
  obtain ⟨k, hk, e⟩ := seedN_j hs
  refine ⟨k / 65536 % n, Nat.mod_lt _ h0, ?_⟩
  show remI (seedN (f 0 (ix 83)) / 65536) (nI n) = _
  unfold remI
  rw [e, show (65536 : Int32) = nI 65536 from rfl, pk_div (by omega) (by decide) (by decide), pk_rem (by omega) h0 hn]
theorem dr_in {f : Nat → Nat → Int32} (hok : okM f) (hs : 0 ≤ f 0 (ix 83)) : vp_in (kX6_draw f (kX6_heads f)).1 7 := by
  obtain ⟨j, h1, h2, e⟩ := mheads_j hok
  rw [e]
  obtain ⟨k, hk, e2⟩ := dr_lt (n := j) hs (by omega) (by omega)
  rw [e2]
  exact vp_in_nI (by omega) (by decide)
/-- what a write at another place leaves -/
theorem ixk {k y : Int32} {B : Nat} (hy : vp_in y B) (h : (decide (0 ≤ k) && Nat.ble (k.toNatClampNeg + 1 + B) 2000000) = true) : ix (k + y) = ix k + ix y := by
  rw [Bool.and_eq_true, decide_eq_true_eq, Nat.ble_eq] at h
  exact ix2 (vin_lit h.1) hy (by omega)
theorem okM_uk {f : Nat → Nat → Int32} {k y v : Int32} {B : Nat} (hok : okM f) (hy : vp_in y B) (h : (decide (0 ≤ k) && Nat.ble (k.toNatClampNeg + 1 + B) 2000000) = true) (h0 : 0 < ix k) : okM (up2 f 0 (ix (k + y)) v) := okM_up hok (by rw [ixk hy h]; omega)
theorem okM_go {f : Nat → Nat → Int32} {x y z t : Int32} (hok : okM f) (hx : vp_in x 7) : okM (kX6_goOver f x y z t).2 := by
  have el : ∀ (g : Nat → Nat → Int32) (v : Int32), okM g → ¬ (kX6_leftOf f x = (-1)) → okM (up2 g 0 (ix (15 + kX6_leftOf f x)) v) := fun g v hg c => okM_uk hg (ml_in hok hx c) (by decide) (by decide)
  have er : ∀ (g : Nat → Nat → Int32) (v : Int32), okM g → ¬ (kX6_rightOf f x = (-1)) → okM (up2 g 0 (ix (15 + kX6_rightOf f x)) v) := fun g v hg c => okM_uk hg (mr_in hok hx c) (by decide) (by decide)
  have ec : ∀ (g : Nat → Nat → Int32) (v : Int32), okM g → okM (up2 g 0 (ix (41 + x)) v) := fun g v hg => okM_uk hg hx (by decide) (by decide)
  unfold kX6_goOver
  split
  · split
    · split
      · split
        · exact hok
        · exact ec _ _ hok
      · split
        · exact er _ _ hok (by assumption)
        · exact ec _ _ (er _ _ hok (by assumption))
    · split
      · split
        · exact el _ _ hok (by assumption)
        · exact ec _ _ (el _ _ hok (by assumption))
      · split
        · exact er _ _ (el _ _ hok (by assumption)) (by assumption)
        · exact ec _ _ (er _ _ (el _ _ hok (by assumption)) (by assumption))
  · split
    · split
      · split
        · exact hok
        · exact ec _ _ hok
      · split
        · exact el _ _ hok (by assumption)
        · exact ec _ _ (el _ _ hok (by assumption))
    · split
      · split
        · exact er _ _ hok (by assumption)
        · exact ec _ _ (er _ _ hok (by assumption))
      · split
        · exact el _ _ (er _ _ hok (by assumption)) (by assumption)
        · exact ec _ _ (el _ _ (er _ _ hok (by assumption)) (by assumption))
