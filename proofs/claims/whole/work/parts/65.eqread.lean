/-! what is asked, of a row: sets, sums, miscounts -/
def bit (i : Nat) : Int32 := (1 : Int32) <<< (nI i &&& 31)
theorem or0 (v : Int32) : v ||| 0 = v := by
  apply Int32.toBitVec_inj.mp
  simp
section RD
variable {f0 : Nat → Nat → Int32} {w : Nat → Int32} {x : Nat} {c : Nat → Nat → Int32} {N : Nat}
theorem q_called5 (hx : x ≤ 1596) (hw : hdW w x c) (hN : c 0 0 = nI N) (h6 : N ≤ 6) (y : Int32) : ∀ (n i : Nat) (v : Int32), i ≤ N → kX6_called_5 (nI x) y n i (rM f0 w x (nE c)) v = kX3_called_4 y n i c v := by
  intro n
  induction n with
  | zero => exact fun i v _ => rfl
  | succ n ih =>
    intro i v hi
    unfold kX6_called_5 kX3_called_4
    have e0 : rM f0 w x (nE c) 0 (ix 0) = c 0 0 := (hdM_of hw).1
    rw [e0, hN]
    by_cases hc : nI N ≤ nI i
    · rw [if_pos hc, if_pos hc]
    · rw [if_neg hc, if_neg hc]
      rw [nI_leI (by omega) (by omega)] at hc
      rw [rd_call hx (by omega), ix_nI (show i < 2 ^ 31 by omega), show nE c 12 i = c 12 i from rfl, or0]
      by_cases h : c 12 i = y
      · rw [if_pos h, if_pos h]
        exact ih _ _ (by omega)
      · rw [if_neg h, if_neg h]
        exact ih _ _ (by omega)
theorem q_called (hx : x ≤ 1596) (hw : hdW w x c) (hok : okL c) (y : Int32) : kX6_called (rM f0 w x (nE c)) (nI x) y = kX3_called c y := by
  obtain ⟨N, h1, h6, hN⟩ := okL_j hok
  exact q_called5 hx hw hN h6 y 7 0 0 (by omega)
theorem q_allA (hN : c 0 0 = nI N) (h6 : N ≤ 6) : ∀ (n i : Nat) (v : Int32), i ≤ N → kX6_allOf_4 15 n i (rM f0 w 0 (nE c)) v = kX3_axlesInAll_4 n i c v := by
  intro n
  induction n with
  | zero => exact fun i v _ => rfl
  | succ n ih =>
    intro i v hi
    unfold kX6_allOf_4 kX3_axlesInAll_4
    have e0 : rM f0 w 0 (nE c) 0 (ix 0) = c 0 0 := (hdM_of (Or.inl rfl)).1
    rw [e0, hN]
    by_cases hc : nI N ≤ nI i
    · rw [if_pos hc, if_pos hc]
    · rw [if_neg hc, if_neg hc]
      rw [nI_leI (by omega) (by omega)] at hc
      rw [r0_true (by omega), ix_nI (show i < 2 ^ 31 by omega)]
      exact ih _ _ (by omega)
theorem q_allS (hN : c 0 0 = nI N) (h6 : N ≤ 6) : ∀ (n i : Nat) (v : Int32), i ≤ N → kX6_allOf_4 9 n i (rM f0 w 0 (nE c)) v = kX3_sumOfAll_4 n i c v := by
  intro n
  induction n with
  | zero => exact fun i v _ => rfl
  | succ n ih =>
    intro i v hi
    unfold kX6_allOf_4 kX3_sumOfAll_4
    have e0 : rM f0 w 0 (nE c) 0 (ix 0) = c 0 0 := (hdM_of (Or.inl rfl)).1
    rw [e0, hN]
    by_cases hc : nI N ≤ nI i
    · rw [if_pos hc, if_pos hc]
    · rw [if_neg hc, if_neg hc]
      rw [nI_leI (by omega) (by omega)] at hc
      rw [r0_sum (by omega), ix_nI (show i < 2 ^ 31 by omega)]
      exact ih _ _ (by omega)
/-- two sets, and those of the first that aren't in the second, bit by bit -/
def bwB (i A B : Nat) : Bool := !(Nat.blt A (2 ^ i) && Nat.blt B (2 ^ i)) || (decide (nI A ||| bit i = nI (A + 2 ^ i)) && (decide (nI (A + 2 ^ i) &&& (nI B ^^^ (-1)) = (nI A &&& (nI B ^^^ (-1))) ||| bit i) && (decide (nI A &&& (nI (B + 2 ^ i) ^^^ (-1)) = nI A &&& (nI B ^^^ (-1))) && decide (nI (A + 2 ^ i) &&& (nI (B + 2 ^ i) ^^^ (-1)) = nI A &&& (nI B ^^^ (-1))))))
theorem bwB_all : ∀ i, i < 6 → ∀ A, A < 32 → ∀ B, B < 32 → bwB i A B = true := by decide +kernel
theorem bits_w (i : Nat) (hi : i < 6) (A : Nat) (hA : A < 32) (hA2 : A < 2 ^ i) (B : Nat) (hB : B < 32) (hB2 : B < 2 ^ i) : (nI A ||| bit i = nI (A + 2 ^ i)) ∧ (nI (A + 2 ^ i) &&& (nI B ^^^ (-1)) = (nI A &&& (nI B ^^^ (-1))) ||| bit i) ∧ (nI A &&& (nI (B + 2 ^ i) ^^^ (-1)) = nI A &&& (nI B ^^^ (-1))) ∧ (nI (A + 2 ^ i) &&& (nI (B + 2 ^ i) ^^^ (-1)) = nI A &&& (nI B ^^^ (-1))) := by
  have h := bwB_all i hi A hA B hB
  unfold bwB at h
  rw [show Nat.blt A (2 ^ i) = true by rw [Nat.blt_eq]; exact hA2, show Nat.blt B (2 ^ i) = true by rw [Nat.blt_eq]; exact hB2] at h
  simp only [Bool.and_self, Bool.not_true, Bool.false_or, Bool.and_eq_true, decide_eq_true_eq] at h
  exact h
theorem pw6 {i : Nat} (h : i < 6) : 2 ^ i ≤ 32 := by
  rcases (show i = 0 ∨ i = 1 ∨ i = 2 ∨ i = 3 ∨ i = 4 ∨ i = 5 by omega) with rfl | rfl | rfl | rfl | rfl | rfl <;> decide
theorem q_set8 (hN : c 0 0 = nI N) (h6 : N ≤ 6) (ha : ∀ i, i < 6 → ¬ c 14 i < 0) : ∀ (n i A B : Nat), i ≤ N → A < 2 ^ i → B < 2 ^ i → A < 64 → B < 64 → N - i < n → kX6_setOf_4 8 n i (rM f0 w 0 (nE c)) (nI A &&& (nI B ^^^ (-1))) = kX3_called_4 0 n i c (nI A) &&& (kX3_empty_4 n i c (nI B) ^^^ (-1)) := by
  intro n
  induction n with
  | zero => exact fun i A B _ _ _ _ _ h => absurd h (Nat.not_lt_zero _)
  | succ n ih =>
    intro i A B hi hA hB hA6 hB6 hn
    unfold kX6_setOf_4 kX3_called_4 kX3_empty_4
    have e0 : rM f0 w 0 (nE c) 0 (ix 0) = c 0 0 := (hdM_of (Or.inl rfl)).1
    rw [e0, hN]
    by_cases hc : nI N ≤ nI i
    · rw [if_pos hc, if_pos hc, if_pos hc]
    · rw [if_neg hc, if_neg hc, if_neg hc]
      rw [nI_leI (by omega) (by omega)] at hc
      have hi6 : i < 6 := by omega
      have hp := pw6 hi6
      obtain ⟨b1, b2, b3, b4⟩ := bits_w i hi6 A (by omega) hA B (by omega) hB
      obtain ⟨d1, -, -, -⟩ := bits_w i hi6 B (by omega) hB B (by omega) hB
      have hpp : 2 ^ (i + 1) = 2 ^ i + 2 ^ i := by rw [Nat.pow_succ]; omega
      rw [r0_call hi6, r0_true hi6, ix_nI (show i < 2 ^ 31 by omega), show nE c 12 i = c 12 i from rfl, show nE c 14 i = c 14 i from rfl, if_pos (show (8 : Int32) = 8 from rfl), if_pos (show (8 : Int32) = 8 from rfl), or0]
      rw [show (1 : Int32) <<< (nI i &&& 31) = bit i from rfl, b1, d1]
      have hle : (c 14 i ≤ 0) ↔ c 14 i = 0 := by
        have := ha i hi6
        rw [Int32.lt_iff_toInt_lt, i0] at this
        rw [Int32.le_iff_toInt_le, i0]
        constructor
        · intro q
          exact Int32.toInt_inj.mp (by rw [i0]; omega)
        · intro q
          rw [q, i0]
          exact Int.le_refl _
      by_cases h1 : c 12 i = 0
      · rw [if_pos h1, if_pos h1]
        by_cases h2 : c 14 i = 0
        · rw [if_pos (hle.mpr h2), if_pos h2, ← b4]
          exact ih _ _ _ (by omega) (by omega) (by omega) (by omega) (by omega) (by omega)
        · rw [if_neg (fun q => h2 (hle.mp q)), if_neg h2, ← b2]
          exact ih _ _ _ (by omega) (by omega) (by omega) (by omega) (by omega) (by omega)
      · rw [if_neg h1, if_neg h1]
        by_cases h2 : c 14 i = 0
        · rw [if_pos h2, ← b3]
          exact ih _ _ _ (by omega) (by omega) (by omega) (by omega) (by omega) (by omega)
        · rw [if_neg h2]
          exact ih _ _ _ (by omega) (by omega) (by omega) (by omega) (by omega) (by omega)
theorem q_set9 (hN : c 0 0 = nI N) (h6 : N ≤ 6) : ∀ (n i A B : Nat), i ≤ N → A < 2 ^ i → B < 2 ^ i → A < 64 → B < 64 → N - i < n → kX6_setOf_4 9 n i (rM f0 w 0 (nE c)) (nI B &&& (nI A ^^^ (-1))) = kX3_empty_4 n i c (nI B) &&& (kX3_called_4 0 n i c (nI A) ^^^ (-1)) := by
  intro n
  induction n with
  | zero => exact fun i A B _ _ _ _ _ h => absurd h (Nat.not_lt_zero _)
  | succ n ih =>
    intro i A B hi hA hB hA6 hB6 hn
    unfold kX6_setOf_4 kX3_called_4 kX3_empty_4
    have e0 : rM f0 w 0 (nE c) 0 (ix 0) = c 0 0 := (hdM_of (Or.inl rfl)).1
    rw [e0, hN]
    by_cases hc : nI N ≤ nI i
    · rw [if_pos hc, if_pos hc, if_pos hc]
    · rw [if_neg hc, if_neg hc, if_neg hc]
      rw [nI_leI (by omega) (by omega)] at hc
      have hi6 : i < 6 := by omega
      have hp := pw6 hi6
      obtain ⟨b1, b2, b3, b4⟩ := bits_w i hi6 B (by omega) hB A (by omega) hA
      obtain ⟨d1, -, -, -⟩ := bits_w i hi6 A (by omega) hA A (by omega) hA
      have hpp : 2 ^ (i + 1) = 2 ^ i + 2 ^ i := by rw [Nat.pow_succ]; omega
      rw [r0_call hi6, r0_true hi6, ix_nI (show i < 2 ^ 31 by omega), show nE c 12 i = c 12 i from rfl, show nE c 14 i = c 14 i from rfl, if_neg (show ¬ ((9 : Int32) = 8) by decide), if_neg (show ¬ ((9 : Int32) = 8) by decide), or0]
      rw [show (1 : Int32) <<< (nI i &&& 31) = bit i from rfl, b1, d1]
      by_cases h1 : c 12 i = 0
      · rw [if_pos h1, if_pos h1]
        by_cases h2 : c 14 i = 0
        · rw [if_pos h2, ← b4]
          exact ih _ _ _ (by omega) (by omega) (by omega) (by omega) (by omega) (by omega)
        · rw [if_neg h2, ← b3]
          exact ih _ _ _ (by omega) (by omega) (by omega) (by omega) (by omega) (by omega)
      · rw [if_neg h1, if_neg h1]
        by_cases h2 : c 14 i = 0
        · rw [if_pos h2, if_pos h2, ← b2]
          exact ih _ _ _ (by omega) (by omega) (by omega) (by omega) (by omega) (by omega)
        · rw [if_neg h2, if_neg h2]
          exact ih _ _ _ (by omega) (by omega) (by omega) (by omega) (by omega) (by omega)
/-- a miscount -/
theorem lv_1 (h : Int32) (y : Int32) (hr : c 1 0 = 0 ∨ c 1 0 = 1) (hN : c 0 0 = nI N) (h6 : N ≤ 6) : ∀ (n i : Nat), i ≤ N → N - i < n → kX6_leavesNone_5 h y n i (rM f0 w 0 (nE c)) 0 = 0 := by
  intro n
  induction n with
  | zero => exact fun i _ h => absurd h (Nat.not_lt_zero _)
  | succ n ih =>
    intro i hi hn
    unfold kX6_leavesNone_5
    have e0 : rM f0 w 0 (nE c) 0 (ix 0) = c 0 0 := (hdM_of (Or.inl rfl)).1
    rw [e0, hN]
    by_cases hc : nI N ≤ nI i
    · rw [if_pos hc]
    · rw [if_neg hc]
      rw [nI_leI (by omega) (by omega)] at hc
      have k := ih (i + 1) (by omega) (by omega)
      repeat rw [if_pos (show (0 : Int32) = 0 from rfl)]
      rw [k]
      repeat' split
      all_goals rfl
theorem sub0 (v : Int32) : v - 0 = v := Int32.sub_zero v
theorem add0 (v : Int32) : v + 0 = v := Int32.add_zero v
theorem nlt0 (v : Int32) : (v < 0) ↔ ¬ (0 ≤ v) := by
  rw [Int32.lt_iff_toInt_lt, Int32.le_iff_toInt_le, i0]
  omega
theorem q_leaves (h y : Int32) (hr : c 1 0 = 0 ∨ c 1 0 = 1) (hN : c 0 0 = nI N) (h6 : N ≤ 6) : ∀ (n i : Nat), i ≤ N → N - i < n → kX6_leavesNone_5 h y n i (rM f0 w 0 (nE c)) 1 = kX3_explains_2 h y n i c := by
  intro n
  induction n with
  | zero => exact fun i _ h => absurd h (Nat.not_lt_zero _)
  | succ n ih =>
    intro i hi hn
    unfold kX6_leavesNone_5 kX3_explains_2
    have e0 : rM f0 w 0 (nE c) 0 (ix 0) = c 0 0 := (hdM_of (Or.inl rfl)).1
    rw [e0, hN, q_leftOf hdM_0 hr, q_rightOf hdM_0]
    by_cases hc : nI N ≤ nI i
    · rw [if_pos hc, if_pos hc]
    · rw [if_neg hc, if_neg hc]
      rw [nI_leI (by omega) (by omega)] at hc
      have k := ih (i + 1) (by omega) (by omega)
      have k0 := lv_1 (f0 := f0) (w := w) (c := c) h y hr hN h6 n (i + 1) (by omega) (by omega)
      rw [r0_sum (show i < 6 by omega), ix_nI (show i < 2 ^ 31 by omega), show nE c 11 i = c 11 i from rfl, k, k0]
      simp only [if_neg (show ¬ ((1 : Int32) = 0) by decide), sub0, add0, nlt0, eq_comm (a := nI i)]
      by_cases h1 : kX3_rightOf c h = nI i
      · rw [if_pos h1, if_pos h1]
        by_cases h2 : kX3_leftOf c h = nI i
        · rw [if_pos h2, if_pos h2]
          by_cases h3 : 0 ≤ c 11 i + y - y
          · rw [if_neg (fun q => q h3), if_pos h3]
          · rw [if_pos h3, if_neg h3]
        · rw [if_neg h2, if_neg h2]
          by_cases h3 : 0 ≤ c 11 i + y
          · rw [if_neg (fun q => q h3), if_pos h3]
          · rw [if_pos h3, if_neg h3]
      · rw [if_neg h1, if_neg h1]
        by_cases h2 : kX3_leftOf c h = nI i
        · rw [if_pos h2, if_pos h2]
          by_cases h3 : 0 ≤ c 11 i - y
          · rw [if_neg (fun q => q h3), if_pos h3]
          · rw [if_pos h3, if_neg h3]
        · rw [if_neg h2, if_neg h2]
          by_cases h3 : 0 ≤ c 11 i
          · rw [if_neg (fun q => q h3), if_pos h3]
          · rw [if_pos h3, if_neg h3]
theorem q_leavesNone (h y : Int32) (hr : c 1 0 = 0 ∨ c 1 0 = 1) (hok : okL c) : kX6_leavesNone (rM f0 w 0 (nE c)) h y = kX3_explains c h y := by
  obtain ⟨N, h1, h6, hN⟩ := okL_j hok
  exact q_leaves h y hr hN h6 7 0 (by omega) (by omega)
/-- whether a sum is below nothing -/
theorem ex0 (h : Int32) (hN : c 0 0 = nI N) (h6 : N ≤ 6) : ∀ (n i : Nat), i ≤ N → N - i < n → (kX3_explains_2 h 0 n i c = 1 ∧ ∀ v, kX6_byHowMuch_4 h n i (rM f0 w 0 (nE c)) v = kX6_byHowMuch_44 h 20 2 (rM f0 w 0 (nE c)) (if v = 0 then 0 else if i = N then v else 1)) ∨ (kX3_explains_2 h 0 n i c = 0 ∧ ∀ v, kX6_byHowMuch_4 h n i (rM f0 w 0 (nE c)) v = kX6_byHowMuch_44 h 20 2 (rM f0 w 0 (nE c)) 1) := by
  intro n
  induction n with
  | zero => exact fun i _ h => absurd h (Nat.not_lt_zero _)
  | succ n ih =>
    intro i hi hn
    have e0 : rM f0 w 0 (nE c) 0 (ix 0) = c 0 0 := (hdM_of (Or.inl rfl)).1
    by_cases hc : nI N ≤ nI i
    · have hiN : i = N := by
        rw [nI_leI (by omega) (by omega)] at hc
        omega
      left
      refine ⟨?_, fun v => ?_⟩
      · unfold kX3_explains_2
        rw [hN, if_pos hc]
      · unfold kX6_byHowMuch_4
        rw [e0, hN, if_pos hc, if_pos hiN]
        by_cases q : v = 0
        · rw [if_pos q, q]
        · rw [if_neg q]
    · have hlt : i < N := by
        rw [nI_leI (by omega) (by omega)] at hc
        omega
      have hx0 : kX3_explains_2 h 0 (n + 1) i c = if 0 ≤ c 11 i then kX3_explains_2 h 0 n (i + 1) c else 0 := by
        show (if c 0 0 ≤ nI i then _ else _) = _
        rw [hN, if_neg hc]
        simp only [sub0, add0, ix_nI (show i < 2 ^ 31 by omega)]
        repeat' split
        all_goals rfl
      have hm : ∀ v, kX6_byHowMuch_4 h (n + 1) i (rM f0 w 0 (nE c)) v = if v = 0 then (if 0 ≤ c 11 i then kX6_byHowMuch_4 h n (i + 1) (rM f0 w 0 (nE c)) 0 else kX6_byHowMuch_4 h n (i + 1) (rM f0 w 0 (nE c)) 1) else kX6_byHowMuch_4 h n (i + 1) (rM f0 w 0 (nE c)) 1 := fun v => by
        show (if rM f0 w 0 (nE c) 0 (ix 0) ≤ nI i then _ else _) = _
        rw [e0, hN, if_neg hc, r0_sum (show i < 6 by omega)]
        rfl
      rw [hx0]
      simp only [hm]
      have hne : ¬ i = N := by omega
      rcases ih (i + 1) (by omega) (by omega) with ⟨a1, a2⟩ | ⟨a1, a2⟩
      · by_cases hs : 0 ≤ c 11 i
        · left
          refine ⟨by rw [if_pos hs]; exact a1, fun v => ?_⟩
          rw [if_pos hs]
          by_cases q : v = 0
          · rw [if_pos q, if_pos q, a2 0, if_pos rfl]
          · rw [if_neg q, if_neg q, if_neg hne, a2 1, if_neg (by decide)]
            split <;> rfl
        · right
          refine ⟨by rw [if_neg hs], fun v => ?_⟩
          rw [if_neg hs]
          have e1 : kX6_byHowMuch_4 h n (i + 1) (rM f0 w 0 (nE c)) 1 = kX6_byHowMuch_44 h 20 2 (rM f0 w 0 (nE c)) 1 := by
            rw [a2 1, if_neg (by decide)]
            split <;> rfl
          rw [e1]
          split <;> rfl
      · right
        refine ⟨?_, fun v => ?_⟩
        · split
          · exact a1
          · rfl
        · simp only [a2]
          repeat' split
          all_goals rfl
theorem q_by44 (h : Int32) (hr : c 1 0 = 0 ∨ c 1 0 = 1) (hok : okL c) : ∀ (m b : Nat), 1 ≤ b → b + m = 10 → kX6_byHowMuch_44 h (2 * m + 2) (2 * b) (rM f0 w 0 (nE c)) 1 = kX3_miscount_13 h (m + 1) b c := by
  intro m
  induction m with
  | zero =>
    intro b h1 hb
    have : b = 10 := by omega
    subst this
    unfold kX3_miscount_13
    show (if 20 ≤ nI 20 then 0 else _) = _
    rw [if_pos (show (20 : Int32) ≤ nI 20 from Int32.le_refl _), if_pos (show (9 : Int32) < nI 10 by decide)]
  | succ m ih =>
    intro b h1 hb
    have d2 : nI (2 * b) / 2 = nI b := by
      rw [show (2 : Int32) = nI 2 from rfl, pk_div (by omega) (by decide) (by decide)]
      congr 1
      omega
    have d3 : nI (2 * b + 1) / 2 = nI b := by
      rw [show (2 : Int32) = nI 2 from rfl, pk_div (by omega) (by decide) (by decide)]
      congr 1
      omega
    have r2 : remI (nI (2 * b)) 2 = 0 := by
      unfold remI
      rw [show (2 : Int32) = nI 2 from rfl, pk_rem (by omega) (by decide) (by decide), show 2 * b % 2 = 0 by omega]
      rfl
    have r3 : remI (nI (2 * b + 1)) 2 = 1 := by
      unfold remI
      rw [show (2 : Int32) = nI 2 from rfl, pk_rem (by omega) (by decide) (by decide), show (2 * b + 1) % 2 = 1 by omega]
      rfl
    have s1 : kX6_byHowMuch_44 h (2 * (m + 1) + 2) (2 * b) (rM f0 w 0 (nE c)) 1 = if kX6_leavesNone (rM f0 w 0 (nE c)) h (nI b) = 0 then kX6_byHowMuch_44 h (2 * m + 3) (2 * b + 1) (rM f0 w 0 (nE c)) 1 else nI b := by
      show (if 20 ≤ nI (2 * b) then 0 else if (1 : Int32) = 0 then 0 else _) = _
      rw [if_neg (show ¬ ((20 : Int32) ≤ nI (2 * b)) from fun q => by have q' : nI 20 ≤ nI (2 * b) := q; rw [nI_leI (by omega) (by omega)] at q'; omega), if_neg (by decide), d2, if_pos r2]
      rfl
    have s2 : kX6_byHowMuch_44 h (2 * m + 3) (2 * b + 1) (rM f0 w 0 (nE c)) 1 = if kX6_leavesNone (rM f0 w 0 (nE c)) h (-nI b) = 0 then kX6_byHowMuch_44 h (2 * m + 2) (2 * b + 2) (rM f0 w 0 (nE c)) 1 else -nI b := by
      show (if 20 ≤ nI (2 * b + 1) then 0 else if (1 : Int32) = 0 then 0 else _) = _
      rw [if_neg (show ¬ ((20 : Int32) ≤ nI (2 * b + 1)) from fun q => by have q' : nI 20 ≤ nI (2 * b + 1) := q; rw [nI_leI (by omega) (by omega)] at q'; omega), if_neg (by decide), d3, if_neg (show ¬ (remI (nI (2 * b + 1)) 2 = 0) by rw [r3]; decide)]
    rw [s1, s2, q_leavesNone h _ hr hok, q_leavesNone h _ hr hok]
    have hs : kX3_miscount_13 h (m + 1 + 1) b c = if 9 < nI b then 0 else (if kX3_explains c h (nI b) = 0 then (if kX3_explains c h (-nI b) = 0 then kX3_miscount_13 h (m + 1) (b + 1) c else -nI b) else nI b) := rfl
    rw [hs, if_neg (show ¬ ((9 : Int32) < nI b) from fun q => by have q' : nI 9 < nI b := q; rw [nI_ltI (by omega) (by omega)] at q'; omega), ← ih (b + 1) (by omega) (by omega)]
    rfl
theorem q_by0 (h : Int32) : kX6_byHowMuch_44 h 20 2 (rM f0 w 0 (nE c)) 0 = 0 := by
  show (if (20 : Int32) ≤ nI 2 then 0 else if (0 : Int32) = 0 then 0 else _) = _
  rw [if_neg (by decide), if_pos rfl]
theorem q_miscount (h : Int32) (hr : c 1 0 = 0 ∨ c 1 0 = 1) (hok : okL c) : kX6_byHowMuch (rM f0 w 0 (nE c)) h = kX3_miscount c h := by
  obtain ⟨N, h1, h6, hN⟩ := okL_j hok
  unfold kX6_byHowMuch kX3_miscount kX3_explains
  rcases ex0 (f0 := f0) (w := w) h hN h6 7 0 (by omega) (by omega) with ⟨a1, a2⟩ | ⟨a1, a2⟩
  · rw [a1, if_neg (by decide), a2 0, if_pos rfl, q_by0]
  · rw [a1, if_pos rfl, a2 0]
    exact q_by44 h hr hok 9 1 (by omega) (by omega)
end RD
