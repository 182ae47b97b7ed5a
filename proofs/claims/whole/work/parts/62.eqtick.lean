/-! a tick: what a telegram adds, judging, sweeping over -/
theorem nd16 {k : Nat} (hk : k < 2 ^ 31) : (-nI k) / 16 = -nI (k / 16) := by
  apply Int32.toInt_inj.mp
  have h16 : (16 : Int32).toInt = 16 := by decide
  rw [Int32.toInt_div, sb_negT hk, h16, sb_negT (by omega), Int.neg_tdiv, Int.tdiv_eq_ediv_of_nonneg (by omega), Int.bmod_eq_of_le (by omega) (by omega)]
  omega
theorem rem16p {k : Nat} (hk : k < 2 ^ 31) : remI (nI k) 16 = nI (k % 16) := pk_rem hk (by decide) (by decide)
theorem rem16n {k : Nat} (hk : k < 2 ^ 31) : remI (-nI k) 16 = -nI (k % 16) := by
  have h := rem16p hk
  unfold remI at h ⊢
  rw [nd16 hk, ← h, show nI k / 16 = nI (k / 16) from pk_div hk (by decide) (by decide), Int32.neg_mul, Int32.sub_neg, Int32.neg_sub, Int32.add_comm, ← Int32.sub_eq_add_neg]
theorem tells_eq (z : Int32) : remI (remI z 16 + 16) 16 = z &&& 15 := by
  by_cases hz : z < 0
  · have hz' := hz
    rw [Int32.lt_iff_toInt_lt, i0] at hz'
    have hmin := Int32.le_toInt z
    by_cases hm : z.toInt = -2147483648
    · have e : z = (-2147483648) := Int32.toInt_inj.mp (hm.trans (by decide))
      rw [e]
      decide
    · obtain ⟨k, hk⟩ : ∃ k : Nat, (k : Int) = -z.toInt := ⟨(-z.toInt).toNat, by omega⟩
      have hk31 : k < 2 ^ 31 := by omega
      have e : z = -nI k := Int32.toInt_inj.mp (by rw [sb_negT hk31]; omega)
      have e2 : z.toBitVec.toNat = 4294967296 - k := by
        have h1 : z.toInt = z.toBitVec.toInt := rfl
        have h2 := z.toBitVec.isLt
        have hz2 := hz'
        rw [h1, BitVec.toInt_eq_toNat_cond] at hk hz2
        by_cases q : 2 * z.toBitVec.toNat < 2 ^ 32
        · rw [if_pos q] at hk hz2
          omega
        · rw [if_neg q] at hk hz2
          omega
      rw [pk_and z 4 (by decide), e2]
      rw [e, rem16n hk31]
      have hlt : k % 16 < 16 := Nat.mod_lt _ (by decide)
      have h3 : (4294967296 - k) % 2 ^ 4 = (16 - k % 16) % 16 := by
        show (4294967296 - k) % 16 = (16 - k % 16) % 16
        omega
      rw [h3]
      generalize k % 16 = d at hlt
      revert hlt
      revert d
      decide +kernel
  · obtain ⟨k, hk, rfl⟩ := nI_of hz
    rw [rem16p hk, show nI (k % 16) + 16 = nI (k % 16 + 16) from nI_add _ 16, rem16p (by omega), show nI k &&& 15 = nI (k % 2 ^ 4) from pk_andN (by omega) 4 (by decide)]
    congr 1
    omega
theorem more_eq : ∀ a, a < 16 → ∀ b, b < 16 → remI ((nI a - nI b) + 16) 16 = (nI a - nI b) &&& 15 := by decide +kernel
/-- the head of the row that is looked at and that of the first row agree -/
def hdW (w : Nat → Int32) (x : Nat) (c : Nat → Nat → Int32) : Prop := x = 0 ∨ (2 ≤ x ∧ w 0 = c 0 0 ∧ w 1 = c 1 0)
theorem hdM_of {f0 : Nat → Nat → Int32} {w : Nat → Int32} {x : Nat} {c : Nat → Nat → Int32} (hw : hdW w x c) : hdM f0 w x (nE c) := by
  rcases hw with rfl | ⟨h1, h2, h3⟩
  · exact hdM_0
  · exact hdM_t h1 h2 h3
theorem hdW_of {w : Nat → Int32} {x : Nat} {c c' : Nat → Nat → Int32} (hw : hdW w x c) (h0 : c' 0 0 = c 0 0) (h1 : c' 1 0 = c 1 0) : hdW w x c' := by
  rcases hw with h | ⟨a, b, d⟩
  · exact Or.inl h
  · exact Or.inr ⟨a, by rw [h0]; exact b, by rw [h1]; exact d⟩
theorem nE_up {c : Nat → Nat → Int32} {K i : Nat} {v : Int32} (h2 : K ≠ 12) (h3 : K ≠ 13) : nE (up2 c K i v) = up2 (nE c) K i v := by
  funext k j
  by_cases hk : k = K
  · subst hk
    rw [nE_o h3]
    by_cases hj : j = i
    · subst hj
      rw [up2_eq, up2_eq]
    · rw [up2_ne hj, up2_ne hj, nE_o h3]
  · have hb : Nat.beq k K = false := by
      rw [← Bool.not_eq_true, Nat.beq_eq]
      exact hk
    rw [up2_o (K' := k) hb]
    by_cases h13 : k = 13
    · subst h13
      rw [nE_e, nE_e, up2_o (K' := 12) (by rw [← Bool.not_eq_true, Nat.beq_eq]; exact fun q => h2 q.symm), up2_o (K' := 13) hb]
    · rw [nE_o h13, nE_o h13, up2_o (K' := k) hb]
/-- hearing, cut into what it does one after the other -/
def hS1 (f : Nat → Nat → Int32) (x v m : Int32) : Nat → Nat → Int32 := if v = (-1) then f else up2 f 0 (ix (x + 9 + v)) (f 0 (ix (x + 9 + v)) + m)
def hS2 (f : Nat → Nat → Int32) (x v m : Int32) : Nat → Nat → Int32 := if v = (-1) then f else up2 f 0 (ix (x + 9 + v)) (f 0 (ix (x + 9 + v)) - m)
def hT (f : Nat → Nat → Int32) (x i t : Int32) : Nat → Nat → Int32 := up2 (up2 (up2 f 0 (ix (x + 48 + i)) t) 0 (ix (x + 69 + i)) ((up2 f 0 (ix (x + 48 + i)) t) 0 (ix (x + 62 + i)))) 0 (ix (x + 55 + i)) 0
theorem hear_0 (f : Nat → Nat → Int32) (x i t mm m : Int32) (ht : t = remI (remI (f 0 (ix (x + 41 + i))) 16 + 16) 16) (hmm : mm = remI ((t - f 0 (ix (x + 48 + i))) + 16) 16) (hm : m = if mm ≤ 8 then mm else mm - 16) :
    kX6_hear f x i 0 = hT (hS2 (hS1 f x (kX6_rightOf f i) m) x (kX6_leftOf (hS1 f x (kX6_rightOf f i) m) i) m) x i t := by
  unfold kX6_hear
  rw [if_pos rfl, ← ht, ← hmm]
  by_cases h1 : mm ≤ 8
  · rw [if_pos h1] at hm ⊢
    subst hm
    by_cases h2 : kX6_rightOf f i = (-1)
    · rw [if_pos h2]
      have e : hS1 f x (kX6_rightOf f i) m = f := if_pos h2
      rw [e]
      by_cases h3 : kX6_leftOf f i = (-1)
      · rw [if_pos h3]
        unfold hS2
        rw [if_pos h3]
        rfl
      · rw [if_neg h3]
        unfold hS2
        rw [if_neg h3]
        rfl
    · rw [if_neg h2]
      have e : hS1 f x (kX6_rightOf f i) m = up2 f 0 (ix (x + 9 + kX6_rightOf f i)) (f 0 (ix (x + 9 + kX6_rightOf f i)) + m) := if_neg h2
      rw [e]
      by_cases h3 : kX6_leftOf (up2 f 0 (ix (x + 9 + kX6_rightOf f i)) (f 0 (ix (x + 9 + kX6_rightOf f i)) + m)) i = (-1)
      · rw [if_pos h3]
        unfold hS2
        rw [if_pos h3]
        rfl
      · rw [if_neg h3]
        unfold hS2
        rw [if_neg h3]
        rfl
  · rw [if_neg h1] at hm ⊢
    rw [← hm]
    by_cases h2 : kX6_rightOf f i = (-1)
    · rw [if_pos h2]
      have e : hS1 f x (kX6_rightOf f i) m = f := if_pos h2
      rw [e]
      by_cases h3 : kX6_leftOf f i = (-1)
      · rw [if_pos h3]
        unfold hS2
        rw [if_pos h3]
        rfl
      · rw [if_neg h3]
        unfold hS2
        rw [if_neg h3]
        rfl
    · rw [if_neg h2]
      have e : hS1 f x (kX6_rightOf f i) m = up2 f 0 (ix (x + 9 + kX6_rightOf f i)) (f 0 (ix (x + 9 + kX6_rightOf f i)) + m) := if_neg h2
      rw [e]
      by_cases h3 : kX6_leftOf (up2 f 0 (ix (x + 9 + kX6_rightOf f i)) (f 0 (ix (x + 9 + kX6_rightOf f i)) + m)) i = (-1)
      · rw [if_pos h3]
        unfold hS2
        rw [if_pos h3]
        rfl
      · rw [if_neg h3]
        unfold hS2
        rw [if_neg h3]
        rfl
/-- a side of a head is no section (-1), or a section -/
def sdC (c : Nat → Nat → Int32) (N : Nat) (v : Int32) : Prop := (v = (-1) ∧ kX3_hasSection c v = 0) ∨ ∃ j, j < N ∧ v = nI j ∧ kX3_hasSection c v = 1
theorem nI_nm1 {j : Nat} (hj : j < 100) : ¬ (nI j = (-1)) := by
  intro q
  have h := congrArg Int32.toInt q
  rw [nI_toInt (by omega), show (-1 : Int32).toInt = -1 by decide] at h
  omega
section TK
variable {f0 : Nat → Nat → Int32} {w : Nat → Int32} {x : Nat} {c : Nat → Nat → Int32} {N : Nat}
theorem hs_m1 : kX3_hasSection c (-1) = 0 := if_pos (by decide)
theorem hs_j (hN : c 0 0 = nI N) (h6 : N ≤ 6) {j : Nat} (hj : j < N) : kX3_hasSection c (nI j) = 1 := by
  unfold kX3_hasSection
  rw [hN, if_neg (nI_pos (by omega)), if_neg]
  rw [nI_leI (by omega) (by omega)]
  omega
theorem sd_right (hN : c 0 0 = nI N) (h6 : N ≤ 6) {i : Nat} (hi : i < 7) : sdC c N (kX3_rightOf c (nI i)) := by
  unfold kX3_rightOf
  rw [hN]
  by_cases h : nI N ≤ nI i
  · rw [if_pos h]
    exact Or.inl ⟨rfl, hs_m1⟩
  · rw [if_neg h]
    rw [nI_leI (by omega) (by omega)] at h
    exact Or.inr ⟨i, by omega, rfl, hs_j hN h6 (by omega)⟩
theorem sd_left (hN : c 0 0 = nI N) (h1 : 1 ≤ N) (h6 : N ≤ 6) {i : Nat} (hi : i ≤ N) : sdC c N (kX3_leftOf c (nI i)) := by
  unfold kX3_leftOf
  rw [hN]
  by_cases h : nI i ≤ 0
  · rw [if_pos h]
    by_cases h2 : c 1 0 = 0
    · rw [if_pos h2]
      exact Or.inl ⟨rfl, hs_m1⟩
    · rw [if_neg h2]
      obtain ⟨N', rfl⟩ : ∃ N', N = N' + 1 := ⟨N - 1, by omega⟩
      rw [nI_pred]
      exact Or.inr ⟨N', by omega, rfl, hs_j hN h6 (by omega)⟩
  · rw [if_neg h]
    have hi0 : i ≠ 0 := by
      rintro rfl
      exact h (Int32.le_refl _)
    obtain ⟨j, rfl⟩ : ∃ j, i = j + 1 := ⟨i - 1, by omega⟩
    rw [nI_pred]
    exact Or.inr ⟨j, by omega, rfl, hs_j hN h6 (by omega)⟩
theorem q_hS1 (hx : x ≤ 1596) (h6 : N ≤ 6) {v m : Int32} (hs : sdC c N v) : hS1 (rM f0 w x (nE c)) (nI x) v m = rM f0 w x (nE (kX3_addToSum c v m)) := by
  unfold hS1 kX3_addToSum
  rcases hs with ⟨h1, h2⟩ | ⟨j, hj, rfl, h2⟩
  · rw [if_pos h1, if_pos h2]
  · rw [if_neg (show ¬ (kX3_hasSection c (nI j) = 0) by rw [h2]; decide), if_neg (nI_nm1 (show j < 100 by omega)), rd_sum hx (by omega), wr_sum hx (by omega), nE_up (by decide) (by decide), ix_nI (by omega)]
    rfl
theorem q_hS2 (hx : x ≤ 1596) (h6 : N ≤ 6) {v m : Int32} (hs : sdC c N v) : hS2 (rM f0 w x (nE c)) (nI x) v m = rM f0 w x (nE (kX3_addToSum c v (-m))) := by
  unfold hS2 kX3_addToSum
  rcases hs with ⟨h1, h2⟩ | ⟨j, hj, rfl, h2⟩
  · rw [if_pos h1, if_pos h2]
  · rw [if_neg (show ¬ (kX3_hasSection c (nI j) = 0) by rw [h2]; decide), if_neg (nI_nm1 (show j < 100 by omega)), rd_sum hx (by omega), wr_sum hx (by omega), nE_up (by decide) (by decide), ix_nI (by omega), Int32.sub_eq_add_neg]
    rfl
theorem add_o {v m : Int32} {K : Nat} (hK : K ≠ 11) : kX3_addToSum c v m K = c K := by
  unfold kX3_addToSum
  split
  · rfl
  · rw [up2_o (by rw [← Bool.not_eq_true, Nat.beq_eq]; exact hK)]
theorem q_hT (hx : x ≤ 1596) {i : Nat} (hi : i < 7) {t : Int32} : hT (rM f0 w x (nE c)) (nI x) (nI i) t = rM f0 w x (nE (up2 (up2 (up2 c 7 i t) 8 i (c 6 i)) 9 i 0)) := by
  unfold hT
  rw [wr_heard hx hi, rd_faulty hx hi, wr_told hx hi, wr_age hx hi, nE_up (by decide) (by decide), nE_up (by decide) (by decide), nE_up (by decide) (by decide)]
  rfl
/-- what hearing a telegram does, lost or not -/
def cHear (c : Nat → Nat → Int32) (i : Nat) (lost : Int32) : Nat → Nat → Int32 := if lost = 0 then kX3_receive c (nI i) else (if 99 ≤ c 9 i then c else up2 c 9 i (c 9 i + 1))
theorem q_hear (hx : x ≤ 1596) (hw : hdW w x c) (hv : invC c) (hN : c 0 0 = nI N) (h1 : 1 ≤ N) (h6 : N ≤ 6) {i : Nat} (hi : i ≤ N) (lost : Int32) : kX6_hear (rM f0 w x (nE c)) (nI x) (nI i) lost = rM f0 w x (nE (cHear c i lost)) := by
  obtain ⟨hok, hr, -, -, hhd, hag, -, -⟩ := hv
  have hi7 : i < 7 := by omega
  unfold cHear
  by_cases hl : lost = 0
  · subst hl
    rw [if_pos rfl]
    obtain ⟨b, hb, eb⟩ := vp_in_of (hhd i hi7) (by decide)
    obtain ⟨a, ha, ea⟩ := pk_andE (c 5 i) (m := 15) 4 (by decide)
    have et : remI (remI (rM f0 w x (nE c) 0 (ix (nI x + 41 + nI i))) 16 + 16) 16 = c 5 i &&& 15 := by
      rw [rd_count hx hi7]
      exact tells_eq (c 5 i)
    have em : remI ((c 5 i &&& 15) - rM f0 w x (nE c) 0 (ix (nI x + 48 + nI i)) + 16) 16 = ((c 5 i &&& 15) - c 7 i) &&& 15 := by
      rw [rd_heard hx hi7, show nE c 7 i = c 7 i from rfl, eb, ea]
      exact more_eq a ha b hb
    rw [hear_0 _ _ _ (c 5 i &&& 15) (((c 5 i &&& 15) - c 7 i) &&& 15) _ et.symm em.symm rfl]
    rw [q_rightOf (hdM_of hw), q_hS1 hx h6 (sd_right hN h6 hi7)]
    have hw2 : ∀ v m, hdW w x (kX3_addToSum c v m) := fun v m => hdW_of hw (by rw [add_o (by decide)]) (by rw [add_o (by decide)])
    have hN2 : ∀ v m, kX3_addToSum c v m 0 0 = nI N := fun v m => by rw [add_o (by decide)]; exact hN
    have hr2 : ∀ v m, kX3_addToSum c v m 1 0 = 0 ∨ kX3_addToSum c v m 1 0 = 1 := fun v m => by rw [add_o (by decide)]; exact hr
    rw [q_leftOf (hdM_of (hw2 _ _)) (hr2 _ _), q_hS2 hx h6 (sd_left (hN2 _ _) h1 h6 hi), q_hT hx hi7]
    unfold kX3_receive
    rw [ix_nI (show i < 2 ^ 31 by omega)]
    by_cases h8 : ((c 5 i &&& 15) - c 7 i) &&& 15 ≤ 8
    · rw [if_pos h8, if_pos h8]
    · rw [if_neg h8, if_neg h8, Int32.sub_eq_add_neg]
  · rw [if_neg hl]
    unfold kX6_hear
    rw [if_neg hl, rd_age hx hi7, show nE c 9 i = c 9 i from rfl]
    by_cases h9 : 99 ≤ c 9 i
    · rw [if_pos h9, if_pos h9, wr_age hx hi7]
      have e : c 9 i = 99 := by
        obtain ⟨j, hj, e⟩ := vp_in_of (hag i hi7) (by decide)
        rw [e] at h9 ⊢
        have h9' : nI 99 ≤ nI j := h9
        rw [nI_leI (by omega) (by omega)] at h9'
        rw [show j = 99 by omega]
        rfl
      refine congrArg (rM f0 w x) (funext fun k => funext fun j => ?_)
      by_cases hk : k = 9
      · subst hk
        by_cases hj : j = i
        · subst hj
          rw [up2_eq]
          exact e.symm
        · rw [up2_ne hj]
      · rw [up2_o (by rw [← Bool.not_eq_true, Nat.beq_eq]; exact hk)]
    · rw [if_neg h9, if_neg h9, wr_age hx hi7, nE_up (by decide) (by decide)]
end TK
