/-! judging and sweeping over, of a row; loops of a tick -/
theorem nbeq {k K : Nat} (h : k ≠ K) : Nat.beq k K = false := by
  rw [← Bool.not_eq_true, Nat.beq_eq]
  exact h
theorem up2_same {r : Nat → Nat → Int32} {K i : Nat} {v : Int32} (h : r K i = v) : up2 r K i v = r := by
  funext k j
  by_cases hk : k = K
  · subst hk
    by_cases hj : j = i
    · subst hj
      rw [up2_eq, h]
    · rw [up2_ne hj]
  · rw [up2_o (nbeq hk)]
theorem nE_call {c : Nat → Nat → Int32} {i : Nat} {v : Int32} (hv : v ≠ 3) : nE (up2 c 12 i v) = up2 (up2 (nE c) 12 i v) 13 i 0 := by
  funext k j
  by_cases h13 : k = 13
  · subst h13
    rw [nE_e, up2_o (K := 12) (K' := 13) rfl]
    by_cases hj : j = i
    · subst hj
      rw [up2_eq, up2_eq, if_neg hv]
    · rw [up2_ne hj, up2_ne hj, up2_o (K := 12) (K' := 13) rfl, nE_e]
  · rw [nE_o h13, up2_o (K' := k) (nbeq h13)]
    by_cases h12 : k = 12
    · subst h12
      by_cases hj : j = i
      · subst hj
        rw [up2_eq, up2_eq]
      · rw [up2_ne hj, up2_ne hj, nE_o (by decide)]
    · rw [up2_o (nbeq h12), up2_o (nbeq h12), nE_o h13]
theorem nE_call0 {c : Nat → Nat → Int32} {i : Nat} {v : Int32} (hv : v ≠ 3) (hc : c 12 i ≠ 3) : nE (up2 c 12 i v) = up2 (nE c) 12 i v := by
  rw [nE_call hv, up2_same]
  rw [up2_o (K := 12) (K' := 13) rfl, nE_e, if_neg hc]
theorem nE_ent {c : Nat → Nat → Int32} {i : Nat} {v : Int32} (hc : c 12 i = 3) : nE (up2 c 13 i v) = up2 (nE c) 13 i v := by
  funext k j
  by_cases h13 : k = 13
  · subst h13
    rw [nE_e, up2_o (K := 13) (K' := 12) rfl]
    by_cases hj : j = i
    · subst hj
      rw [up2_eq, up2_eq, if_pos hc]
    · rw [up2_ne hj, up2_ne hj, nE_e]
  · rw [nE_o h13, up2_o (nbeq h13), up2_o (nbeq h13), nE_o h13]
section JG
variable {f0 : Nat → Nat → Int32} {w : Nat → Int32} {x : Nat} {c : Nat → Nat → Int32} {N : Nat}
theorem q_heal (hx : x ≤ 1596) {r : Nat → Nat → Int32} {j : Nat} (hj : j < 6) : kX6_heal (rM f0 w x r) (nI x) (nI j) = rM f0 w x (up2 (up2 (up2 r 11 j 0) 12 j 0) 13 j 0) := by
  unfold kX6_heal
  rw [wr_sum hx hj, wr_call hx hj, wr_ent hx hj]
theorem q_judge (hx : x ≤ 1596) (hw : hdW w x c) (hv : invC c) (hN : c 0 0 = nI N) (h6 : N ≤ 6) {j : Nat} (hj : j < N) : kX6_judgeOne (rM f0 w x (nE c)) (nI x) (nI j) = rM f0 w x (nE (kX3_judge c (nI j))) := by
  obtain ⟨hok, hr, hca, -, -, -, -, -⟩ := hv
  have hj6 : j < 6 := by omega
  unfold kX6_judgeOne kX3_judge
  rw [q_trouble hx (hdM_of hw) hr hN h6 hj, rd_call hx hj6, rd_sum hx hj6, rd_ent hx hj6, ix_nI (show j < 2 ^ 31 by omega), show nE c 12 j = c 12 j from rfl, show nE c 11 j = c 11 j from rfl]
  by_cases ht : kX3_hasTrouble c (nI j) = 0
  · rw [if_pos ht, if_pos ht]
    by_cases h0 : c 12 j = 0
    · rw [if_pos h0, if_neg (show ¬ (c 12 j = 3) by rw [h0]; decide), if_neg (show ¬ (c 12 j = 2) by rw [h0]; decide)]
      split
      · rw [wr_call hx hj6, nE_call0 (by decide) (by rw [h0]; decide)]
      · rw [wr_call hx hj6, nE_call0 (by decide) (by rw [h0]; decide)]
    · rw [if_neg h0]
      by_cases h1 : c 12 j = 1
      · rw [if_pos h1, if_neg (show ¬ (c 12 j = 3) by rw [h1]; decide), if_neg (show ¬ (c 12 j = 2) by rw [h1]; decide)]
        split
        · rw [wr_call hx hj6, nE_call0 (by decide) (by rw [h1]; decide)]
        · rw [wr_call hx hj6, nE_call0 (by decide) (by rw [h1]; decide)]
      · rw [if_neg h1]
        by_cases h3 : c 12 j = 3
        · rw [if_pos h3, if_pos h3]
          unfold kX3_judgeSweep
          rw [ix_nI (show j < 2 ^ 31 by omega), nE_e, if_pos h3]
          by_cases hs : c 11 j ≤ 0
          · rw [if_pos hs, if_pos hs]
            by_cases he : c 13 j = 1
            · rw [if_pos he, if_pos he, q_heal hx hj6, nE_call (by decide)]
              have hz : c 11 j = 0 := by
                have hnt : ¬ (c 11 j < 0) := by
                  intro q
                  unfold kX3_hasTrouble at ht
                  rw [ix_nI (show j < 2 ^ 31 by omega), if_pos q] at ht
                  exact absurd ht (by decide)
                rw [Int32.lt_iff_toInt_lt, i0] at hnt
                rw [Int32.le_iff_toInt_le, i0] at hs
                exact Int32.toInt_inj.mp (by rw [i0]; omega)
              rw [up2_same (r := nE c) (K := 11) hz]
            · rw [if_neg he, if_neg he]
          · rw [if_neg hs, if_neg hs, wr_ent hx hj6, nE_ent h3]
        · rw [if_neg h3, if_neg h3]
          have h2 : c 12 j = 2 := by
            obtain ⟨k, hk, e⟩ := vp_in_of (hca j hj6) (by decide)
            rw [e] at h0 h1 h3 ⊢
            rcases (show k = 0 ∨ k = 1 ∨ k = 2 ∨ k = 3 by omega) with rfl | rfl | rfl | rfl
            · exact absurd rfl h0
            · exact absurd rfl h1
            · rfl
            · exact absurd rfl h3
          rw [if_pos h2]
  · rw [if_neg ht, if_neg ht, wr_call hx hj6, wr_ent hx hj6, nE_call (by decide)]
theorem sd_eq {v : Int32} (hs : sdC c N v) (h6 : N ≤ 6) : (v = (-1)) ↔ kX3_hasSection c v = 0 := by
  rcases hs with ⟨h1, h2⟩ | ⟨j, hj, rfl, h2⟩
  · exact ⟨fun _ => h2, fun _ => h1⟩
  · exact ⟨fun q => absurd q (nI_nm1 (by omega)), fun q => by rw [h2] at q; exact absurd q (by decide)⟩
theorem q_joins (hw : hdW w x c) (hr : c 1 0 = 0 ∨ c 1 0 = 1) (hN : c 0 0 = nI N) (h1 : 1 ≤ N) (h6 : N ≤ 6) {i : Nat} (hi : i ≤ N) : kX6_isJoint (rM f0 w x (nE c)) (nI i) = kX3_joins c (nI i) := by
  unfold kX6_isJoint kX3_joins
  rw [q_leftOf (hdM_of hw) hr, q_rightOf (hdM_of hw)]
  simp only [sd_eq (sd_left hN h1 h6 hi) h6, sd_eq (sd_right hN h6 (show i < 7 by omega)) h6]
theorem joins_ab (hN : c 0 0 = nI N) (h1 : 1 ≤ N) (h6 : N ≤ 6) {i : Nat} (hi : i ≤ N) (hj : ¬ (kX3_joins c (nI i) = 0)) : ∃ a b, a < N ∧ b < N ∧ kX3_leftOf c (nI i) = nI a ∧ kX3_rightOf c (nI i) = nI b ∧ kX3_hasSection c (nI a) = 1 ∧ kX3_hasSection c (nI b) = 1 := by
  unfold kX3_joins at hj
  rcases sd_left hN h1 h6 hi with ⟨-, h2⟩ | ⟨a, ha, ea, h2⟩
  · rw [if_pos h2] at hj
    exact absurd rfl hj
  · rw [if_neg (by rw [h2]; decide)] at hj
    rcases sd_right hN h6 (show i < 7 by omega) with ⟨-, h3⟩ | ⟨b, hb, eb, h3⟩
    · rw [if_pos h3] at hj
      exact absurd rfl hj
    · exact ⟨a, b, ha, hb, ea, eb, by rw [← ea]; exact h2, by rw [← eb]; exact h3⟩
theorem up2_comm {r : Nat → Nat → Int32} {K K' i j : Nat} {v u : Int32} (h : K ≠ K') : up2 (up2 r K i v) K' j u = up2 (up2 r K' j u) K i v := by
  funext k q
  by_cases h1 : k = K
  · subst h1
    rw [up2_o (nbeq h)]
    by_cases hq : q = i
    · subst hq
      rw [up2_eq, up2_eq]
    · rw [up2_ne hq, up2_ne hq, up2_o (nbeq h)]
  · rw [up2_o (K := K) (nbeq h1)]
    by_cases h2 : k = K'
    · subst h2
      by_cases hq : q = j
      · subst hq
        rw [up2_eq, up2_eq]
      · rw [up2_ne hq, up2_ne hq, up2_o (nbeq h1)]
    · rw [up2_o (nbeq h2), up2_o (nbeq h2), up2_o (nbeq h1)]
theorem q_sweep (hx : x ≤ 1596) (hw : hdW w x c) (hv : invC c) (hN : c 0 0 = nI N) (h1 : 1 ≤ N) (h6 : N ≤ 6) {i : Nat} (hi : i ≤ N) (hj : ¬ (kX3_joins c (nI i) = 0)) : kX6_sweepOver (rM f0 w x (nE c)) (nI x) (nI i) = rM f0 w x (nE (kX3_judgeJoint c (nI i) (kX3_leftOf c (nI i)) (kX3_rightOf c (nI i)))) := by
  obtain ⟨hok, hr, -, -, -, -, -, -⟩ := hv
  obtain ⟨a, b, ha, hb, ea, eb, sa, sb⟩ := joins_ab hN h1 h6 hi hj
  have hi7 : i < 7 := by omega
  have eJ : kX3_joint c (nI i) = c 11 a + c 11 b := by
    unfold kX3_joint
    rw [ea, eb, sa, sb, if_neg (by decide), if_neg (by decide), ix_nI (by omega), ix_nI (by omega)]
  have key : (if c 11 a + c 11 b ≤ 0 then (if c 11 a + c 11 b = 0 then (if c 10 i = 1 then (if kX3_hasBadHead c (nI a) = 0 then (if kX3_hasBadHead c (nI b) = 0 then up2 (kX6_heal (kX6_heal (rM f0 w x (nE c)) (nI x) (nI a)) (nI x) (nI b)) 0 (ix (nI x + 76 + nI i)) 0 else rM f0 w x (nE c)) else rM f0 w x (nE c)) else rM f0 w x (nE c)) else rM f0 w x (nE c)) else up2 (rM f0 w x (nE c)) 0 (ix (nI x + 76 + nI i)) 1)
      = rM f0 w x (nE (if kX3_joint c (nI i) ≤ 0 then (if kX3_canHeal c (nI i) (nI a) (nI b) = 0 then c else kX3_heal c (nI i) (nI a) (nI b)) else up2 c 10 (ix (nI i)) 1)) := by
    rw [eJ, ix_nI (show i < 2 ^ 31 by omega)]
    unfold kX3_canHeal
    rw [eJ, ix_nI (show i < 2 ^ 31 by omega)]
    by_cases q1 : c 11 a + c 11 b ≤ 0
    · rw [if_pos q1, if_pos q1]
      by_cases q2 : c 11 a + c 11 b = 0
      · rw [if_pos q2, if_pos q2]
        by_cases q3 : c 10 i = 1
        · rw [if_pos q3, if_pos q3]
          by_cases q4 : kX3_hasBadHead c (nI a) = 0
          · rw [if_pos q4, if_pos q4]
            by_cases q5 : kX3_hasBadHead c (nI b) = 0
            · rw [if_pos q5, if_pos q5, if_neg (show ¬ ((1 : Int32) = 0) by decide), q_heal hx (by omega), q_heal hx (by omega), wr_swept hx hi7]
              unfold kX3_heal
              rw [ix_nI (show a < 2 ^ 31 by omega), ix_nI (show b < 2 ^ 31 by omega), ix_nI (show i < 2 ^ 31 by omega)]
              rw [nE_up (K := 10) (by decide) (by decide), nE_call (i := b) (by decide), nE_call (i := a) (by decide), nE_up (K := 11) (by decide) (by decide), nE_up (K := 11) (by decide) (by decide)]
              rw [up2_comm (K := 13) (K' := 11) (by decide), up2_comm (K := 12) (K' := 11) (by decide)]
            · rw [if_neg q5, if_neg q5, if_pos rfl]
          · rw [if_neg q4, if_neg q4, if_pos rfl]
        · rw [if_neg q3, if_neg q3, if_pos rfl]
      · rw [if_neg q2, if_neg q2]
        by_cases q3 : c 10 i = 1
        · rw [if_pos q3, if_pos rfl]
        · rw [if_neg q3, if_pos rfl]
    · rw [if_neg q1, if_neg q1, wr_swept hx hi7, nE_up (by decide) (by decide)]
  unfold kX6_sweepOver kX3_judgeJoint
  rw [q_leftOf (hdM_of hw) hr, q_rightOf (hdM_of hw), ea, eb, rd_call hx (show a < 6 by omega), rd_call hx (show b < 6 by omega), rd_sum hx (show a < 6 by omega), rd_sum hx (show b < 6 by omega), rd_swept hx hi7, q_hasBad hx (hdM_of hw) hr hN h6 ha, q_hasBad hx (hdM_of hw) hr hN h6 hb, ix_nI (show a < 2 ^ 31 by omega), ix_nI (show b < 2 ^ 31 by omega)]
  rw [show nE c 12 a = c 12 a from rfl, show nE c 12 b = c 12 b from rfl, show nE c 11 a = c 11 a from rfl, show nE c 11 b = c 11 b from rfl, show nE c 10 i = c 10 i from rfl]
  by_cases p1 : c 12 a = 2
  · rw [if_pos p1, if_pos p1]
    exact key
  · rw [if_neg p1, if_neg p1]
    by_cases p2 : c 12 b = 2
    · rw [if_pos p2, if_pos p2]
      exact key
    · rw [if_neg p2, if_neg p2, wr_swept hx hi7, nE_up (by decide) (by decide), ix_nI (show i < 2 ^ 31 by omega)]
end JG
