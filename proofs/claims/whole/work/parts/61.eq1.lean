/-! a Line of the class, as the reference has it: ENTERED only while SWEEP -/
def nE (c : Nat → Nat → Int32) : Nat → Nat → Int32 := fun K i => if K = 13 then (if c 12 i = 3 then c 13 i else 0) else c K i
theorem nE_o {c : Nat → Nat → Int32} {K i : Nat} (h : K ≠ 13) : nE c K i = c K i := if_neg h
theorem nE_e {c : Nat → Nat → Int32} {i : Nat} : nE c 13 i = if c 12 i = 3 then c 13 i else 0 := if_pos rfl
def invC (c : Nat → Nat → Int32) : Prop := okL c ∧ (c 1 0 = 0 ∨ c 1 0 = 1) ∧ (∀ i, i < 6 → vp_in (c 12 i) 4) ∧ (∀ i, i < 7 → c 6 i = 0 ∨ c 6 i = 1) ∧ (∀ i, i < 7 → vp_in (c 7 i) 16) ∧ (∀ i, i < 7 → vp_in (c 9 i) 100) ∧ vp_in (c 2 0) 10000 ∧ (∀ i, i < 7 → vp_in (c 3 i) 4)
/-- the head of the row that is looked at and that of the first row agree -/
def hdM (f0 : Nat → Nat → Int32) (w : Nat → Int32) (x : Nat) (r : Nat → Nat → Int32) : Prop := rM f0 w x r 0 0 = r 0 0 ∧ rM f0 w x r 0 1 = r 1 0
theorem hdM_0 {f0 : Nat → Nat → Int32} {w : Nat → Int32} {r : Nat → Nat → Int32} : hdM f0 w 0 r := ⟨rM_rd (by decide) (by decide) rfl, rM_rd (by decide) (by decide) rfl⟩
theorem hdM_t {f0 : Nat → Nat → Int32} {w : Nat → Int32} {x : Nat} {r : Nat → Nat → Int32} (hx : 2 ≤ x) (h0 : w 0 = r 0 0) (h1 : w 1 = r 1 0) : hdM f0 w x r := ⟨(emb_out (by omega)).trans h0, (emb_out (by omega)).trans h1⟩
theorem ite_ff {P Q : Prop} {dP : Decidable P} {dQ : Decidable Q} {a b : Int32} (h : P ↔ Q) : @ite Int32 P dP a b = @ite Int32 Q dQ a b := by
  by_cases hP : P
  · rw [if_pos hP, if_pos (h.mp hP)]
  · rw [if_neg hP, if_neg (fun q => hP (h.mpr q))]
section EQ1
variable {f0 : Nat → Nat → Int32} {w : Nat → Int32} {x : Nat} {c : Nat → Nat → Int32}
theorem q_heads (hh : hdM f0 w x (nE c)) (hr : c 1 0 = 0 ∨ c 1 0 = 1) : kX6_heads (rM f0 w x (nE c)) = kX3_heads c := by
  have e0 : rM f0 w x (nE c) 0 (ix 0) = c 0 0 := hh.1
  have e1 : rM f0 w x (nE c) 0 (ix 1) = c 1 0 := hh.2
  unfold kX6_heads kX3_heads
  rw [e0, e1]
  rcases hr with h | h
  · rw [h, if_neg (by decide), if_pos rfl]
  · rw [h, if_pos rfl, if_neg (by decide)]
theorem q_leftOf (hh : hdM f0 w x (nE c)) (hr : c 1 0 = 0 ∨ c 1 0 = 1) (h : Int32) : kX6_leftOf (rM f0 w x (nE c)) h = kX3_leftOf c h := by
  have e0 : rM f0 w x (nE c) 0 (ix 0) = c 0 0 := hh.1
  have e1 : rM f0 w x (nE c) 0 (ix 1) = c 1 0 := hh.2
  unfold kX6_leftOf kX3_leftOf
  rw [e0, e1]
  rcases hr with q | q
  · rw [q, if_neg (show ¬ (0 : Int32) = 1 by decide), if_pos (show (0 : Int32) = 0 from rfl)]
  · rw [q, if_pos (show (1 : Int32) = 1 from rfl), if_neg (show ¬ (1 : Int32) = 0 by decide)]
theorem q_rightOf (hh : hdM f0 w x (nE c)) (h : Int32) : kX6_rightOf (rM f0 w x (nE c)) h = kX3_rightOf c h := by
  have e0 : rM f0 w x (nE c) 0 (ix 0) = c 0 0 := hh.1
  unfold kX6_rightOf kX3_rightOf
  rw [e0]
theorem q_rightHead (hh : hdM f0 w x (nE c)) (hr : c 1 0 = 0 ∨ c 1 0 = 1) {N j : Nat} (hN : c 0 0 = nI N) (h6 : N ≤ 6) (hj : j < N) : kX6_rightHead (rM f0 w x (nE c)) (nI j) = kX3_rightHead c (nI j) := by
  have e0 : rM f0 w x (nE c) 0 (ix 0) = c 0 0 := hh.1
  have e1 : rM f0 w x (nE c) 0 (ix 1) = c 1 0 := hh.2
  unfold kX6_rightHead kX3_rightHead
  rw [e0, e1, hN]
  rcases hr with q | q
  · rw [q, if_neg (show ¬ (0 : Int32) = 1 by decide), if_pos (show (0 : Int32) = 0 from rfl)]
  · rw [q, if_pos (show (1 : Int32) = 1 from rfl), if_neg (show ¬ (1 : Int32) = 0 by decide), nI_1]
    unfold remI
    rw [pk_rem (by omega) (by omega) (by omega)]
    by_cases e : j + 1 = N
    · rw [if_pos (show nI (j + 1) = nI N by rw [e]), e, Nat.mod_self]
      rfl
    · rw [if_neg (show ¬ (nI (j + 1) = nI N) by rw [nI_eq (by omega) (by omega)]; exact e), Nat.mod_eq_of_lt (by omega)]
theorem rightHead_j (hr : c 1 0 = 0 ∨ c 1 0 = 1) {N j : Nat} (hN : c 0 0 = nI N) (h6 : N ≤ 6) (hj : j < N) : ∃ k, k < 7 ∧ kX3_rightHead c (nI j) = nI k := vp_in_of (rh_in (vp_in_nI (by omega) (by decide))) (by decide)
theorem q_isBad (hx : x ≤ 1596) {j : Nat} (hj : j < 7) : kX6_isBad (rM f0 w x (nE c)) (nI x) (nI j) = kX3_isBad c (nI j) := by
  unfold kX6_isBad kX3_isBad
  rw [rd_told hx hj, rd_age hx hj, ix_nI (show j < 2 ^ 31 by omega)]
  rfl
theorem q_hasBad (hx : x ≤ 1596) (hh : hdM f0 w x (nE c)) (hr : c 1 0 = 0 ∨ c 1 0 = 1) {N j : Nat} (hN : c 0 0 = nI N) (h6 : N ≤ 6) (hj : j < N) : kX6_hasBad (rM f0 w x (nE c)) (nI x) (nI j) = kX3_hasBadHead c (nI j) := by
  unfold kX6_hasBad kX3_hasBadHead
  obtain ⟨k, hk, e⟩ := rightHead_j hr hN h6 hj
  rw [q_isBad hx (show j < 7 by omega), q_rightHead hh hr hN h6 hj, e, q_isBad hx hk]
theorem q_trouble (hx : x ≤ 1596) (hh : hdM f0 w x (nE c)) (hr : c 1 0 = 0 ∨ c 1 0 = 1) {N j : Nat} (hN : c 0 0 = nI N) (h6 : N ≤ 6) (hj : j < N) : kX6_isTrouble (rM f0 w x (nE c)) (nI x) (nI j) = kX3_hasTrouble c (nI j) := by
  unfold kX6_isTrouble kX3_hasTrouble
  rw [rd_sum hx (show j < 6 by omega), q_hasBad hx hh hr hN h6 hj, ix_nI (show j < 2 ^ 31 by omega)]
  rfl
theorem q_isSection (hh : hdM f0 w x (nE c)) (hok : okL c) (s : Int32) : kX6_isSection (rM f0 w x (nE c)) s = kX3_hasSection c s := by
  have e0 : rM f0 w x (nE c) 0 (ix 0) = c 0 0 := hh.1
  obtain ⟨N, h1, h2, e⟩ := okL_j hok
  unfold kX6_isSection kX6_in kX3_hasSection
  rw [e0, e]
  by_cases q : s < 0
  · rw [if_pos q, if_pos q]
  · rw [if_neg q, if_neg q]
    obtain ⟨k, hk, rfl⟩ := nI_of q
    obtain ⟨N', rfl⟩ : ∃ N', N = N' + 1 := ⟨N - 1, by omega⟩
    rw [nI_pred]
    exact ite_ff (by rw [nI_ltI (by omega) hk, nI_leI (by omega) hk]; omega)
theorem q_isHead (hh : hdM f0 w x (nE c)) (hok : okL c) (hr : c 1 0 = 0 ∨ c 1 0 = 1) (s : Int32) : kX6_isHead (rM f0 w x (nE c)) s = kX3_hasHead c s := by
  obtain ⟨N, h1, h2, e⟩ := heads_j hok
  unfold kX6_isHead kX6_in kX3_hasHead
  rw [q_heads hh hr, e]
  by_cases q : s < 0
  · rw [if_pos q, if_pos q]
  · rw [if_neg q, if_neg q]
    obtain ⟨k, hk, rfl⟩ := nI_of q
    obtain ⟨N', rfl⟩ : ∃ N', N = N' + 1 := ⟨N - 1, by omega⟩
    rw [nI_pred]
    exact ite_ff (by rw [nI_ltI (by omega) hk, nI_leI (by omega) hk]; omega)
theorem set_u : ∀ n, n < 8 → (((nI n).toUInt32 &&& Int32.toUInt32 31).toBitVec % 32).toNat = n := by decide +kernel
theorem set_1 : ∀ n, n < 8 → ((1 : Int32) <<< (nI n &&& 31)) = nI (2 ^ n) := by decide +kernel
theorem q_isSet (hh : hdM f0 w x (nE c)) (hok : okL c) (hr : c 1 0 = 0 ∨ c 1 0 = 1) (s : Int32) : kX6_isSet (rM f0 w x (nE c)) s = kX3_hasHeads c s := by
  obtain ⟨N, h1, h2, e⟩ := heads_j hok
  unfold kX6_isSet kX6_in kX3_hasHeads
  rw [q_heads hh hr, e, set_1 N (by omega)]
  have hp : 1 ≤ 2 ^ N ∧ 2 ^ N ≤ 128 := by
    rcases (show N = 1 ∨ N = 2 ∨ N = 3 ∨ N = 4 ∨ N = 5 ∨ N = 6 ∨ N = 7 by omega) with rfl | rfl | rfl | rfl | rfl | rfl | rfl <;> decide
  obtain ⟨p, hp2⟩ : ∃ p, 2 ^ N = p + 1 := ⟨2 ^ N - 1, by omega⟩
  have hn := pk_ushr s (nI N) N (set_u N (by omega))
  have hz : ((s.toUInt32 >>> ((nI N).toUInt32 &&& Int32.toUInt32 31)).toInt32 = 0) ↔ s.toBitVec.toNat / 2 ^ N = 0 := by
    rw [← hn]
    constructor
    · intro q
      rw [q]
      rfl
    · intro q
      apply Int32.toBitVec_inj.mp
      apply BitVec.eq_of_toNat_eq
      rw [q]
      rfl
  by_cases q : s < 0
  · rw [if_pos q, if_neg]
    rw [hz]
    have h3 : 2147483648 ≤ s.toBitVec.toNat := by
      rw [Int32.lt_iff_toInt_lt, i0] at q
      have : s.toInt = s.toBitVec.toInt := rfl
      rw [this, BitVec.toInt_eq_toNat_cond] at q
      split at q <;> omega
    intro q2
    rw [Nat.div_eq_zero_iff] at q2
    omega
  · rw [if_neg q]
    obtain ⟨k, hk, rfl⟩ := nI_of q
    rw [pk_tn (by omega)] at hz
    rw [hp2, nI_pred]
    rw [hp2] at hz
    by_cases q2 : p < k
    · rw [if_pos (show nI p < nI k by rw [nI_ltI (by omega) hk]; exact q2), if_neg]
      rw [hz, Nat.div_eq_zero_iff]
      omega
    · rw [if_neg (show ¬ (nI p < nI k) by rw [nI_ltI (by omega) hk]; exact q2), if_pos]
      rw [hz, Nat.div_eq_zero_iff]
      omega
end EQ1
