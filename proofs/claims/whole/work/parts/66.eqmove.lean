/-! axles that go, feelers, draws -/
def gF (f : Nat → Nat → Int32) (v n : Int32) : Nat → Nat → Int32 := if v = (-1) then f else up2 f 0 (ix (15 + v)) (f 0 (ix (15 + v)) - n)
def gT (f : Nat → Nat → Int32) (v n : Int32) : Nat → Nat → Int32 := if v = (-1) then f else up2 f 0 (ix (15 + v)) (f 0 (ix (15 + v)) + n)
def gC (f : Nat → Nat → Int32) (i m t : Int32) : Nat → Nat → Int32 := if t = 0 then f else up2 f 0 (ix (41 + i)) (f 0 (ix (41 + i)) + m)
def cF (c : Nat → Nat → Int32) (v n : Int32) : Nat → Nat → Int32 := if kX3_hasSection c v = 0 then c else up2 c 14 (ix v) (c 14 (ix v) - n)
def cT (c : Nat → Nat → Int32) (v n : Int32) : Nat → Nat → Int32 := if kX3_hasSection c v = 0 then c else up2 c 14 (ix v) (c 14 (ix v) + n)
def cC (c : Nat → Nat → Int32) (i m t : Int32) : Nat → Nat → Int32 := if t = 0 then c else up2 c 5 (ix i) (c 5 (ix i) + m)
theorem go_s0 (f : Nat → Nat → Int32) (i n t : Int32) : kX6_goOver f i 0 n t = (if kX6_rightOf f i = (-1) then 0 else gC (gT (gF f (kX6_leftOf f i) n) (kX6_rightOf f i) n) i n t 0 (ix (15 + kX6_rightOf f i)), gC (gT (gF f (kX6_leftOf f i) n) (kX6_rightOf f i) n) i n t) := by
  unfold kX6_goOver
  rw [if_pos rfl]
  by_cases h1 : kX6_leftOf f i = (-1) <;> by_cases h2 : kX6_rightOf f i = (-1) <;> by_cases h3 : t = 0 <;> simp [gC, gT, gF, h1, h2, h3]
theorem go_s1 (f : Nat → Nat → Int32) (i y n t : Int32) (hy : ¬ y = 0) : kX6_goOver f i y n t = (if kX6_leftOf f i = (-1) then 0 else gC (gT (gF f (kX6_rightOf f i) n) (kX6_leftOf f i) n) i (-n) t 0 (ix (15 + kX6_leftOf f i)), gC (gT (gF f (kX6_rightOf f i) n) (kX6_leftOf f i) n) i (-n) t) := by
  unfold kX6_goOver
  rw [if_neg hy]
  by_cases h1 : kX6_leftOf f i = (-1) <;> by_cases h2 : kX6_rightOf f i = (-1) <;> by_cases h3 : t = 0 <;> simp [gC, gT, gF, h1, h2, h3]
theorem hs_up {c : Nat → Nat → Int32} {K j : Nat} {v s : Int32} (hK : K ≠ 0) : kX3_hasSection (up2 c K j v) s = kX3_hasSection c s := by
  unfold kX3_hasSection
  rw [up2_o (K' := 0) (nbeq (fun q => hK q.symm))]
theorem ca_s0 (c : Nat → Nat → Int32) (i n t : Int32) : kX3_carry c i 0 n t = (if kX3_hasSection c (kX3_rightOf c i) = 0 then 0 else cT (cF (cC c i n t) (kX3_leftOf c i) n) (kX3_rightOf c i) n 14 (ix (kX3_rightOf c i)), cT (cF (cC c i n t) (kX3_leftOf c i) n) (kX3_rightOf c i) n) := by
  have hf : kX3_from c i 0 = kX3_leftOf c i := if_pos rfl
  unfold kX3_carry
  rw [if_pos rfl, hf]
  by_cases h3 : t = 0 <;> by_cases h1 : kX3_hasSection c (kX3_leftOf c i) = 0 <;> by_cases h2 : kX3_hasSection c (kX3_rightOf c i) = 0 <;> simp [cC, cT, cF, h1, h2, h3, hs_up]
  all_goals first | rfl | exact ⟨rfl, rfl⟩
theorem ca_s1 (c : Nat → Nat → Int32) (i y n t : Int32) (hy : ¬ y = 0) : kX3_carry c i y n t = (if kX3_hasSection c (kX3_leftOf c i) = 0 then 0 else cT (cF (cC c i (-n) t) (kX3_rightOf c i) n) (kX3_leftOf c i) n 14 (ix (kX3_leftOf c i)), cT (cF (cC c i (-n) t) (kX3_rightOf c i) n) (kX3_leftOf c i) n) := by
  have hf : kX3_from c i y = kX3_rightOf c i := if_neg hy
  unfold kX3_carry
  rw [if_neg hy, hf]
  by_cases h3 : t = 0 <;> by_cases h1 : kX3_hasSection c (kX3_leftOf c i) = 0 <;> by_cases h2 : kX3_hasSection c (kX3_rightOf c i) = 0 <;> simp [cC, cT, cF, h1, h2, h3, hs_up]
  all_goals first | rfl | exact ⟨rfl, rfl⟩
section MV
variable {f0 : Nat → Nat → Int32} {w : Nat → Int32} {c : Nat → Nat → Int32} {N : Nat}
theorem q_gF (h6 : N ≤ 6) {v n : Int32} (hs : sdC c N v) : gF (rM f0 w 0 (nE c)) v n = rM f0 w 0 (nE (cF c v n)) := by
  unfold gF cF
  rcases hs with ⟨h1, h2⟩ | ⟨j, hj, rfl, h2⟩
  · rw [if_pos h1, if_pos h2]
  · rw [if_neg (show ¬ (kX3_hasSection c (nI j) = 0) by rw [h2]; decide), if_neg (nI_nm1 (show j < 100 by omega)), r0_true (by omega), w0_true (by omega), nE_up (by decide) (by decide), ix_nI (by omega)]
    rfl
theorem q_gT (h6 : N ≤ 6) {v n : Int32} (hs : sdC c N v) : gT (rM f0 w 0 (nE c)) v n = rM f0 w 0 (nE (cT c v n)) := by
  unfold gT cT
  rcases hs with ⟨h1, h2⟩ | ⟨j, hj, rfl, h2⟩
  · rw [if_pos h1, if_pos h2]
  · rw [if_neg (show ¬ (kX3_hasSection c (nI j) = 0) by rw [h2]; decide), if_neg (nI_nm1 (show j < 100 by omega)), r0_true (by omega), w0_true (by omega), nE_up (by decide) (by decide), ix_nI (by omega)]
    rfl
theorem q_gC {i : Nat} (hi : i < 7) {m t : Int32} : gC (rM f0 w 0 (nE c)) (nI i) m t = rM f0 w 0 (nE (cC c (nI i) m t)) := by
  unfold gC cC
  by_cases ht : t = 0
  · rw [if_pos ht, if_pos ht]
  · rw [if_neg ht, if_neg ht, r0_count hi, w0_count hi, nE_up (by decide) (by decide), ix_nI (by omega)]
    rfl
theorem hs_F {v n s : Int32} : kX3_hasSection (cF c v n) s = kX3_hasSection c s := by
  unfold cF
  split
  · rfl
  · exact hs_up (by decide)
theorem hs_C {i m t s : Int32} : kX3_hasSection (cC c i m t) s = kX3_hasSection c s := by
  unfold cC
  split
  · rfl
  · exact hs_up (by decide)
theorem sd_F {v n s : Int32} (h : sdC c N s) : sdC (cF c v n) N s := by
  unfold sdC
  rw [hs_F]
  exact h
theorem cC_F {v n i m t : Int32} : cC (cF c v n) i m t = cF (cC c i m t) v n := by
  unfold cF
  rw [hs_C]
  by_cases h : kX3_hasSection c v = 0
  · rw [if_pos h, if_pos h]
  · rw [if_neg h, if_neg h]
    unfold cC
    by_cases ht : t = 0
    · rw [if_pos ht, if_pos ht]
    · rw [if_neg ht, if_neg ht]
      exact up2_comm (by decide)
theorem hs_T {v n s : Int32} : kX3_hasSection (cT c v n) s = kX3_hasSection c s := by
  unfold cT
  split
  · rfl
  · exact hs_up (by decide)
theorem cC_T {v n i m t : Int32} : cC (cT c v n) i m t = cT (cC c i m t) v n := by
  unfold cT
  rw [hs_C]
  by_cases h : kX3_hasSection c v = 0
  · rw [if_pos h, if_pos h]
  · rw [if_neg h, if_neg h]
    unfold cC
    by_cases ht : t = 0
    · rw [if_pos ht, if_pos ht]
    · rw [if_neg ht, if_neg ht]
      exact up2_comm (by decide)
theorem q_R (h6 : N ≤ 6) {F T n m t : Int32} {i : Nat} (hi : i < 7) (hF : sdC c N F) (hT : sdC c N T) : gC (gT (gF (rM f0 w 0 (nE c)) F n) T n) (nI i) m t = rM f0 w 0 (nE (cT (cF (cC c (nI i) m t) F n) T n)) := by
  rw [q_gF h6 hF, q_gT h6 (sd_F hT), q_gC hi, cC_T, cC_F]
theorem q_ret (h6 : N ≤ 6) {T : Int32} {d : Nat → Nat → Int32} (hT : sdC c N T) : (if T = (-1) then 0 else rM f0 w 0 (nE d) 0 (ix (15 + T))) = (if kX3_hasSection c T = 0 then 0 else d 14 (ix T)) := by
  rcases hT with ⟨h1, h2⟩ | ⟨j, hj, rfl, h2⟩
  · rw [if_pos h1, if_pos h2]
  · rw [if_neg (show ¬ (kX3_hasSection c (nI j) = 0) by rw [h2]; decide), if_neg (nI_nm1 (show j < 100 by omega)), r0_true (by omega), ix_nI (by omega)]
    rfl
theorem q_go (hr : c 1 0 = 0 ∨ c 1 0 = 1) (hN : c 0 0 = nI N) (h1 : 1 ≤ N) (h6 : N ≤ 6) {i : Nat} (hi : i ≤ N) (y n t : Int32) : kX6_goOver (rM f0 w 0 (nE c)) (nI i) y n t = ((kX3_carry c (nI i) y n t).1, rM f0 w 0 (nE (kX3_carry c (nI i) y n t).2)) := by
  have hl := sd_left hN h1 h6 hi
  have hrr := sd_right hN h6 (show i < 7 by omega)
  by_cases hy : y = 0
  · subst hy
    rw [go_s0, ca_s0, q_leftOf hdM_0 hr, q_rightOf hdM_0, q_R h6 (by omega) hl hrr, q_ret h6 hrr]
  · rw [go_s1 _ _ _ _ _ hy, ca_s1 _ _ _ _ _ hy, q_leftOf hdM_0 hr, q_rightOf hdM_0, q_R h6 (by omega) hrr hl, q_ret h6 hl]
theorem q_canGo (hr : c 1 0 = 0 ∨ c 1 0 = 1) (hN : c 0 0 = nI N) (h1 : 1 ≤ N) (h6 : N ≤ 6) {i : Nat} (hi : i ≤ N) (y n : Int32) : kX6_canGo (rM f0 w 0 (nE c)) (nI i) y n = kX3_canCarry c (nI i) y n := by
  have key : ∀ F : Int32, sdC c N F → (if F = (-1) then (1 : Int32) else (if rM f0 w 0 (nE c) 0 (ix (15 + F)) < n then 0 else 1)) = (if kX3_hasSection c F = 0 then 1 else (if c 14 (ix F) < n then 0 else 1)) := by
    intro F hF
    rcases hF with ⟨e1, e2⟩ | ⟨j, hj, rfl, e2⟩
    · rw [if_pos e1, if_pos e2]
    · rw [if_neg (show ¬ (kX3_hasSection c (nI j) = 0) by rw [e2]; decide), if_neg (nI_nm1 (show j < 100 by omega)), r0_true (by omega), ix_nI (by omega)]
      rfl
  unfold kX6_canGo kX3_canCarry kX3_from
  rw [q_leftOf hdM_0 hr, q_rightOf hdM_0]
  by_cases hy : y = 0
  · rw [if_pos hy, if_pos hy]
    exact key _ (sd_left hN h1 h6 hi)
  · rw [if_neg hy, if_neg hy]
    exact key _ (sd_right hN h6 (by omega))
theorem q_feels {i : Nat} (hi : i < 7) : kX6_feels (rM f0 w 0 (nE c)) (nI i) = kX3_feelsAll c (nI i) := by
  unfold kX6_feels kX3_feelsAll
  rw [r0_faulty hi, r0_state hi, ix_nI (by omega)]
  rfl
theorem step_eq : ∀ a, a < 4 → ∀ b, b < 4 → remI ((kX6_placeOf (fun _ _ => 0) (nI b) - kX6_placeOf (fun _ _ => 0) (nI a)) + 4) 4 = (plcI (ix (nI b &&& 3)) - plcI (ix (nI a &&& 3))) &&& 3 := by decide +kernel
theorem q_feelOne (hs : ∀ i, i < 7 → vp_in (c 3 i) 4) {i b : Nat} (hi : i < 7) (hb : b < 4) : kX6_feelOne (rM f0 w 0 (nE c)) (nI i) (nI b) = ((kX3_stepTo c (nI i) (nI b)).1, rM f0 w 0 (nE (kX3_stepTo c (nI i) (nI b)).2)) := by
  obtain ⟨a, ha, ea⟩ := vp_in_of (hs i hi) (by decide)
  have e : remI ((kX6_placeOf (rM f0 w 0 (nE c)) (nI b) - kX6_placeOf (rM f0 w 0 (nE c)) (rM f0 w 0 (nE c) 0 (ix (27 + nI i)))) + 4) 4 = (plcI (ix (nI b &&& 3)) - plcI (ix (c 3 (ix (nI i)) &&& 3))) &&& 3 := by
    rw [r0_state hi, show nE c 3 i = c 3 i from rfl, ix_nI (show i < 2 ^ 31 by omega), ea]
    exact step_eq a ha b hb
  unfold kX6_feelOne kX3_stepTo
  rw [e]
  generalize (plcI (ix (nI b &&& 3)) - plcI (ix (c 3 (ix (nI i)) &&& 3))) &&& 3 = z
  have tl : ∀ v : Int32, (if up2 (up2 (rM f0 w 0 (nE c)) 0 (ix (27 + nI i)) (nI b)) 0 (ix (34 + nI i)) (up2 (rM f0 w 0 (nE c)) 0 (ix (27 + nI i)) (nI b) 0 (ix (34 + nI i)) + v) 0 (ix (34 + nI i)) = 4 then ((1 : Int32), up2 (up2 (up2 (up2 (rM f0 w 0 (nE c)) 0 (ix (27 + nI i)) (nI b)) 0 (ix (34 + nI i)) (up2 (rM f0 w 0 (nE c)) 0 (ix (27 + nI i)) (nI b) 0 (ix (34 + nI i)) + v)) 0 (ix (34 + nI i)) 0) 0 (ix (41 + nI i)) (up2 (up2 (up2 (rM f0 w 0 (nE c)) 0 (ix (27 + nI i)) (nI b)) 0 (ix (34 + nI i)) (up2 (rM f0 w 0 (nE c)) 0 (ix (27 + nI i)) (nI b) 0 (ix (34 + nI i)) + v)) 0 (ix (34 + nI i)) 0 0 (ix (41 + nI i)) + 1)) else (if up2 (up2 (rM f0 w 0 (nE c)) 0 (ix (27 + nI i)) (nI b)) 0 (ix (34 + nI i)) (up2 (rM f0 w 0 (nE c)) 0 (ix (27 + nI i)) (nI b) 0 (ix (34 + nI i)) + v) 0 (ix (34 + nI i)) = (-4) then (2, up2 (up2 (up2 (up2 (rM f0 w 0 (nE c)) 0 (ix (27 + nI i)) (nI b)) 0 (ix (34 + nI i)) (up2 (rM f0 w 0 (nE c)) 0 (ix (27 + nI i)) (nI b) 0 (ix (34 + nI i)) + v)) 0 (ix (34 + nI i)) 0) 0 (ix (41 + nI i)) (up2 (up2 (up2 (rM f0 w 0 (nE c)) 0 (ix (27 + nI i)) (nI b)) 0 (ix (34 + nI i)) (up2 (rM f0 w 0 (nE c)) 0 (ix (27 + nI i)) (nI b) 0 (ix (34 + nI i)) + v)) 0 (ix (34 + nI i)) 0 0 (ix (41 + nI i)) + (-1))) else (0, up2 (up2 (rM f0 w 0 (nE c)) 0 (ix (27 + nI i)) (nI b)) 0 (ix (34 + nI i)) (up2 (rM f0 w 0 (nE c)) 0 (ix (27 + nI i)) (nI b) 0 (ix (34 + nI i)) + v))))
      = ((kX3_countWheel (up2 (up2 c 3 (ix (nI i)) (nI b)) 4 (ix (nI i)) (c 4 (ix (nI i)) + v)) (nI i)).1, rM f0 w 0 (nE (kX3_countWheel (up2 (up2 c 3 (ix (nI i)) (nI b)) 4 (ix (nI i)) (c 4 (ix (nI i)) + v)) (nI i)).2)) := by
    intro v
    unfold kX3_countWheel
    rw [w0_state hi, r0_wheel hi, w0_wheel hi, r0_wheel hi, w0_wheel hi, r0_count hi, w0_count hi, w0_count hi, ix_nI (show i < 2 ^ 31 by omega), up2_eq, up2_eq]
    rw [show up2 (nE c) 3 i (nI b) 4 i = c 4 i from rfl, show up2 (up2 (up2 (nE c) 3 i (nI b)) 4 i (c 4 i + v)) 4 i 0 5 i = c 5 i from rfl, show up2 (up2 c 3 i (nI b)) 4 i (c 4 i + v) 5 i = c 5 i from rfl]
    by_cases q1 : c 4 i + v = 4
    · rw [if_pos q1, if_pos q1]
      simp only [nE_up (show (5 : Nat) ≠ 12 by decide) (show (5 : Nat) ≠ 13 by decide), nE_up (show (4 : Nat) ≠ 12 by decide) (show (4 : Nat) ≠ 13 by decide), nE_up (show (3 : Nat) ≠ 12 by decide) (show (3 : Nat) ≠ 13 by decide)]
    · rw [if_neg q1, if_neg q1]
      by_cases q2 : c 4 i + v = (-4)
      · rw [if_pos q2, if_pos q2]
        simp only [nE_up (show (5 : Nat) ≠ 12 by decide) (show (5 : Nat) ≠ 13 by decide), nE_up (show (4 : Nat) ≠ 12 by decide) (show (4 : Nat) ≠ 13 by decide), nE_up (show (3 : Nat) ≠ 12 by decide) (show (3 : Nat) ≠ 13 by decide), Int32.sub_eq_add_neg]
      · rw [if_neg q2, if_neg q2]
        simp only [nE_up (show (4 : Nat) ≠ 12 by decide) (show (4 : Nat) ≠ 13 by decide), nE_up (show (3 : Nat) ≠ 12 by decide) (show (3 : Nat) ≠ 13 by decide)]
  by_cases h2 : z = 2
  · rw [if_pos h2, if_pos h2, w0_faulty hi, ix_nI (show i < 2 ^ 31 by omega)]
    simp only [nE_up (show (6 : Nat) ≠ 12 by decide) (show (6 : Nat) ≠ 13 by decide)]
  · rw [if_neg h2, if_neg h2]
    by_cases h1 : z = 1
    · rw [if_pos h1, if_pos h1]
      exact tl 1
    · rw [if_neg h1, if_neg h1]
      exact tl (-1)
end MV
theorem seed_eq {s : Int32} (h : 0 ≤ s) : seedN s = seedK s := by
  have h1 : ¬ s < 0 := by
    rw [Int32.le_iff_toInt_le] at h
    rw [Int32.lt_iff_toInt_lt]
    omega
  obtain ⟨k, hk, rfl⟩ := nI_of h1
  rw [seedN_nI hk]
  unfold seedK
  rw [show (1103515245 : Int32) = nI 1103515245 from rfl, show (12345 : Int32) = nI 12345 from rfl, pk_mul, nI_add, pk_and _ 31 (by decide)]
  have e : (nI (k * 1103515245 + 12345)).toBitVec.toNat = (k * 1103515245 + 12345) % 2 ^ 32 := by
    show (BitVec.ofNat 32 _).toNat = _
    rw [BitVec.toNat_ofNat]
  rw [e]
  refine congrArg nI ?_
  generalize k * 1103515245 + 12345 = z
  show z % 2147483648 = z % 4294967296 % 2147483648
  omega
