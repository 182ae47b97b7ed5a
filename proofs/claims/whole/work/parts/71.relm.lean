/-! call by call: the same answer, and both still belong together -/
def RQ (ρ : Int32 × (Nat → Nat → Int32) × (Nat → Nat → Int32)) (σ : Int32 × (Nat → Nat → Int32)) (B : Nat) : Prop := ρ.1 = σ.1 ∧ ∃ p k, Rel ρ.2.1 ρ.2.2 σ.2 B p k
section ZR
variable {c c' g g' M M' : Nat → Nat → Int32} {B B' p k : Nat}
theorem rq_same (h : Rel c g M B p k) (v : Int32) : RQ (v, c, g) (v, M) (B + 48) := ⟨rfl, p, k, rel_mono h (by omega)⟩
theorem rq_row (h : Rel c g M B p k) {v : Int32} (hc : invB c' (B + 48)) : RQ (v, c', g) (v, rM M (M 0) 0 (nE c')) (B + 48) := ⟨rfl, p, k, rel_row h (by omega) hc⟩
theorem rel_gen (h : Rel c g M B p k) (hB : B ≤ B') (hc : invB c' B') (hrow : rowR M' 0 c') (hhi : ∀ j, 84 ≤ j → j < 1596 → M' 0 j = M 0 j) (h1 : M' 1 0 = M 1 0) (h2 : M' 2 0 = M 2 0) (hs : M' 0 83 = g' 7 0 ∧ 0 ≤ g' 7 0) (hg : ∀ K, K = 2 ∨ K = 3 ∨ 10 ≤ K → g' K = g K) (hb : bkR M' g') : Rel c' g' M' B' p k := by
  obtain ⟨-, -, -, ⟨⟨p1, p2⟩, ⟨k1, k2, k3⟩, p5⟩, ⟨i1, i2, i3⟩, -⟩ := h
  refine ⟨hc, hrow, hs, ⟨⟨p1, by rw [hg 2 (by omega)]; exact p2⟩, ⟨k1, by rw [hg 3 (by omega)]; exact k2, h1.trans k3⟩, fun t ht => ?_⟩, ⟨?_, ?_, ?_⟩, hb⟩
  · rw [hg (pix p k t) (by unfold pix; omega)]
    exact ⟨ib_mono hB (p5 t ht).1, rowR_mv (p5 t ht).2 (fun j hj => hhi _ (by omega) (by omega))⟩
  · rw [hg 11 (by omega)]
    exact i1
  · rw [h2, hg 11 (by omega)]
    exact i2
  · rw [hg 11 (by omega), hg 10 (by omega)]
    intro i hi e
    obtain ⟨a1, a2, a3, a4⟩ := i3 i hi e
    rw [hg (12 + i) (by omega)]
    exact ⟨ib_mono hB a1, rowR_mv a2 (fun j hj => hhi _ (by omega) (by omega)), (hhi _ (by omega) (by omega)).trans a3, a4⟩
theorem M_eqx {x : Nat} (h : rowR M x c) : M = rM M (M 0) x (nE c) := by
  have e : emb (M 0) x (nE c) = M 0 := by
    rw [← emb_congr (r := fun K i => M 0 (x + offM K + i)) h]
    exact emb_self
  unfold rM
  rw [e]
  funext k
  cases k with
  | zero => rfl
  | succ k => rfl
theorem e_head (h : Rel c g M B p k) (x : Int32) : kX6_isHead M x = kX3_hasHead c x := by
  rw [M_eq h.2.1]
  exact q_isHead hdM_0 h.1.1.1 h.1.1.2.1 x
theorem e_sec (h : Rel c g M B p k) (x : Int32) : kX6_isSection M x = kX3_hasSection c x := by
  rw [M_eq h.2.1]
  exact q_isSection hdM_0 h.1.1.1 x
theorem e_set (h : Rel c g M B p k) (x : Int32) : kX6_isSet M x = kX3_hasHeads c x := by
  rw [M_eq h.2.1]
  exact q_isSet hdM_0 h.1.1.1 h.1.1.2.1 x
theorem e_faulty (h : Rel c g M B p k) {i : Nat} (hi : i < 7) : M 0 (ix (62 + nI i)) = c 6 i := by
  rw [M_eq h.2.1]
  exact r0_faulty hi
theorem e_state (h : Rel c g M B p k) {i : Nat} (hi : i < 7) : M 0 (ix (27 + nI i)) = c 3 i := by
  rw [M_eq h.2.1]
  exact r0_state hi
theorem e_call (h : Rel c g M B p k) {i : Nat} (hi : i < 6) : M 0 (ix (3 + nI i)) = c 12 i := by
  rw [M_eq h.2.1]
  exact r0_call hi
theorem e_sum (h : Rel c g M B p k) {i : Nat} (hi : i < 6) : M 0 (ix (9 + nI i)) = c 11 i := by
  rw [M_eq h.2.1]
  exact r0_sum hi
theorem in_f1 {x lo hi : Int32} (a : x < lo) : kX6_in M x lo hi = 0 := if_pos a
theorem in_f2 {x lo hi : Int32} (a : ¬ x < lo) (b : hi < x) : kX6_in M x lo hi = 0 := (if_neg a).trans (if_pos b)
theorem in_t {x lo hi : Int32} (a : ¬ x < lo) (b : ¬ hi < x) : ¬ (kX6_in M x lo hi = 0) := by
  have e : kX6_in M x lo hi = 1 := (if_neg a).trans (if_neg b)
  rw [e]
  decide
theorem nlt_le {x y : Int32} : (¬ x ≤ y) ↔ y < x := by
  rw [Int32.lt_iff_toInt_lt, Int32.le_iff_toInt_le]
  omega
theorem nle_lt {x y : Int32} : (¬ y < x) ↔ x ≤ y := by
  rw [Int32.lt_iff_toInt_lt, Int32.le_iff_toInt_le]
  omega
theorem le_nat {y : Int32} {n : Nat} (a : ¬ y < 0) (hn : n < 2 ^ 31) (b : y ≤ nI n) : ∃ j, j ≤ n ∧ y = nI j := by
  obtain ⟨j, hj, rfl⟩ := nI_of a
  rw [nI_leI hj hn] at b
  exact ⟨j, b, rfl⟩
theorem ge_nat {y : Int32} {m n : Nat} (hm : m < 2 ^ 31) (hn : n < 2 ^ 31) (a : ¬ y < nI m) (b : y ≤ nI n) : ∃ j, m ≤ j ∧ j ≤ n ∧ y = nI j := by
  have h0 : ¬ y < 0 := by
    rw [Int32.lt_iff_toInt_lt, nI_toInt hm] at a
    rw [Int32.lt_iff_toInt_lt, i0]
    omega
  obtain ⟨j, hj, rfl⟩ := nI_of h0
  rw [nI_leI hj hn] at b
  rw [nI_ltI hj hm] at a
  exact ⟨j, by omega, b, rfl⟩
theorem z_told (h : Rel c g M B p k) (x : Int32) : kX5_told c g x = kX6_told M x := by
  obtain ⟨hc, hr, -, ⟨-, ⟨-, k1, k2⟩, -⟩, -, hb⟩ := id h
  rw [M_eq hr]
  exact (q_told hc.1 (fun i hi q => hc.2 i hi (Or.inl q)) hb (k2.trans k1.symm) x).symm
theorem z_section (h : Rel c g M B p k) (s x : Int32) : kX5_section c g s x = kX6_section M s x := by
  rw [M_eq h.2.1]
  exact (q_section h.1.1 s x).symm
theorem z_head (h : Rel c g M B p k) (s x : Int32) : kX5_head c g s x = kX6_head M s x := by
  rw [M_eq h.2.1]
  exact (q_head h.1.1 s x).symm
theorem z_feel (h : Rel c g M B p k) (x y : Int32) : RQ (kX5_feel c g x y) (kX6_feel M x y) (B + 48) := by
  have h1 := rel_rem h
  unfold kX5_feel kX6_feel
  rw [e_head h]
  by_cases a : kX3_hasHead c x = 0
  · rw [if_pos a, if_pos a]
    exact rq_same h _
  rw [if_neg a, if_neg a]
  by_cases b : y < 0
  · rw [if_pos b, if_pos (in_f1 b)]
    exact rq_same h _
  rw [if_neg b]
  by_cases d : y ≤ 3
  · rw [if_pos d, if_neg (in_t b (nle_lt.mpr d))]
    obtain ⟨i, hi, rfl⟩ := vp_in_of (hh_in h.1.1.1 a) (by decide)
    obtain ⟨j, hj, rfl⟩ := le_nat (n := 3) b (by decide) d
    rw [e_faulty h hi, e_state h hi, ix_nI (show i < 2 ^ 31 by omega)]
    by_cases e : c 6 i = 1
    · rw [if_pos e, if_pos e]
      exact rq_same h _
    rw [if_neg e, if_neg e]
    by_cases e2 : c 3 i = nI j
    · rw [if_pos e2, if_pos e2]
      exact rq_same h _
    rw [if_neg e2, if_neg e2]
    generalize kX6_remember M = M1 at h1 ⊢
    rw [M_eq h1.2.1, q_feelOne h.1.1.2.2.2.2.2.2.2 hi (show j < 4 by omega)]
    exact rq_row h1 (ib_mono (by omega) (ib_step h.1 (vp_in_nI (by omega) (by decide))))
  · rw [if_neg d, if_pos (in_f2 b (nlt_le.mp d))]
    exact rq_same h _
theorem hh_N (hok : okL c) {x : Int32} (a : ¬ (kX3_hasHead c x = 0)) : ∃ N i, c 0 0 = nI N ∧ 1 ≤ N ∧ N ≤ 6 ∧ i ≤ N ∧ x = nI i := by
  obtain ⟨N, h1, h6, hN⟩ := okL_j hok
  obtain ⟨H, g1, g7, hH⟩ := heads_j hok
  have hHN := heads_N hN h6 hH g7
  unfold kX3_hasHead at a
  by_cases q : x < 0
  · rw [if_pos q] at a
    exact absurd rfl a
  rw [if_neg q] at a
  obtain ⟨j, hj, rfl⟩ := nI_of q
  by_cases q2 : kX3_heads c ≤ nI j
  · rw [if_pos q2] at a
    exact absurd rfl a
  rw [hH, nI_leI (by omega) hj] at q2
  exact ⟨N, j, hN, h1, h6, by omega, rfl⟩
theorem z_mv (h : Rel c g M B p k) (hB : B < 1000000) (x y n t : Int32) : RQ (if kX5_refusalToMove c g x y n = 0 then (if t = 0 then ((kX3_carry c x y n t).1, (kX3_carry c x y n t).2, kX4_add c g) else (if kX3_feelsAll c x = 0 then ((-1000000003), c, g) else ((kX3_carry c x y n t).1, (kX3_carry c x y n t).2, kX4_add c g))) else (kX5_refusalToMove c g x y n, c, g)) (kX6_goes M x y n t) (B + 48) := by
  have h1 := rel_rem h
  unfold kX6_goes
  rw [e_head h]
  by_cases a : kX3_hasHead c x = 0
  · have e : kX5_refusalToMove c g x y n = (-1000000001) := if_pos a
    rw [e, if_neg (by decide), if_pos a]
    exact rq_same h _
  rw [if_neg a]
  by_cases b : y < 0
  · have e : kX5_refusalToMove c g x y n = (-1000000002) := (if_neg a).trans (if_pos b)
    rw [e, if_neg (by decide), if_pos (in_f1 b)]
    exact rq_same h _
  by_cases b2 : 1 < y
  · have e : kX5_refusalToMove c g x y n = (-1000000002) := (if_neg a).trans ((if_neg b).trans (if_pos b2))
    rw [e, if_neg (by decide), if_pos (in_f2 b b2)]
    exact rq_same h _
  rw [if_neg (in_t b b2)]
  by_cases d : n < 1
  · have e : kX5_refusalToMove c g x y n = (-1000000002) := (if_neg a).trans ((if_neg b).trans ((if_neg b2).trans (if_pos d)))
    rw [e, if_neg (by decide), if_pos (in_f1 d)]
    exact rq_same h _
  by_cases d2 : n ≤ 9
  · rw [if_neg (in_t d (nle_lt.mpr d2))]
    have e : kX5_refusalToMove c g x y n = (if kX3_canCarry c x y n = 0 then (-1000000003) else 0) := (if_neg a).trans ((if_neg b).trans ((if_neg b2).trans ((if_neg d).trans (if_pos d2))))
    obtain ⟨N, i, hN, n1, n6, hi, rfl⟩ := hh_N h.1.1.1 a
    obtain ⟨m, m1, m9, rfl⟩ := ge_nat (m := 1) (n := 9) (by decide) (by decide) d d2
    have eg : kX6_canGo M (nI i) y (nI m) = kX3_canCarry c (nI i) y (nI m) := by
      rw [M_eq h.2.1]
      exact q_canGo h.1.1.2.1 hN n1 n6 hi _ _
    have ef : kX6_feels M (nI i) = kX3_feelsAll c (nI i) := by
      rw [M_eq h.2.1]
      exact q_feels (by omega)
    rw [eg, ef, e]
    by_cases q : kX3_canCarry c (nI i) y (nI m) = 0
    · rw [if_pos q, if_pos q, if_neg (by decide)]
      exact rq_same h _
    rw [if_neg q, if_neg q, if_pos rfl]
    have hib : ∀ t : Int32, invB (kX3_carry c (nI i) y (nI m) t).2 (B + 48) := fun t => ib_mono (by omega) (ib_carry h.1 hB hN n1 n6 hi (by omega) q)
    generalize kX6_remember M = M1 at h1 ⊢
    rw [M_eq h1.2.1, q_go h.1.1.2.1 hN n1 n6 hi]
    by_cases ht : t = 0
    · rw [if_pos ht, if_pos ht]
      exact rq_row h1 (hib _)
    rw [if_neg ht, if_neg ht]
    by_cases hf : kX3_feelsAll c (nI i) = 0
    · rw [if_pos hf, if_pos hf]
      exact rq_same h _
    · rw [if_neg hf, if_neg hf]
      exact rq_row h1 (hib _)
  · have e : kX5_refusalToMove c g x y n = (-1000000002) := (if_neg a).trans ((if_neg b).trans ((if_neg b2).trans ((if_neg d).trans (if_neg d2))))
    rw [e, if_neg (by decide), if_pos (in_f2 d (nlt_le.mp d2))]
    exact rq_same h _
theorem z_go (h : Rel c g M B p k) (hB : B < 1000000) (x y n : Int32) : RQ (kX5_go c g x y n) (kX6_go M x y n) (B + 48) := by
  have e := z_mv h hB x y n 1
  rw [if_neg (show ¬ ((1 : Int32) = 0) by decide)] at e
  exact e
theorem z_miss (h : Rel c g M B p k) (hB : B < 1000000) (x y n : Int32) : RQ (kX5_miss c g x y n) (kX6_miss M x y n) (B + 48) := by
  have e := z_mv h hB x y n 0
  rw [if_pos (show ((0 : Int32) = 0) by decide)] at e
  exact e
theorem z_tick (h : Rel c g M B p k) (x : Int32) : RQ (kX5_tick c g x) (kX6_tick M x) (B + 48) := by
  have h1 := rel_rem h
  unfold kX5_tick kX6_tick
  rw [e_set h]
  by_cases a : kX3_hasHeads c x = 0
  · rw [if_pos a, if_pos a]
    exact rq_same h _
  rw [if_neg a, if_neg a]
  generalize kX6_remember M = M1 at h1 ⊢
  have hp := ib_pass h.1 x
  have T : kX6_tickIn (rM M1 (M1 0) 0 (nE c)) 0 x = rM M1 (M1 0) 0 (nE (kX3_pass c x)) := (q_tick (x := 0) (by omega) x h.1.1 (Or.inl rfl)).1
  have C : kX6_called (rM M1 (M1 0) 0 (nE (kX3_pass c x))) 0 0 = kX3_called (kX3_pass c x) 0 := q_called (x := 0) (by omega) (Or.inl rfl) hp.1.1 0
  rw [M_eq h1.2.1, T, C]
  exact rq_row h1 (ib_mono (by omega) hp)
theorem nE_sw {i : Nat} : nE (up2 (up2 (up2 c 11 i 0) 12 i 3) 13 i 0) = up2 (up2 (up2 (nE c) 11 i 0) 12 i 3) 13 i 0 := by
  rw [nE_ent (c := up2 (up2 c 11 i 0) 12 i 3) up2_eq]
  funext K j
  by_cases h13 : K = 13
  · subst h13
    by_cases hj : j = i
    · rw [hj, up2_eq, up2_eq]
    · rw [up2_ne hj, up2_ne hj, nE_e, up2_ne hj]
      rfl
  · rw [up2_o (nbeq h13), up2_o (nbeq h13), nE_o h13]
    by_cases h12 : K = 12
    · subst h12
      by_cases hj : j = i
      · rw [hj, up2_eq, up2_eq]
      · rw [up2_ne hj, up2_ne hj]
        rfl
    · rw [up2_o (nbeq h12), up2_o (nbeq h12), ← nE_up (by decide) (by decide), nE_o h13]
theorem z_reset (h : Rel c g M B p k) (x : Int32) : RQ (kX5_reset c g x) (kX6_reset M x) (B + 48) := by
  have h1 := rel_rem h
  unfold kX5_reset kX6_reset
  rw [e_sec h]
  by_cases a : kX3_hasSection c x = 0
  · rw [if_pos a, if_pos a]
    exact rq_same h _
  rw [if_neg a, if_neg a]
  obtain ⟨i, hi, rfl⟩ := vp_in_of (hs_in h.1.1.1 a) (by decide)
  rw [e_call h hi, ix_nI (show i < 2 ^ 31 by omega)]
  by_cases b : c 12 i = 2
  · rw [if_pos b, if_pos b]
    generalize kX6_remember M = M1 at h1 ⊢
    rw [M_eq h1.2.1, r0_sum hi, w0_sum hi, w0_call hi, w0_ent hi, ← nE_sw]
    have e : kX3_awaitSweep c (nI i) = up2 (up2 (up2 c 11 i 0) 12 i 3) 13 i 0 := by
      unfold kX3_awaitSweep
      rw [ix_nI (show i < 2 ^ 31 by omega)]
    rw [e]
    exact rq_row h1 (ib_mono (by omega) (ib_free (ib_12 (ib_free h.1 (by decide)) (vin_c (by decide))) (by decide)))
  · rw [if_neg b, if_neg b]
    exact rq_same h _
theorem z_repair (h : Rel c g M B p k) (x : Int32) : RQ (kX5_repair c g x) (kX6_repair M x) (B + 48) := by
  have h1 := rel_rem h
  unfold kX5_repair kX6_repair
  rw [e_head h]
  by_cases a : kX3_hasHead c x = 0
  · rw [if_pos a, if_pos a]
    exact rq_same h _
  rw [if_neg a, if_neg a]
  obtain ⟨i, hi, rfl⟩ := vp_in_of (hh_in h.1.1.1 a) (by decide)
  rw [e_faulty h hi, ix_nI (show i < 2 ^ 31 by omega)]
  by_cases b : c 6 i = 0
  · rw [if_pos b, if_pos b]
    exact rq_same h _
  rw [if_neg b, if_neg b]
  generalize kX6_remember M = M1 at h1 ⊢
  have e : kX3_mend c (nI i) = up2 (up2 (up2 c 6 i 0) 3 i 0) 4 i 0 := by
    unfold kX3_mend
    rw [ix_nI (show i < 2 ^ 31 by omega)]
  have hib : invB (kX3_mend c (nI i)) (B + 48) := by
    rw [e]
    exact ib_mono (by omega) (ib_free (ib_3 (ib_6 h.1 (Or.inl rfl)) (vin_c (by decide))) (by decide))
  have eM : up2 (up2 (up2 M1 0 (ix (62 + nI i)) 0) 0 (ix (27 + nI i)) 0) 0 (ix (34 + nI i)) 0 = rM M1 (M1 0) 0 (nE (kX3_mend c (nI i))) := by
    rw [e, nE_up (by decide) (by decide), nE_up (by decide) (by decide), nE_up (by decide) (by decide), ← w0_wheel hi, ← w0_state hi, ← w0_faulty hi, ← M_eq h1.2.1]
  rw [e_state h1 hi, eM]
  by_cases d : c 3 i = 0
  · rw [if_pos d, if_pos d]
    exact rq_row h1 hib
  · rw [if_neg d, if_neg d]
    exact rq_row h1 hib
end ZR
