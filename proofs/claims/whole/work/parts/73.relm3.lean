section ZR3
variable {c c' g g' M M' : Nat → Nat → Int32} {B B' p k : Nat}
/-! the book, the seed -/
theorem z_write (h : Rel c g M B p k) (x y : Int32) : RQ ((kX5_write c g x y).1, c, (kX5_write c g x y).2) (kX6_write M x y) (B + 48) := by
  obtain ⟨b1, b2, b3⟩ := h.2.2.2.2.2
  unfold kX5_write kX6_write
  rw [e_sec h]
  by_cases a : kX3_hasSection c x = 0
  · rw [if_pos a, if_pos a]
    exact rq_same h _
  rw [if_neg a, if_neg a]
  by_cases b : y < 0
  · rw [if_pos b, if_pos (in_f1 b)]
    exact rq_same h _
  rw [if_neg b]
  by_cases d : y ≤ 3
  · rw [if_pos d, if_neg (in_t b (nle_lt.mpr d)), b1]
    obtain ⟨z, hz, ez⟩ := vp_in_of b2 (by decide)
    by_cases q : g 4 0 < 20
    · have q' : nI z < nI 20 := by rw [← ez]; exact q
      rw [nI_ltI (by omega) (by decide)] at q'
      have e20 : ¬ (g 4 0 = 20) := fun e => by
        have e' : nI z = nI 20 := ez.symm.trans e
        rw [nI_eq (by omega) (by decide)] at e'
        omega
      have ea : kX0_add c g x y = up2 (up2 (up2 g 5 z x) 6 z y) 4 0 (nI (z + 1)) := by
        unfold kX0_add
        rw [if_neg (show ¬ (g 4 0 < 0) by rw [ez]; exact nle_lt.mpr (nI_0le (by omega))), if_pos q, ez, nI_1, ix_nI (by omega)]
      rw [if_pos q, if_neg e20, ea, ez, nI_1, ix_nI (by omega)]
      refine ⟨(up2_eq : up2 (up2 (up2 g 5 z x) 6 z y) 4 0 (nI (z + 1)) 4 0 = nI (z + 1)), p, k, ?_⟩
      refine rel_gen h (by omega) (ib_mono (by omega) h.1) (rowR_mv h.2.1 (fun j _ => rfl)) (fun j _ _ => rfl) rfl rfl ⟨?_, ?_⟩ (fun K hK => ?_) ⟨?_, ?_, fun j hj => ?_⟩
      · exact h.2.2.1.1
      · exact h.2.2.1.2
      · show up2 (up2 (up2 g 5 z x) 6 z y) 4 0 (nI (z + 1)) K = g K
        rw [up2_o (nbeq (by omega)), up2_o (nbeq (by omega)), up2_o (nbeq (by omega))]
      · show up2 (up2 (up2 M 3 z x) 4 z y) 5 0 (nI (z + 1)) 5 0 = up2 (up2 (up2 g 5 z x) 6 z y) 4 0 (nI (z + 1)) 4 0
        rw [up2_eq, up2_eq]
      · show vp_in (up2 (up2 (up2 g 5 z x) 6 z y) 4 0 (nI (z + 1)) 4 0) 21
        rw [up2_eq]
        exact vp_in_nI (by omega) (by decide)
      · show up2 (up2 (up2 M 3 z x) 4 z y) 5 0 (nI (z + 1)) 3 j = up2 (up2 (up2 g 5 z x) 6 z y) 4 0 (nI (z + 1)) 5 j ∧ up2 (up2 (up2 M 3 z x) 4 z y) 5 0 (nI (z + 1)) 4 j = up2 (up2 (up2 g 5 z x) 6 z y) 4 0 (nI (z + 1)) 6 j
        rw [up2_o (K := 5) (K' := 3) rfl, up2_o (K := 4) (K' := 3) rfl, up2_o (K := 5) (K' := 4) rfl, up2_o (K := 4) (K' := 5) rfl, up2_o (K := 6) (K' := 5) rfl, up2_o (K := 4) (K' := 6) rfl]
        by_cases hjz : j = z
        · rw [hjz, up2_eq, up2_eq, up2_eq, up2_eq]
          exact ⟨rfl, rfl⟩
        · rw [up2_ne hjz, up2_ne hjz, up2_ne hjz, up2_ne hjz]
          exact b3 j hj
    · have q' : ¬ (nI z < nI 20) := by rw [← ez]; exact q
      rw [nI_ltI (by omega) (by decide)] at q'
      have e20 : g 4 0 = 20 := by
        rw [ez, show z = 20 by omega]
        rfl
      rw [if_neg q, if_pos e20]
      exact rq_same h _
  · rw [if_neg d, if_pos (in_f2 b (nlt_le.mp d))]
    exact rq_same h _
theorem z_tear (h : Rel c g M B p k) : RQ ((kX5_tear c g).1, c, (kX5_tear c g).2) (kX6_tear M) (B + 48) := by
  obtain ⟨b1, b2, b3⟩ := h.2.2.2.2.2
  refine rq_mk (p := p) (k := k) (show g 4 0 = M 5 0 from b1.symm) (M' := up2 M 5 0 0) (g' := up2 g 4 0 0) ?_
  refine rel_gen h (by omega) (ib_mono (by omega) h.1) (rowR_mv h.2.1 (fun j _ => rfl)) (fun j _ _ => rfl) rfl rfl ⟨h.2.2.1.1, h.2.2.1.2⟩ (fun K hK => up2_o (nbeq (by omega))) ⟨rfl, (show vp_in (0 : Int32) 21 from vin_c (by decide)), b3⟩
theorem up83 {v : Int32} {j : Nat} (h : j ≠ 83) : up2 M 0 (ix 83) v 0 j = M 0 j := up2_ne h
theorem z_seed (h : Rel c g M B p k) (x : Int32) : RQ ((kX5_seed c g x).1, c, (kX5_seed c g x).2) (kX6_seed M x) (B + 48) := by
  obtain ⟨b1, b2, b3⟩ := h.2.2.2.2.2
  unfold kX5_seed kX6_seed
  by_cases a : 0 ≤ x
  · rw [if_pos a, if_pos a]
    refine rq_mk (p := p) (k := k) (show g 7 0 = M 0 83 from h.2.2.1.1.symm) (M' := up2 M 0 (ix 83) x) (g' := up2 g 7 0 x) ?_
    refine rel_gen h (by omega) (ib_mono (by omega) h.1) (rowR_mv h.2.1 (fun j hj => up83 (by omega))) (fun j hj _ => up83 (by omega)) rfl rfl ⟨?_, a⟩ (fun K hK => up2_o (nbeq (by omega))) ⟨b1, b2, b3⟩
    show up2 M 0 83 x 0 83 = up2 g 7 0 x 7 0
    rw [up2_eq, up2_eq]
  · rw [if_neg a, if_neg a]
    exact rq_same h _
/-! undone -/
theorem tb_eq {n : Nat} (hp : p < 16) (ep : g 2 0 = nI p) (ek : g 3 0 = nI k) (hk : k ≤ 16) (n1 : 1 ≤ n) (nk : n ≤ k) : kX4_takeBack c g (nI n) = (unL c (g (14 + (p + 16 - n) % 16)), up2 (up2 g 2 0 (nI ((p + 16 - n) % 16))) 3 0 (nI (k - n))) := by
  have e : remI ((g 2 0 + 16) - nI n) 16 = nI ((p + 16 - n) % 16) := by
    rw [ep, show nI p + 16 = nI (p + 16) from nI_add p 16, pk_sub (by omega), rm16 (by omega)]
  unfold kX4_takeBack
  rw [e, ek, pk_sub nk, ix_nI (show (p + 16 - n) % 16 < 2 ^ 31 by omega)]
  have a : ¬ (nI n < 1) := by
    have : ¬ (nI n < nI 1) := by
      rw [nI_ltI (by omega) (by decide)]
      omega
    exact this
  rw [if_neg a, if_pos (show nI n ≤ nI k by rw [nI_leI (by omega) (by omega)]; exact nk), up2_o (nbeq (by omega)), up2_o (nbeq (by omega))]
theorem un_eq (x : Int32) : kX6_undo M x = (if kX6_in M x 1 16 = 0 then ((-1000000002), M) else (if x ≤ M 1 0 then ((up2 (kX6_copyRow (up2 M 1 0 (M 1 0 - x)) (84 * ((M 1 0 - x) + 1)) (nI 0)) 0 83 (M 0 83)) 1 0, up2 (kX6_copyRow (up2 M 1 0 (M 1 0 - x)) (84 * ((M 1 0 - x) + 1)) (nI 0)) 0 83 (M 0 83)) else ((-1000000003), M))) := by
  unfold kX6_undo
  rw [← show (0 : Int32) = nI 0 from rfl, show ix 83 = 83 from rfl]
theorem z_back {M1 : Nat → Nat → Int32} {n : Nat} (h : Rel c g M B p k) (n1 : 1 ≤ n) (nk : n ≤ k) (s : ∀ j, M1 0 j = if j = 83 then M 0 83 else if j < 84 then M 0 (84 * (k - n + 1) + j) else M 0 j) (s1 : M1 1 0 = nI (k - n)) (sK : ∀ K, M1 (K + 2) = M (K + 2)) : Rel (unL c (g (14 + (p + 16 - n) % 16))) (up2 (up2 g 2 0 (nI ((p + 16 - n) % 16))) 3 0 (nI (k - n))) M1 (B + 48) ((p + 16 - n) % 16) (k - n) := by
  obtain ⟨hc, hr, ⟨q1, q2⟩, ⟨⟨p1, p2⟩, ⟨k1, k2, k3⟩, p5⟩, ⟨i1, i2, i3⟩, b1, b2, b3⟩ := id h
  have epx : pix p k (k - n) = 14 + (p + 16 - n) % 16 := by unfold pix; omega
  obtain ⟨a1, a2⟩ := p5 (k - n) (by omega)
  rw [epx] at a1 a2
  have go : ∀ K, K ≠ 2 → K ≠ 3 → up2 (up2 g 2 0 (nI ((p + 16 - n) % 16))) 3 0 (nI (k - n)) K = g K := fun K h2 h3 => by rw [up2_o (nbeq h3), up2_o (nbeq h2)]
  have hi : ∀ j, 84 ≤ j → M1 0 j = M 0 j := fun j hj => by rw [s, if_neg (by omega), if_neg (by omega)]
  refine ⟨ib_mono (by omega) (ib_ag ag_un a1), rowR_ag (rowR_mv a2 (fun j hj => ?_)) ag_un, ⟨?_, ?_⟩, ⟨⟨Nat.mod_lt _ (by decide), ?_⟩, ⟨by omega, up2_eq, s1⟩, fun t ht => ?_⟩, ⟨?_, ?_, ?_⟩, ?_, ?_, ?_⟩
  · rw [s, if_neg (by omega), if_pos (by omega), Nat.zero_add]
  · rw [s, if_pos rfl, go 7 (by decide) (by decide)]
    exact q1
  · rw [go 7 (by decide) (by decide)]
    exact q2
  · rw [up2_o (K := 3) (K' := 2) rfl, up2_eq]
  · have e : pix ((p + 16 - n) % 16) (k - n) t = pix p k t := by unfold pix; omega
    rw [e, go (pix p k t) (by unfold pix; omega) (by unfold pix; omega)]
    exact ⟨ib_mono (by omega) (p5 t (by omega)).1, rowR_mv (p5 t (by omega)).2 (fun j _ => hi _ (by omega))⟩
  · rw [go 11 (by decide) (by decide)]
    exact i1
  · rw [sK 0, go 11 (by decide) (by decide)]
    exact i2
  · rw [go 11 (by decide) (by decide), go 10 (by decide) (by decide)]
    intro i hi2 e
    obtain ⟨a1, a2, a3, a4⟩ := i3 i hi2 e
    rw [go (12 + i) (by omega) (by omega)]
    exact ⟨ib_mono (by omega) a1, rowR_mv a2 (fun j _ => hi _ (by omega)), (hi _ (by omega)).trans a3, a4⟩
  · rw [sK 3, go 4 (by decide) (by decide)]
    exact b1
  · rw [go 4 (by decide) (by decide)]
    exact b2
  · rw [sK 1, sK 2, go 5 (by decide) (by decide), go 6 (by decide) (by decide)]
    exact b3
theorem z_undo (h : Rel c g M B p k) (x : Int32) : RQ (kX5_undo c g x) (kX6_undo M x) (B + 48) := by
  obtain ⟨⟨p1, p2⟩, ⟨k1, k2, k3⟩, -⟩ := h.2.2.2.1
  rw [un_eq]
  unfold kX5_undo
  by_cases a : x < 1
  · rw [if_pos a, if_pos (in_f1 a)]
    exact rq_same h _
  rw [if_neg a]
  by_cases b : x ≤ 16
  · rw [if_pos b, if_neg (in_t a (nle_lt.mpr b)), k2, k3]
    obtain ⟨n, n1, n16, rfl⟩ := ge_nat (m := 1) (n := 16) (by decide) (by decide) a b
    by_cases d : nI n ≤ nI k
    · rw [if_pos d, if_pos d]
      rw [nI_leI (by omega) (by omega)] at d
      rw [tb_eq p1 p2 k2 k1 n1 d, pk_sub d, nI_1, m84n]
      have e1 : (up2 (kX6_copyRow (up2 M 1 0 (nI (k - n))) (nI (84 * (k - n + 1))) (nI 0)) 0 83 (M 0 83)) 1 0 = nI (k - n) := by
        rw [up2_o (K := 0) (K' := 1) rfl, cr_1, up2_eq]
      rw [e1]
      dsimp only
      refine rq_mk up2_eq (z_back h n1 d (fun j => ?_) e1 (fun K => ?_))
      · by_cases hj : j = 83
        · rw [hj, up2_eq, if_pos rfl]
        · rw [up2_ne hj, cr_sem (by omega) (by omega) (by omega), if_neg hj, up2_o (K := 1) (K' := 0) rfl]
          by_cases h2 : j < 84
          · rw [if_pos (by omega), if_pos h2, show j - 0 = j by omega]
          · rw [if_neg (by omega), if_neg h2]
      · rw [up2_o (nbeq (by omega)), cr_K (K + 1), up2_o (nbeq (by omega))]
    · rw [if_neg d, if_neg d]
      exact rq_same h _
  · rw [if_neg b, if_pos (in_f2 a (nlt_le.mp b))]
    exact rq_same h _
/-! images -/
theorem kp_or : ∀ i, i < 2 → ∀ a, a < 2 → ∀ b, b < 2 → (nI a + 2 * nI b) ||| ((1 : Int32) <<< (nI i &&& 31)) = nI (if i = 0 then 1 else a) + 2 * nI (if i = 1 then 1 else b) := by decide +kernel
theorem kp_has : ∀ i, i < 2 → ∀ a, a < 2 → ∀ b, b < 2 → (((((nI a + 2 * nI b) >>> (nI i &&& 31)) &&& 1) = 1) ↔ (if i = 0 then a else b) = 1) := by decide +kernel
theorem pl_in {x : Int32} : (kX2_hasPlace c g x = 0 ∧ kX6_in M x 0 1 = 0) ∨ (¬ (kX2_hasPlace c g x = 0) ∧ ¬ (kX6_in M x 0 1 = 0) ∧ ∃ i, i < 2 ∧ x = nI i) := by
  by_cases a : x < 0
  · exact Or.inl ⟨if_pos a, in_f1 a⟩
  · obtain ⟨j, hj, rfl⟩ := nI_of a
    by_cases b : 2 ≤ nI j
    · have b' : nI 2 ≤ nI j := b
      rw [nI_leI (by decide) hj] at b'
      refine Or.inl ⟨(if_neg a).trans (if_pos b), in_f2 a ?_⟩
      have : nI 1 < nI j := by
        rw [nI_ltI (by decide) hj]
        omega
      exact this
    · have b' : ¬ (nI 2 ≤ nI j) := b
      rw [nI_leI (by decide) hj] at b'
      have e : kX2_hasPlace c g (nI j) = 1 := (if_neg a).trans (if_neg b)
      refine Or.inr ⟨by rw [e]; decide, in_t a ?_, j, by omega, rfl⟩
      have : ¬ (nI 1 < nI j) := by
        rw [nI_ltI (by decide) hj]
        omega
      exact this
theorem im_n (i : Nat) : (1428 : Int32) + 84 * nI i = nI (1428 + 84 * i) := by
  rw [m84n, show (1428 : Int32) = nI 1428 from rfl, nI_add]
theorem kp_eq (x : Int32) : kX6_keep M x = (if kX6_in M x 0 1 = 0 then ((-1000000001), M) else (1, up2 (up2 (kX6_copyRow M (nI 0) (1428 + 84 * x)) 2 0 (kX6_copyRow M (nI 0) (1428 + 84 * x) 2 0 ||| ((1 : Int32) <<< (x &&& 31)))) 1 0 0)) := by
  unfold kX6_keep
  rw [← show (0 : Int32) = nI 0 from rfl]
theorem gb_eq (x : Int32) : kX6_goBack M x = (if kX6_in M x 0 1 = 0 then ((-1000000001), M) else (if kX6_has M (M 2 0) x = 0 then ((-1000000003), M) else (1, up2 (kX6_copyRow M (1428 + 84 * x) (nI 0)) 1 0 0))) := by
  unfold kX6_goBack
  rw [← show (0 : Int32) = nI 0 from rfl]
theorem b01 {x : Int32} (h : x = 0 ∨ x = 1) : ∃ a, a < 2 ∧ x = nI a := by
  rcases h with h | h
  · exact ⟨0, by omega, h⟩
  · exact ⟨1, by omega, h⟩
theorem z_kept {M1 g1 : Nat → Nat → Int32} {i : Nat} (hi : i < 2) (h : Rel c g M B p k) (s : ∀ j, M1 0 j = if 1428 + 84 * i ≤ j ∧ j < 1428 + 84 * i + 84 then M 0 (0 + (j - (1428 + 84 * i))) else M 0 j) (s1 : M1 1 0 = 0) (s2 : M1 2 0 = M 2 0 ||| ((1 : Int32) <<< (nI i &&& 31))) (sK : ∀ K, M1 (K + 3) = M (K + 3)) (g3 : g1 3 0 = 0) (g12 : g1 (12 + i) = pkL c (g (12 + i))) (g10 : ∀ j, g1 10 j = if j = i then g 7 0 else g 10 j) (g11 : ∀ j, g1 11 j = if j = i then 1 else g 11 j) (go : ∀ K, K ≠ 3 → K ≠ 10 → K ≠ 11 → K ≠ 12 + i → g1 K = g K) : Rel c g1 M1 (B + 48) p 0 := by
  obtain ⟨hc, hr, ⟨q1, q2⟩, ⟨⟨p1, p2⟩, ⟨k1, k2, k3⟩, p5⟩, ⟨i1, i2, i3⟩, b1, b2, b3⟩ := id h
  have lo : ∀ j, j < 1428 → M1 0 j = M 0 j := fun j hj => by rw [s, if_neg (by omega)]
  refine ⟨ib_mono (by omega) hc, rowR_mv hr (fun j hj => lo _ (by omega)), ⟨?_, ?_⟩, ⟨⟨p1, ?_⟩, ⟨by omega, g3, s1⟩, fun t ht => absurd ht (Nat.not_lt_zero _)⟩, ⟨fun j hj => ?_, ?_, fun j hj e => ?_⟩, ?_, ?_, ?_⟩
  · rw [lo 83 (by omega), go 7 (by decide) (by decide) (by decide) (by omega)]
    exact q1
  · rw [go 7 (by decide) (by decide) (by decide) (by omega)]
    exact q2
  · rw [go 2 (by decide) (by decide) (by decide) (by omega)]
    exact p2
  · rw [g11]
    by_cases e : j = i
    · rw [if_pos e]
      exact Or.inr rfl
    · rw [if_neg e]
      exact i1 j hj
  · obtain ⟨a, ha, ea⟩ := b01 (i1 0 (by omega))
    obtain ⟨b, hb, eb⟩ := b01 (i1 1 (by omega))
    rw [s2, i2, g11, g11, ea, eb, kp_or i hi a ha b hb]
    rcases (show i = 0 ∨ i = 1 by omega) with rfl | rfl
    · rfl
    · rfl
  · by_cases ej : j = i
    · subst ej
      have hag : ag c (unL zL (g1 (12 + j))) := by
        rw [g12]
        exact ag_symm (ag_pk hc.1.2.1)
      refine ⟨ib_mono (by omega) (ib_ag hag hc), rowR_ag (rowR_mv hr (fun q hq => ?_)) hag, ?_, ?_⟩
      · rw [s, if_pos (by omega), show 1428 + 84 * j + q - (1428 + 84 * j) = q by omega]
      · rw [s, if_pos (by omega), g10, if_pos rfl, show 0 + (1428 + 84 * j + 83 - (1428 + 84 * j)) = 83 by omega]
        exact q1
      · rw [g10, if_pos rfl]
        exact q2
    · rw [g11, if_neg ej] at e
      obtain ⟨a1, a2, a3, a4⟩ := i3 j hj e
      rw [go (12 + j) (by omega) (by omega) (by omega) (by omega), g10, if_neg ej]
      exact ⟨ib_mono (by omega) a1, rowR_mv a2 (fun q hq => by rw [s, if_neg (by omega)]), by rw [s, if_neg (by omega)]; exact a3, a4⟩
  · rw [sK 2, go 4 (by decide) (by decide) (by decide) (by omega)]
    exact b1
  · rw [go 4 (by decide) (by decide) (by decide) (by omega)]
    exact b2
  · rw [sK 0, sK 1, go 5 (by decide) (by decide) (by decide) (by omega), go 6 (by decide) (by decide) (by decide) (by omega)]
    exact b3
theorem z_keep (h : Rel c g M B p k) (x : Int32) : RQ ((kX5_keep c g x).1, c, (kX5_keep c g x).2) (kX6_keep M x) (B + 48) := by
  rw [kp_eq]
  unfold kX5_keep
  rcases pl_in (c := c) (g := g) (M := M) (x := x) with ⟨a, b⟩ | ⟨a, b, i, hi, rfl⟩
  · rw [if_pos a, if_pos b]
    exact rq_same h _
  · rw [if_neg a, if_neg b, im_n]
    have et : kX2_take c g (nI i) = up2 (up2 (rp g (12 + i) (pkL c (g (12 + i)))) 10 i (g 7 0)) 11 i 1 := by
      unfold kX2_take
      rw [ix_nI (show i < 2 ^ 31 by omega), rp_ne (show 7 ≠ 12 + i by omega)]
      rfl
    rw [et]
    dsimp only
    refine rq_mk rfl (z_kept hi h (fun j => ?_) up2_eq ?_ (fun K => ?_) up2_eq ?_ (fun j => ?_) (fun j => ?_) (fun K h3 h10 h11 h12 => ?_))
    · rw [up2_o (K := 1) (K' := 0) rfl, up2_o (K := 2) (K' := 0) rfl, cr_sem (by omega) (by omega) (by omega)]
    · rw [up2_o (K := 1) (K' := 2) rfl, up2_eq, cr_K 1]
    · rw [up2_o (nbeq (by omega)), up2_o (nbeq (by omega)), cr_K (K + 2)]
    · rw [up2_o (nbeq (by omega)), up2_o (nbeq (by omega)), up2_o (nbeq (by omega)), rp_eq]
    · rw [up2_o (K := 3) (K' := 10) rfl, up2_o (K := 11) (K' := 10) rfl]
      by_cases e : j = i
      · rw [if_pos e, e, up2_eq]
      · rw [if_neg e, up2_ne e, rp_ne (by omega)]
    · rw [up2_o (K := 3) (K' := 11) rfl]
      by_cases e : j = i
      · rw [if_pos e, e, up2_eq]
      · rw [if_neg e, up2_ne e, up2_o (K := 10) (K' := 11) rfl, rp_ne (by omega)]
    · rw [up2_o (nbeq h3), up2_o (nbeq h11), up2_o (nbeq h10), rp_ne h12]
theorem z_gone {M1 g1 : Nat → Nat → Int32} {i : Nat} (hi : i < 2) (h : Rel c g M B p k) (hk : g 11 i = 1) (s : ∀ j, M1 0 j = if j < 84 then M 0 (1428 + 84 * i + j) else M 0 j) (s1 : M1 1 0 = 0) (sK : ∀ K, M1 (K + 2) = M (K + 2)) (g3 : g1 3 0 = 0) (g7 : g1 7 0 = g 10 i) (go : ∀ K, K ≠ 3 → K ≠ 7 → g1 K = g K) : Rel (unL c (g (12 + i))) g1 M1 (B + 48) p 0 := by
  obtain ⟨hc, hr, ⟨q1, q2⟩, ⟨⟨p1, p2⟩, ⟨k1, k2, k3⟩, p5⟩, ⟨i1, i2, i3⟩, b1, b2, b3⟩ := id h
  have up : ∀ j, 84 ≤ j → M1 0 j = M 0 j := fun j hj => by rw [s, if_neg (by omega)]
  obtain ⟨a1, a2, a3, a4⟩ := i3 i hi hk
  refine ⟨ib_mono (by omega) (ib_ag ag_un a1), rowR_ag (rowR_mv a2 (fun j hj => ?_)) ag_un, ⟨?_, ?_⟩, ⟨⟨p1, ?_⟩, ⟨by omega, g3, s1⟩, fun t ht => absurd ht (Nat.not_lt_zero _)⟩, ⟨?_, ?_, ?_⟩, ?_, ?_, ?_⟩
  · rw [s, if_pos (by omega), Nat.zero_add]
  · rw [s, if_pos (by omega), g7]
    exact a3
  · rw [g7]
    exact a4
  · rw [go 2 (by decide) (by decide)]
    exact p2
  · rw [go 11 (by decide) (by decide)]
    exact i1
  · rw [sK 0, go 11 (by decide) (by decide)]
    exact i2
  · rw [go 11 (by decide) (by decide), go 10 (by decide) (by decide)]
    intro j hj e
    obtain ⟨a1, a2, a3, a4⟩ := i3 j hj e
    rw [go (12 + j) (by omega) (by omega)]
    exact ⟨ib_mono (by omega) a1, rowR_mv a2 (fun q _ => up _ (by omega)), (up _ (by omega)).trans a3, a4⟩
  · rw [sK 3, go 4 (by decide) (by decide)]
    exact b1
  · rw [go 4 (by decide) (by decide)]
    exact b2
  · rw [sK 1, sK 2, go 5 (by decide) (by decide), go 6 (by decide) (by decide)]
    exact b3
theorem z_goBack (h : Rel c g M B p k) (x : Int32) : RQ (kX5_goBack c g x) (kX6_goBack M x) (B + 48) := by
  obtain ⟨i1, i2, i3⟩ := h.2.2.2.2.1
  rw [gb_eq]
  unfold kX5_goBack
  rcases pl_in (c := c) (g := g) (M := M) (x := x) with ⟨a, b⟩ | ⟨a, b, i, hi, rfl⟩
  · rw [if_pos a, if_pos b]
    exact rq_same h _
  · rw [if_neg a, if_neg b, im_n, ix_nI (show i < 2 ^ 31 by omega)]
    have hx : (kX6_has M (M 2 0) (nI i) = 0) ↔ g 11 i = 0 := by
      obtain ⟨a, ha, ea⟩ := b01 (i1 0 (by omega))
      obtain ⟨b, hb, eb⟩ := b01 (i1 1 (by omega))
      have q := kp_has i hi a ha b hb
      rw [← ea, ← eb, ← i2] at q
      have e2 : g 11 i = nI (if i = 0 then a else b) := by
        rcases (show i = 0 ∨ i = 1 by omega) with rfl | rfl
        · exact ea
        · exact eb
      have hlt : (if i = 0 then a else b) < 2 := by split <;> omega
      unfold kX6_has
      rw [e2]
      generalize (if i = 0 then a else b) = z at q hlt ⊢
      by_cases q1 : ((M 2 0 >>> (nI i &&& 31)) &&& 1) = 1
      · rw [if_pos q1, q.mp q1]
        decide
      · rw [if_neg q1]
        have : z = 0 := by
          have : ¬ z = 1 := fun e => q1 (q.mpr e)
          omega
        rw [this]
        decide
    by_cases d : g 11 i = 0
    · rw [if_pos d, if_pos (hx.mpr d)]
      exact rq_same h _
    · have d1 : g 11 i = 1 := by
        rcases i1 i hi with q | q
        · exact absurd q d
        · exact q
      rw [if_neg d, if_neg (fun q => d (hx.mp q))]
      have eg : kX2_giveBack c g (nI i) = (unL c (g (12 + i)), up2 g 7 0 (g 10 i)) := by
        unfold kX2_giveBack
        rw [ix_nI (show i < 2 ^ 31 by omega)]
      rw [eg]
      dsimp only
      refine rq_mk rfl (z_gone hi h d1 (fun j => ?_) up2_eq (fun K => ?_) up2_eq ?_ (fun K h3 h7 => ?_))
      · rw [up2_o (K := 1) (K' := 0) rfl, cr_sem (by omega) (by omega) (by omega)]
        by_cases hj : j < 84
        · rw [if_pos (by omega), if_pos hj, show j - 0 = j by omega]
        · rw [if_neg (by omega), if_neg hj]
      · rw [up2_o (nbeq (by omega)), cr_K (K + 1)]
      · rw [up2_o (K := 3) (K' := 7) rfl, up2_eq]
      · rw [up2_o (nbeq h3), up2_o (nbeq h7)]
end ZR3
