/-! what is told, of the whole: told, section, head -/
theorem shl0 : ∀ i, i < 7 → (0 : Int32) <<< (nI i &&& 31) = 0 := by decide +kernel
section TO
variable {f0 : Nat → Nat → Int32} {w : Nat → Int32} {c g : Nat → Nat → Int32} {N : Nat}
theorem q_hf {H : Nat} (hr : c 1 0 = 0 ∨ c 1 0 = 1) (hf : ∀ i, i < 7 → c 6 i = 0 ∨ c 6 i = 1) (hH : kX3_heads c = nI H) (hH7 : H ≤ 7) : ∀ (n i : Nat) (v : Int32), i ≤ H → kX6_headSet_4 1 n i (rM f0 w 0 (nE c)) v = kX3_faultyHeads_4 n i c v := by
  intro n
  induction n with
  | zero => exact fun i v _ => rfl
  | succ n ih =>
    intro i v hi
    unfold kX6_headSet_4 kX3_faultyHeads_4
    rw [q_heads hdM_0 hr, hH]
    by_cases hc : nI H ≤ nI i
    · rw [if_pos hc, if_pos hc]
    · rw [if_neg hc, if_neg hc]
      rw [nI_leI (by omega) (by omega)] at hc
      rw [if_neg (show ¬ ((1 : Int32) = 0) by decide), r0_faulty (by omega), ix_nI (show i < 2 ^ 31 by omega), show nE c 6 i = c 6 i from rfl]
      rcases hf i (by omega) with q | q
      · rw [q, if_neg (by decide), shl0 i (by omega)]
        exact ih _ _ (by omega)
      · rw [q, if_pos rfl]
        exact ih _ _ (by omega)
theorem q_hs {H : Nat} (hr : c 1 0 = 0 ∨ c 1 0 = 1) (hok : okL c) (hH : kX3_heads c = nI H) (hH7 : H ≤ 7) : ∀ (n i : Nat) (v : Int32), i ≤ H → kX6_headSet_4 0 n i (rM f0 w 0 (nE c)) v = kX3_suspects_4 n i c v := by
  intro n
  induction n with
  | zero => exact fun i v _ => rfl
  | succ n ih =>
    intro i v hi
    unfold kX6_headSet_4 kX3_suspects_4
    rw [q_heads hdM_0 hr, hH]
    by_cases hc : nI H ≤ nI i
    · rw [if_pos hc, if_pos hc]
    · rw [if_neg hc, if_neg hc]
      rw [nI_leI (by omega) (by omega)] at hc
      rw [if_pos (show (0 : Int32) = 0 from rfl), q_miscount _ hr hok, or0]
      by_cases h : kX3_miscount c (nI i) = 0
      · rw [if_pos h, if_pos h]
        exact ih _ _ (by omega)
      · rw [if_neg h, if_neg h]
        exact ih _ _ (by omega)
theorem le_j {p : Nat} (hp : p < 100) : (nI p ≤ 3) ↔ p ≤ 3 := nI_leI (b := 3) (by omega) (by decide)
theorem sub4 {p : Nat} (hp : p ≤ 4) : 4 - nI p = nI (4 - p) := pk_sub (a := 4) hp
theorem q_left (hr : c 1 0 = 0 ∨ c 1 0 = 1) (hN : c 0 0 = nI N) (h6 : N ≤ 6) (ha : ∀ i, i < 7 → vp_in (c 9 i) 100) {j : Nat} (hj : j < N) : kX6_leftTelegrams (rM f0 w 0 (nE c)) (nI j) = kX3_lossesLeft c (nI j) := by
  obtain ⟨k, hk, ek⟩ := rightHead_j hr hN h6 hj
  obtain ⟨p, hp, ep⟩ := vp_in_of (ha j (by omega)) (by decide)
  obtain ⟨q, hq, eq⟩ := vp_in_of (ha k hk) (by decide)
  unfold kX6_leftTelegrams kX3_lossesLeft
  rw [q_rightHead hdM_0 hr hN h6 hj, ek, r0_age (show j < 7 by omega), r0_age hk, ix_nI (show j < 2 ^ 31 by omega), ix_nI (show k < 2 ^ 31 by omega), show nE c 9 j = c 9 j from rfl, show nE c 9 k = c 9 k from rfl, ep, eq]
  have mx : (if nI p < nI q then nI q else nI p) = nI (max p q) := by
    by_cases h : p < q
    · rw [if_pos (by rw [nI_ltI (by omega) (by omega)]; exact h), show max p q = q by omega]
    · rw [if_neg (by rw [nI_ltI (by omega) (by omega)]; exact h), show max p q = p by omega]
  rw [mx]
  have hpos : ∀ m : Nat, m < 100 → (0 < 4 - nI m ↔ m < 4) := by
    intro m hm
    rw [Int32.lt_iff_toInt_lt, i0, show (4 - nI m).toInt = ((4 : Nat) : Int) - m from pk_sub_toInt (a := 4) (by decide) (by omega)]
    omega
  have hR : (if 0 < 4 - nI (max p q) then 4 - nI (max p q) else 0) = nI (4 - max p q) := by
    by_cases h : max p q < 4
    · rw [if_pos ((hpos _ (by omega)).mpr h), sub4 (by omega)]
    · rw [if_neg (fun z => h ((hpos _ (by omega)).mp z)), show 4 - max p q = 0 by omega]
      rfl
  rw [hR]
  by_cases h1 : p ≤ 3
  · rw [if_pos ((le_j hp).mpr h1), sub4 (p := p) (by omega)]
    by_cases h2 : q ≤ 3
    · rw [if_pos ((le_j hq).mpr h2), sub4 (p := q) (by omega)]
      by_cases h3 : 4 - q ≤ 4 - p
      · rw [if_pos (nI_le h3 (by omega)), show 4 - max p q = 4 - q by omega]
      · rw [if_neg (by rw [nI_leI (by omega) (by omega)]; exact h3), show 4 - max p q = 4 - p by omega]
    · rw [if_neg (fun z => h2 ((le_j hq).mp z)), if_pos (show (0 : Int32) ≤ nI (4 - p) from nI_le (a := 0) (by omega) (by omega)), show 4 - max p q = 0 by omega]
      rfl
  · rw [if_neg (fun z => h1 ((le_j hp).mp z))]
    by_cases h2 : q ≤ 3
    · rw [if_pos ((le_j hq).mpr h2), sub4 (p := q) (by omega), if_neg (show ¬ (nI (4 - q) ≤ 0) from fun z => by have z' : nI (4 - q) ≤ nI 0 := z; rw [nI_leI (by omega) (by omega)] at z'; omega), show 4 - max p q = 0 by omega]
      rfl
    · rw [if_neg (fun z => h2 ((le_j hq).mp z)), show 4 - max p q = 0 by omega]
      rfl
theorem hs_N (hN : c 0 0 = nI N) (h6 : N ≤ 6) {k : Nat} (hk : k ≤ N) : (kX3_hasSection c (nI k) = 0) ↔ nI N ≤ nI k := by
  rw [nI_leI (by omega) (by omega)]
  constructor
  · intro h
    by_cases q : k < N
    · rw [hs_j hN h6 q] at h
      exact absurd h (by decide)
    · omega
  · intro h
    have e : k = N := by omega
    subst e
    unfold kX3_hasSection
    rw [hN, if_neg (nI_pos (by omega)), if_pos (Int32.le_refl _)]
theorem q_run (hr : c 1 0 = 0 ∨ c 1 0 = 1) (hN : c 0 0 = nI N) (h6 : N ≤ 6) (h1 : 1 ≤ N) (x1 : Int32) : ∀ (n i k : Nat), k ≤ N → kX6_run_4 x1 n i (rM f0 w 0 (nE c)) (nI k) = kX3_clearRun_4 x1 n i c (nI k) := by
  intro n
  induction n with
  | zero => exact fun i k _ => rfl
  | succ n ih =>
    intro i k hk
    unfold kX6_run_4 kX3_clearRun_4
    have e0 : rM f0 w 0 (nE c) 0 (ix 0) = c 0 0 := (hdM_of (Or.inl rfl)).1
    have e1 : rM f0 w 0 (nE c) 0 (ix 1) = c 1 0 := (hdM_of (Or.inl rfl)).2
    rw [e0, e1, hN]
    by_cases hc : nI N ≤ nI i
    · rw [if_pos hc, if_pos hc]
    · rw [if_neg hc, if_neg hc]
      by_cases hs : nI N ≤ nI k
      · rw [if_pos hs, if_pos ((hs_N hN h6 hk).mpr hs)]
      · rw [if_neg hs, if_neg (fun q => hs ((hs_N hN h6 hk).mp q))]
        rw [nI_leI (by omega) (by omega)] at hs
        rw [r0_call (show k < 6 by omega), ix_nI (show k < 2 ^ 31 by omega), show nE c 12 k = c 12 k from rfl]
        by_cases hz : c 12 k = 0
        · rw [if_pos hz, if_pos hz, nI_1]
          rcases hr with q | q
          · rw [q, if_neg (show ¬ ((0 : Int32) = 1) by decide), if_pos (show (0 : Int32) = 0 from rfl)]
            split
            · exact ih _ _ (by omega)
            · exact ih _ _ (by omega)
          · rw [q, if_pos (show (1 : Int32) = 1 from rfl), if_neg (show ¬ ((1 : Int32) = 0) by decide)]
            unfold remI
            rw [pk_rem (by omega) (by omega) (by omega)]
            by_cases e : k + 1 = N
            · rw [if_pos (show nI (k + 1) = nI N by rw [e]), e, Nat.mod_self]
              exact ih _ 0 (by omega)
            · rw [if_neg (show ¬ (nI (k + 1) = nI N) by rw [nI_eq (by omega) (by omega)]; exact e), Nat.mod_eq_of_lt (by omega)]
              exact ih _ _ (by omega)
        · rw [if_neg hz, if_neg hz]
/-- the book -/
def bkR (f0 g : Nat → Nat → Int32) : Prop := f0 5 0 = g 4 0 ∧ vp_in (g 4 0) 21 ∧ ∀ j, j < 20 → f0 3 j = g 5 j ∧ f0 4 j = g 6 j
theorem q_wrong (hok : okL c) (hbk : bkR f0 g) : ∀ (n i : Nat), i ≤ 20 → 20 - i < n → kX6_wrongEntry_2 n i (rM f0 w 0 (nE c)) = kX0_firstWrong_2 n i c g := by
  obtain ⟨b1, b2, b3⟩ := hbk
  obtain ⟨z, hz, ez⟩ := vp_in_of b2 (by decide)
  intro n
  induction n with
  | zero => exact fun i _ h => absurd h (Nat.not_lt_zero _)
  | succ n ih =>
    intro i hi hn
    unfold kX6_wrongEntry_2 kX0_firstWrong_2
    rw [show rM f0 w 0 (nE c) 5 0 = f0 5 0 from rfl, b1, ez]
    by_cases hc : nI z ≤ nI i
    · rw [if_pos hc, if_pos hc]
    · rw [if_neg hc, if_neg hc]
      rw [nI_leI (by omega) (by omega)] at hc
      rw [if_neg (show ¬ ((20 : Int32) ≤ nI i) from fun q => by have q' : nI 20 ≤ nI i := q; rw [nI_leI (by omega) (by omega)] at q'; omega)]
      rw [ix_nI (show i < 2 ^ 31 by omega), show rM f0 w 0 (nE c) 3 i = f0 3 i from rfl, show rM f0 w 0 (nE c) 4 i = f0 4 i from rfl, (b3 i (by omega)).1, (b3 i (by omega)).2, q_isSection hdM_0 hok]
      by_cases hs : kX3_hasSection c (g 5 i) = 0
      · rw [if_pos hs, if_pos hs]
      · rw [if_neg hs, if_neg hs]
        obtain ⟨k, hk, ek⟩ := vp_in_of (hs_in hok hs) (by decide)
        rw [ek, r0_call hk, ix_nI (show k < 2 ^ 31 by omega), show nE c 12 k = c 12 k from rfl]
        by_cases he : c 12 k = g 6 i
        · rw [if_pos he, if_pos he]
          exact ih _ (by omega) (by omega)
        · rw [if_neg he, if_neg he]
theorem q_told (hv : invC c) (ha : ∀ i, i < 6 → ¬ c 14 i < 0) (hbk : bkR f0 g) (hk : f0 1 0 = g 3 0) (x : Int32) : kX6_told (rM f0 w 0 (nE c)) x = kX5_told c g x := by
  obtain ⟨hok, hr, -, hf, -, -, -, -⟩ := id hv
  obtain ⟨N, h1, h6, hN⟩ := okL_j hok
  obtain ⟨H, g1, g7, hH⟩ := heads_j hok
  have e0 : rM f0 w 0 (nE c) 0 (ix 0) = c 0 0 := hdM_0.1
  have e1 : rM f0 w 0 (nE c) 0 (ix 1) = c 1 0 := hdM_0.2
  have e2 : rM f0 w 0 (nE c) 0 (ix 2) = c 2 0 := rM_rd (K := 2) (i := 0) (by decide) (by decide) rfl
  have hc : ∀ y : Int32, kX6_called (rM f0 w 0 (nE c)) 0 y = kX3_called c y := fun y => q_called (x := 0) (by omega) (Or.inl rfl) hok y
  have z8 : kX6_setOf (rM f0 w 0 (nE c)) 8 = kX3_wronglyClear c := q_set8 hN h6 ha 7 0 0 0 (by omega) (by decide) (by decide) (by decide) (by decide) (by omega)
  have z9 : kX6_setOf (rM f0 w 0 (nE c)) 9 = kX3_idle c := q_set9 hN h6 7 0 0 0 (by omega) (by decide) (by decide) (by decide) (by decide) (by omega)
  have zf : kX6_headSet (rM f0 w 0 (nE c)) 1 = kX3_faultyHeads c := q_hf hr hf hH g7 8 0 0 (by omega)
  have zs : kX6_headSet (rM f0 w 0 (nE c)) 0 = kX3_suspects c := q_hs hr hok hH g7 8 0 0 (by omega)
  have za : kX6_allOf (rM f0 w 0 (nE c)) 15 = kX3_axlesInAll c := q_allA hN h6 7 0 0 (by omega)
  have zu : kX6_allOf (rM f0 w 0 (nE c)) 9 = kX3_sumOfAll c := q_allS hN h6 7 0 0 (by omega)
  have zw : kX6_wrongEntry (rM f0 w 0 (nE c)) = kX0_firstWrong c g := q_wrong hok hbk 21 0 (by omega) (by omega)
  have z5 : rM f0 w 0 (nE c) 5 0 = g 4 0 := hbk.1
  have z1 : rM f0 w 0 (nE c) 1 0 = g 3 0 := hk
  unfold kX6_told kX5_told
  by_cases q0 : x = 0
  · rw [if_pos q0, if_pos q0, e0]
  rw [if_neg q0, if_neg q0]
  by_cases q1 : x = 1
  · rw [if_pos q1, if_pos q1, q_heads hdM_0 hr]
  rw [if_neg q1, if_neg q1]
  by_cases q2 : x = 2
  · rw [if_pos q2, if_pos q2, e1]
    rcases hr with h | h
    · rw [h, if_pos rfl]
    · rw [h, if_neg (by decide)]
  rw [if_neg q2, if_neg q2]
  by_cases q3 : x = 3
  · rw [if_pos q3, if_pos q3, e2]
  rw [if_neg q3, if_neg q3]
  by_cases q4 : x = 4
  · rw [if_pos q4, if_pos q4, hc, q4]
    rfl
  rw [if_neg q4, if_neg q4]
  by_cases q5 : x = 5
  · rw [if_pos q5, if_pos q5, hc, q5]
    rfl
  rw [if_neg q5, if_neg q5]
  by_cases q6 : x = 6
  · rw [if_pos q6, if_pos q6, hc, q6]
    rfl
  rw [if_neg q6, if_neg q6]
  by_cases q7 : x = 7
  · rw [if_pos q7, if_pos q7, hc, q7]
    rfl
  rw [if_neg q7, if_neg q7]
  by_cases q8 : x = 8
  · rw [if_pos q8, if_pos q8, q8]
    exact z8
  rw [if_neg q8, if_neg q8]
  by_cases q9 : x = 9
  · rw [if_pos q9, if_pos q9, q9]
    exact z9
  rw [if_neg q9, if_neg q9, zf, zs, za, zu, zw, z5, z1]
theorem q_section (hv : invC c) (s x : Int32) : kX6_section (rM f0 w 0 (nE c)) s x = kX5_section c g s x := by
  obtain ⟨hok, hr, -, -, -, hag, -, -⟩ := id hv
  obtain ⟨N, h1, h6, hN⟩ := okL_j hok
  unfold kX6_section kX5_section
  rw [q_isSection hdM_0 hok]
  by_cases hs : kX3_hasSection c s = 0
  · rw [if_pos hs, if_pos hs]
  · rw [if_neg hs, if_neg hs]
    obtain ⟨j, hj, rfl⟩ := vp_in_of (hs_in hok hs) (by decide)
    have hjN : j < N := by
      by_cases q : j < N
      · exact q
      · exfalso
        apply hs
        unfold kX3_hasSection
        rw [hN, if_neg (nI_pos (by omega)), if_pos (nI_le (by omega) (by omega))]
    have ht : kX6_isTrouble (rM f0 w 0 (nE c)) 0 (nI j) = kX3_hasTrouble c (nI j) := q_trouble (x := 0) (by omega) hdM_0 hr hN h6 hjN
    have hu : kX6_run (rM f0 w 0 (nE c)) (nI j) = kX3_clearRun c (nI j) := q_run hr hN h6 h1 (nI j) 7 0 j (by omega)
    rw [r0_call hj, r0_sum hj, r0_true hj, r0_ent hj, ht, hu, q_left hr hN h6 hag hjN, ix_nI (show j < 2 ^ 31 by omega), nE_e]
    rfl
theorem q_head (hv : invC c) (s x : Int32) : kX6_head (rM f0 w 0 (nE c)) s x = kX5_head c g s x := by
  obtain ⟨hok, hr, -, -, -, -, -, -⟩ := id hv
  obtain ⟨N, h1, h6, hN⟩ := okL_j hok
  obtain ⟨H, g1, g7, hH⟩ := heads_j hok
  have hHN := heads_N hN h6 hH g7
  unfold kX6_head kX5_head
  rw [q_isHead hdM_0 hok hr]
  by_cases hs : kX3_hasHead c s = 0
  · rw [if_pos hs, if_pos hs]
  · rw [if_neg hs, if_neg hs]
    obtain ⟨j, hj, rfl⟩ := vp_in_of (hh_in hok hs) (by decide)
    have hjH : j < H := by
      by_cases q : j < H
      · exact q
      · exfalso
        apply hs
        unfold kX3_hasHead
        rw [hH, if_neg (nI_pos (by omega)), if_pos (nI_le (by omega) (by omega))]
    have hjN : j ≤ N := by omega
    have hJ : kX6_joint (rM f0 w 0 (nE c)) (nI j) = if kX3_joins c (nI j) = 0 then (-1) else kX3_joint c (nI j) + 2000 := by
      unfold kX6_joint
      rw [q_joins (Or.inl rfl) hr hN h1 h6 hjN]
      by_cases hz : kX3_joins c (nI j) = 0
      · rw [if_pos hz, if_pos hz]
      · rw [if_neg hz, if_neg hz]
        obtain ⟨a, b, ha, hb, ea, eb, sa, sb⟩ := joins_ab hN h1 h6 hjN hz
        unfold kX3_joint
        rw [q_leftOf hdM_0 hr, q_rightOf hdM_0, ea, eb, sa, sb, if_neg (by decide), if_neg (by decide), r0_sum (by omega), r0_sum (by omega), ix_nI (by omega), ix_nI (by omega)]
        rfl
    rw [r0_state hj, r0_wheel hj, r0_count hj, r0_heard hj, r0_age hj, r0_faulty hj, r0_told hj, r0_swept hj, hJ, q_miscount _ hr hok, ix_nI (show j < 2 ^ 31 by omega)]
    rfl
end TO
