section ZR2
variable {c c' g g' M M' : Nat → Nat → Int32} {B B' p k : Nat}
/-! a new line -/
def bgL (x1 x2 : Int32) : Nat → Nat → Int32 := fun K _ => if K = 0 then x1 else if K = 1 then x2 else 0
theorem fl_in {v : Int32} {f : Nat → Int32} {n i : Nat} (h : i < n) : flI v f n i = v := if_pos h
theorem ag_bg (x1 x2 : Int32) : ag (kX3_begin c x1 x2) (bgL x1 x2) :=
  ag_all rfl rfl rfl (fun i hi => fl_in hi) (fun i hi => fl_in hi) (fun i hi => fl_in hi) (fun i hi => fl_in hi) (fun i hi => fl_in hi) (fun i hi => fl_in hi) (fun i hi => fl_in hi) (fun i hi => fl_in hi) (fun i hi => fl_in hi) (fun i hi => fl_in hi) (fun i hi => fl_in hi) (fun i hi => fl_in hi)
theorem ib_bg {n : Nat} (h1 : 1 ≤ n) (h6 : n ≤ 6) {x2 : Int32} (hz : x2 = 0 ∨ x2 = 1) : invB (bgL (nI n) x2) B := by
  have h0 : ∀ m, 0 < m → vp_in (0 : Int32) m := fun m hm => vin_c (fun q => by
    rcases q with q | q
    · exact absurd q (by decide)
    · have : (0 : Int32).toNatClampNeg = 0 := by decide
      omega)
  refine ⟨⟨?_, hz, fun i _ => h0 _ (by decide), fun i _ => Or.inl rfl, fun i _ => h0 _ (by decide), fun i _ => h0 _ (by decide), h0 _ (by decide), fun i _ => h0 _ (by decide)⟩, fun i _ => h0 _ (by omega)⟩
  show 1 ≤ nI n ∧ nI n ≤ 6
  exact ⟨nI_le (a := 1) h1 (by omega), nI_le (b := 6) h6 (by decide)⟩
theorem off01 : ∀ K, K < 15 → ∀ i, i < lenM K → (offM K + i = 0 ↔ K = 0) ∧ (offM K + i = 1 ↔ K = 1) := by decide +kernel
def zr (f : Nat → Nat → Int32) (i : Nat) : Nat → Nat → Int32 := rp f 0 (fun j => if i ≤ j ∧ j < 83 then 0 else f 0 j)
def lnF (x1 b : Int32) (f : Nat → Nat → Int32) : Nat → Nat → Int32 := up2 (up2 (up2 f 0 (ix 0) x1) 0 (ix 1) b) 5 0 0
theorem zr_83 {f : Nat → Nat → Int32} : zr f 83 = f := by
  funext q
  cases q with
  | zero =>
    funext j
    exact if_neg (show ¬ (83 ≤ j ∧ j < 83) by omega)
  | succ q => rfl
theorem zr_s {f : Nat → Nat → Int32} {i : Nat} (hi : i < 83) : zr (up2 f 0 i 0) (i + 1) = zr f i := by
  funext q
  cases q with
  | zero =>
    funext j
    show (if i + 1 ≤ j ∧ j < 83 then (0 : Int32) else up2 f 0 i 0 0 j) = (if i ≤ j ∧ j < 83 then 0 else f 0 j)
    by_cases h1 : i + 1 ≤ j ∧ j < 83
    · rw [if_pos h1, if_pos (by omega)]
    · rw [if_neg h1]
      by_cases h2 : j = i
      · rw [h2, up2_eq, if_pos (by omega)]
      · rw [up2_ne h2, if_neg (by omega)]
  | succ q => rfl
theorem ln_27 (x1 x2 : Int32) : ∀ (n i : Nat) (f : Nat → Nat → Int32), i ≤ 83 → 83 - i < n → kX6_line_27 x1 x2 n i f = if x2 = 0 then (kX6_heads (lnF x1 0 (zr f i)), lnF x1 0 (zr f i)) else (kX6_heads (lnF x1 1 (zr f i)), lnF x1 1 (zr f i)) := by
  intro n
  induction n with
  | zero => exact fun i f _ h => absurd h (Nat.not_lt_zero _)
  | succ n ih =>
    intro i f hi hn
    unfold kX6_line_27
    by_cases hc : 83 ≤ nI i
    · have hc' : nI 83 ≤ nI i := hc
      rw [nI_leI (by omega) (by omega)] at hc'
      have e : i = 83 := by omega
      subst e
      rw [if_pos hc, zr_83]
      rfl
    · have hc' : ¬ (nI 83 ≤ nI i) := hc
      rw [nI_leI (by omega) (by omega)] at hc'
      rw [if_neg hc, ih (i + 1) _ (by omega) (by omega), ix_nI (by omega), zr_s (by omega)]
theorem z_begin (h : Rel c g M B p k) {n : Nat} (h1 : 1 ≤ n) (h6 : n ≤ 6) {b : Int32} (hz : b = 0 ∨ b = 1) : RQ (kX3_heads (kX3_begin c (nI n) b), kX3_begin c (nI n) b, up2 g 4 0 0) (kX6_heads (lnF (nI n) b (zr M 1)), lnF (nI n) b (zr M 1)) (B + 48) := by
  have hv : invB (kX3_begin c (nI n) b) (B + 48) := ib_ag (ag_symm (ag_bg _ _)) (ib_bg h1 h6 hz)
  have hlo : ∀ j, lnF (nI n) b (zr M 1) 0 j = if j = 0 then nI n else if j = 1 then b else if j < 83 then 0 else M 0 j := by
    intro j
    show up2 (up2 (zr M 1) 0 0 (nI n)) 0 1 b 0 j = _
    by_cases j1 : j = 1
    · rw [j1, up2_eq]
      rfl
    · rw [up2_ne j1]
      by_cases j0 : j = 0
      · rw [j0, up2_eq]
        rfl
      · rw [up2_ne j0, if_neg j0, if_neg j1]
        show (if 1 ≤ j ∧ j < 83 then (0 : Int32) else M 0 j) = _
        by_cases j2 : j < 83
        · rw [if_pos (by omega), if_pos j2]
        · rw [if_neg (by omega), if_neg j2]
  have hrow : rowR (lnF (nI n) b (zr M 1)) 0 (kX3_begin c (nI n) b) := by
    refine rowR_ag ?_ (ag_symm (ag_bg _ _))
    intro K hK i hi
    obtain ⟨o0, o1⟩ := off01 K hK i hi
    have o2 := lt_off hK hi
    rw [show 0 + offM K + i = offM K + i by omega, hlo]
    by_cases k0 : K = 0
    · rw [if_pos (o0.mpr k0), k0]
      rfl
    · rw [if_neg (fun q => k0 (o0.mp q))]
      by_cases k1 : K = 1
      · rw [if_pos (o1.mpr k1), k1]
        rfl
      · rw [if_neg (fun q => k1 (o1.mp q)), if_pos o2]
        have e : bgL (nI n) b K i = 0 := (if_neg k0).trans (if_neg k1)
        by_cases k13 : K = 13
        · subst k13
          rw [nE_e, e]
          exact (if_neg (show ¬ ((0 : Int32) = 3) by decide)).symm
        · rw [nE_o k13, e]
  have hR : Rel (kX3_begin c (nI n) b) (up2 g 4 0 0) (lnF (nI n) b (zr M 1)) (B + 48) p k := by
    refine rel_gen h (by omega) hv hrow (fun j hj _ => ?_) rfl rfl ⟨?_, h.2.2.1.2⟩ (fun K hK => up2_o (nbeq (by omega))) ⟨rfl, (show vp_in (0 : Int32) 21 from vin_c (by decide)), fun j hj => h.2.2.2.2.2.2.2 j hj⟩
    · rw [hlo, if_neg (by omega), if_neg (by omega), if_neg (by omega)]
    · rw [hlo, if_neg (by omega), if_neg (by omega), if_neg (by omega)]
      exact h.2.2.1.1
  refine ⟨?_, p, k, hR⟩
  show kX3_heads (kX3_begin c (nI n) b) = kX6_heads (lnF (nI n) b (zr M 1))
  rw [M_eq hrow]
  exact (q_heads hdM_0 hv.1.2.1).symm
theorem z_line (h : Rel c g M B p k) (x y : Int32) (hz : y = 0 ∨ y = 1) : RQ (kX5_line c g x y) (kX6_line M x y) (B + 48) := by
  have h1 := rel_rem h
  unfold kX5_line kX6_line
  by_cases a : y = 0
  · rw [if_pos a, if_pos a]
    by_cases b : x < 1
    · rw [if_pos b, if_pos (in_f1 b)]
      exact rq_same h _
    rw [if_neg b]
    by_cases d : x ≤ 6
    · rw [if_pos d, if_neg (in_t b (nle_lt.mpr d)), ln_27 _ _ _ _ _ (by omega) (by omega), if_pos a]
      obtain ⟨n, n1, n6, rfl⟩ := ge_nat (m := 1) (n := 6) (by decide) (by decide) b d
      generalize kX6_remember M = M1 at h1 ⊢
      rw [a]
      exact z_begin h1 n1 n6 (Or.inl rfl)
    · rw [if_neg d, if_pos (in_f2 b (nlt_le.mp d))]
      exact rq_same h _
  · rw [if_neg a, if_neg a]
    by_cases b : x < 2
    · rw [if_pos b, if_pos (in_f1 b)]
      exact rq_same h _
    rw [if_neg b]
    by_cases d : x ≤ 6
    · rw [if_pos d, if_neg (in_t b (nle_lt.mpr d)), ln_27 _ _ _ _ _ (by omega) (by omega), if_neg a]
      obtain ⟨n, n1, n6, rfl⟩ := ge_nat (m := 2) (n := 6) (by decide) (by decide) b d
      generalize kX6_remember M = M1 at h1 ⊢
      have e : y = 1 := by
        rcases hz with q | q
        · exact absurd q a
        · exact q
      rw [e]
      exact z_begin h1 (by omega) n6 (Or.inr rfl)
    · rw [if_neg d, if_pos (in_f2 b (nlt_le.mp d))]
      exact rq_same h _
/-! drift -/
theorem z_once (h : Rel c g M B p k) (hB : B < 1000000) : Rel (kX5_driftOnce c g).1 (kX5_driftOnce c g).2 (kX6_time M) (B + 3) p k := by
  obtain ⟨s1, s2⟩ := h.2.2.1
  obtain ⟨T, V⟩ := q_time (f0 := M) (w := M 0) h.1 hB s1 s2
  obtain ⟨d1, d2⟩ := drift_g (c := c) (g := g)
  have e : kX6_time M = rM M (upd (M 0) 83 (seed5 (g 7 0))) 0 (nE (kX5_driftOnce c g).1) := (congrArg kX6_time (M_eq h.2.1)).trans T
  rw [e]
  refine rel_gen h (by omega) V rM_row (fun j hj _ => (rM_hi (by omega)).trans (if_neg (by omega))) rfl rfl ⟨?_, ?_⟩ (fun K hK => d2 K (by omega)) ⟨?_, ?_, fun j hj => ?_⟩
  · rw [rM_hi (by omega), d1]
    exact if_pos rfl
  · rw [d1]
    exact sK0 _
  · rw [d2 4 (by decide)]
    exact h.2.2.2.2.2.1
  · rw [d2 4 (by decide)]
    exact h.2.2.2.2.2.2.1
  · rw [d2 5 (by decide), d2 6 (by decide)]
    exact h.2.2.2.2.2.2.2 j hj
theorem e_called (h : Rel c g M B p k) (y : Int32) : kX6_called M 0 y = kX3_called c y := by
  rw [M_eq h.2.1]
  exact q_called (x := 0) (by omega) (Or.inl rfl) h.1.1.1 y
theorem zd_16 (x : Int32) (hx : x ≤ 16) : ∀ (n i : Nat) (c g M : Nat → Nat → Int32) (B p k : Nat), Rel c g M B p k → B + 3 * (16 - i) < 1000000 → i ≤ 16 → 16 - i < n → RQ (kX5_drift_16 x n i c g) (kX6_drift_15 x n i M) (B + 3 * (16 - i)) := by
  intro n
  induction n with
  | zero => exact fun i c g M B p k _ _ _ h => absurd h (Nat.not_lt_zero _)
  | succ n ih =>
    intro i c g M B p k h hB hi hn
    unfold kX5_drift_16 kX6_drift_15
    by_cases q : x ≤ nI i
    · rw [if_pos q, if_pos q, e_called h]
      exact ⟨rfl, p, k, rel_mono h (by omega)⟩
    · have hlt : i < 16 := il_lt hx (by decide) hi q
      rw [if_neg q, if_neg q]
      have h1 := rel_rem h
      generalize kX6_remember M = M1 at h1 ⊢
      have h2 := z_once h1 (by omega)
      have h3 := ih (i + 1) _ _ _ _ _ _ h2 (by omega) (by omega) (by omega)
      rw [show B + 3 + 3 * (16 - (i + 1)) = B + 3 * (16 - i) by omega] at h3
      exact h3
theorem z_drift (h : Rel c g M B p k) (hB : B < 900000) (x : Int32) : RQ (kX5_drift c g x) (kX6_drift M x) (B + 48) := by
  unfold kX5_drift kX6_drift
  by_cases b : x < 1
  · rw [if_pos b, if_pos (in_f1 b)]
    exact rq_same h _
  rw [if_neg b]
  by_cases d : x ≤ 16
  · rw [if_pos d, if_neg (in_t b (nle_lt.mpr d))]
    exact zd_16 x d 17 0 c g M B p k h (by omega) (by omega) (by omega)
  · rw [if_neg d, if_pos (in_f2 b (nlt_le.mp d))]
    exact rq_same h _
/-! what a tick would bring -/
theorem rq_mk {v u : Int32} (e : v = u) (hR : Rel c' g' M' B' p k) : RQ (v, c', g') (u, M') B' := ⟨e, p, k, hR⟩
theorem wd_eq (x : Int32) : kX6_would M x = (if kX6_isSet M x = 0 then ((-1000000001), M) else (kX6_called (kX6_tickIn (kX6_copyRow M (nI 0) (nI 1596)) (nI 1596) x) (nI 1596) 0, kX6_tickIn (kX6_copyRow M (nI 0) (nI 1596)) (nI 1596) x)) := by
  unfold kX6_would
  rw [← show (0 : Int32) = nI 0 from rfl, ← show (1596 : Int32) = nI 1596 from rfl]
theorem z_tried {M1 : Nat → Nat → Int32} (h : Rel c g M B p k) (x : Int32) (s : ∀ j, M1 0 j = if 1596 ≤ j ∧ j < 1596 + 84 then M 0 (0 + (j - 1596)) else M 0 j) (sK : ∀ K, M1 (K + 1) = M (K + 1)) : kX3_called (kX3_pass c x) 0 = kX6_called (kX6_tickIn M1 (nI 1596) x) (nI 1596) 0 ∧ Rel (unL (kX3_pass c x) ((rp g 1 (pkL c (g 1))) 1)) (rp g 1 (pkL c (g 1))) (kX6_tickIn M1 (nI 1596) x) (B + 48) p k := by
  have hrow : rowR M1 1596 c := rowR_mv h.2.1 (fun j hj => by rw [s, if_pos (by omega), show 1596 + j - 1596 = j by omega])
  have r0 : M 0 0 = c 0 0 := h.2.1 0 (by decide) 0 (by decide)
  have r1 : M 0 1 = c 1 0 := h.2.1 1 (by decide) 0 (by decide)
  have hw : hdW (M1 0) 1596 c := Or.inr ⟨by omega, by rw [s, if_neg (by omega)]; exact r0, by rw [s, if_neg (by omega)]; exact r1⟩
  obtain ⟨T, T2, T3, T4⟩ := q_tick (f0 := M1) (x := 1596) (by omega) x h.1.1 hw
  have C : kX6_called (rM M1 (M1 0) 1596 (nE (kX3_pass c x))) (nI 1596) 0 = kX3_called (kX3_pass c x) 0 := q_called (x := 1596) (by omega) (hdW_of hw (by rw [T3]) (by rw [T4])) T2.1 0
  rw [← M_eqx hrow] at T
  rw [T, C, rp_eq]
  have lo : ∀ j, j < 1596 → rM M1 (M1 0) 1596 (nE (kX3_pass c x)) 0 j = M 0 j := fun j hj => (emb_out (Or.inl hj)).trans (by rw [s, if_neg (by omega)])
  have hag : ag c (unL (kX3_pass c x) (pkL c (g 1))) := ag_symm (ag_pk h.1.1.2.1)
  have g4 : ∀ K, K ≠ 1 → rp g 1 (pkL c (g 1)) K = g K := fun K hK => rp_ne hK
  have rK : ∀ K, rM M1 (M1 0) 1596 (nE (kX3_pass c x)) (K + 1) = M (K + 1) := fun K => (rp_ne (by omega)).trans (sK K)
  generalize rM M1 (M1 0) 1596 (nE (kX3_pass c x)) = M2 at lo rK ⊢
  generalize rp g 1 (pkL c (g 1)) = g2 at g4 ⊢
  refine ⟨rfl, ?_⟩
  refine rel_gen h (by omega) (ib_mono (by omega) (ib_ag hag h.1)) (rowR_ag (rowR_mv h.2.1 (fun j hj => lo _ (by omega))) hag) (fun j hj hj2 => lo j hj2) (by rw [rK 0]) (by rw [rK 1]) ⟨?_, ?_⟩ (fun K hK => g4 K (by omega)) ⟨?_, ?_, fun j hj => ?_⟩
  · rw [lo 83 (by omega), g4 7 (by decide)]
    exact h.2.2.1.1
  · rw [g4 7 (by decide)]
    exact h.2.2.1.2
  · rw [rK 4, g4 4 (by decide)]
    exact h.2.2.2.2.2.1
  · rw [g4 4 (by decide)]
    exact h.2.2.2.2.2.2.1
  · rw [rK 2, rK 3, g4 5 (by decide), g4 6 (by decide)]
    exact h.2.2.2.2.2.2.2 j hj
theorem z_would (h : Rel c g M B p k) (x : Int32) : RQ (kX5_would c g x) (kX6_would M x) (B + 48) := by
  rw [wd_eq]
  unfold kX5_would
  rw [e_set h]
  by_cases a : kX3_hasHeads c x = 0
  · rw [if_pos a, if_pos a]
    exact rq_same h _
  rw [if_neg a, if_neg a]
  obtain ⟨q1, q2⟩ := z_tried (M1 := kX6_copyRow M (nI 0) (nI 1596)) h x (cr_sem (X := 0) (Y := 1596) (by omega) (by omega) (by omega)) (fun K => cr_K K)
  exact rq_mk q1 q2
end ZR2
