/-! a tick, a step, a move: the axles stay within bounds -/
section BND
variable {c : Nat → Nat → Int32} {N B : Nat}
theorem recv_14 {i : Int32} : kX3_receive c i 14 = c 14 := by
  unfold kX3_receive
  split
  · exact (add_o (K := 14) (by decide)).trans (add_o (K := 14) (by decide))
  · exact (add_o (K := 14) (by decide)).trans (add_o (K := 14) (by decide))
theorem judge_14 {s : Int32} : kX3_judge c s 14 = c 14 := by
  unfold kX3_judge kX3_judgeSweep
  repeat' split
  all_goals rfl
theorem joint_14 {h a b : Int32} : kX3_judgeJoint c h a b 14 = c 14 := by
  unfold kX3_judgeJoint kX3_heal
  repeat' split
  all_goals rfl
theorem hear_14 (y : Int32) : ∀ (n i : Nat) (c : Nat → Nat → Int32), kX3_hear_2 y n i c 14 = c 14 := by
  intro n
  induction n with
  | zero => exact fun i c => rfl
  | succ n ih =>
    intro i c
    unfold kX3_hear_2
    split
    · rfl
    · split
      · exact (ih _ _).trans recv_14
      · split
        · exact ih _ _
        · exact (ih _ _).trans rfl
theorem p28_14 (y : Int32) : ∀ (n i : Nat) (c : Nat → Nat → Int32), kX3_pass_28 y n i c 14 = c 14 := by
  intro n
  induction n with
  | zero => exact fun i c => rfl
  | succ n ih =>
    intro i c
    unfold kX3_pass_28
    split
    · split
      · rfl
      · rfl
    · split
      · exact ih _ _
      · exact (ih _ _).trans joint_14
theorem p7_14 (y : Int32) : ∀ (n i : Nat) (c : Nat → Nat → Int32), kX3_pass_7 y n i c 14 = c 14 := by
  intro n
  induction n with
  | zero => exact fun i c => rfl
  | succ n ih =>
    intro i c
    unfold kX3_pass_7
    split
    · exact p28_14 _ _ _ _
    · exact (ih _ _).trans judge_14
theorem pass_14 (y : Int32) : kX3_pass c y 14 = c 14 := by
  unfold kX3_pass kX3_hear
  exact (p7_14 _ _ _ _).trans (hear_14 _ _ _ _)
theorem ib_pass (hv : invB c B) (y : Int32) : invB (kX3_pass c y) B := ⟨(q_tick (f0 := c) (w := c 0) (x := 0) (by omega) y hv.1 (Or.inl rfl)).2.1, fun i hi => by rw [pass_14]; exact hv.2 i hi⟩
theorem cC_14 {i m t : Int32} : cC c i m t 14 = c 14 := by
  unfold cC
  split
  · rfl
  · rfl
theorem iv_C (hv : invC c) {i m t : Int32} : invC (cC c i m t) := by
  unfold cC
  split
  · exact hv
  · exact iv_free hv (by decide)
theorem iv_F (hv : invC c) {v n : Int32} : invC (cF c v n) := by
  unfold cF
  split
  · exact hv
  · exact iv_free hv (by decide)
theorem iv_T (hv : invC c) {v n : Int32} : invC (cT c v n) := by
  unfold cT
  split
  · exact hv
  · exact iv_free hv (by decide)
theorem iv_carry (hv : invC c) {i y n t : Int32} : invC (kX3_carry c i y n t).2 := by
  by_cases hy : y = 0
  · subst hy
    rw [ca_s0]
    exact iv_T (iv_F (iv_C hv))
  · rw [ca_s1 _ _ _ _ _ hy]
    exact iv_T (iv_F (iv_C hv))
theorem ib_C (hv : invB c B) {i m t : Int32} : invB (cC c i m t) B := ⟨iv_C hv.1, fun i hi => by rw [cC_14]; exact hv.2 i hi⟩
theorem sd_C {i m t s : Int32} (h : sdC c N s) : sdC (cC c i m t) N s := by
  unfold sdC
  rw [hs_C]
  exact h
theorem ib_F (hv : invB c B) (h6 : N ≤ 6) (hB : B < 1000000) {v : Int32} (hs : sdC c N v) {k : Nat} (hk : k < 100) (hc : kX3_hasSection c v = 0 ∨ ¬ (c 14 (ix v) < nI k)) : invB (cF c v (nI k)) B := by
  refine ⟨iv_F hv.1, fun i hi => ?_⟩
  unfold cF
  rcases hs with ⟨h1, h2⟩ | ⟨j, hj, rfl, h2⟩
  · rw [if_pos h2]
    exact hv.2 i hi
  · rw [if_neg (show ¬ (kX3_hasSection c (nI j) = 0) by rw [h2]; decide), ix_nI (show j < 2 ^ 31 by omega)]
    rcases hc with hc | hc
    · rw [h2] at hc
      exact absurd hc (by decide)
    · rw [ix_nI (show j < 2 ^ 31 by omega)] at hc
      by_cases e : i = j
      · subst e
        rw [up2_eq]
        obtain ⟨a, ha, ea⟩ := vp_in_of (hv.2 i hi) (by omega)
        rw [ea] at hc ⊢
        rw [nI_ltI (by omega) (by omega)] at hc
        rw [pk_sub (by omega)]
        exact vp_in_nI (by omega) (by omega)
      · rw [up2_ne e]
        exact hv.2 i hi
theorem ib_T (hv : invB c B) (h6 : N ≤ 6) (hB : B < 1000000) {v : Int32} (hs : sdC c N v) {k : Nat} (hk : k < 100) : invB (cT c v (nI k)) (B + k) := by
  refine ⟨iv_T hv.1, fun i hi => ?_⟩
  unfold cT
  rcases hs with ⟨h1, h2⟩ | ⟨j, hj, rfl, h2⟩
  · rw [if_pos h2]
    exact vin_mono (hv.2 i hi) (by omega)
  · rw [if_neg (show ¬ (kX3_hasSection c (nI j) = 0) by rw [h2]; decide), ix_nI (show j < 2 ^ 31 by omega)]
    by_cases e : i = j
    · subst e
      rw [up2_eq]
      obtain ⟨a, ha, ea⟩ := vp_in_of (hv.2 i hi) (by omega)
      rw [ea, nI_add]
      exact vp_in_nI (by omega) (by omega)
    · rw [up2_ne e]
      exact vin_mono (hv.2 i hi) (by omega)
theorem ib_carry (hv : invB c B) (hB : B < 1000000) (hN : c 0 0 = nI N) (h1 : 1 ≤ N) (h6 : N ≤ 6) {i : Nat} (hi : i ≤ N) {y t : Int32} {k : Nat} (hk : k < 100) (hc : ¬ (kX3_canCarry c (nI i) y (nI k) = 0)) : invB (kX3_carry c (nI i) y (nI k) t).2 (B + k) := by
  have hl := sd_left hN h1 h6 hi
  have hr := sd_right hN h6 (show i < 7 by omega)
  have hc2 : ∀ F : Int32, kX3_from c (nI i) y = F → ∀ m : Int32, kX3_hasSection (cC c (nI i) m t) F = 0 ∨ ¬ (cC c (nI i) m t 14 (ix F) < nI k) := by
    intro F hF m
    unfold kX3_canCarry at hc
    rw [hF] at hc
    rw [hs_C, cC_14]
    by_cases q : kX3_hasSection c F = 0
    · exact Or.inl q
    · refine Or.inr (fun q2 => ?_)
      rw [if_neg q, if_pos q2] at hc
      exact hc rfl
  by_cases hy : y = 0
  · subst hy
    rw [ca_s0]
    exact ib_T (ib_F (ib_C hv) h6 hB (sd_C hl) hk (hc2 _ (if_pos rfl) _)) h6 hB (sd_F (sd_C hr)) hk
  · rw [ca_s1 _ _ _ _ _ hy]
    exact ib_T (ib_F (ib_C hv) h6 hB (sd_C hr) hk (hc2 _ (if_neg hy) _)) h6 hB (sd_F (sd_C hl)) hk
theorem ib_up (hv : invB c B) {K i : Nat} {v : Int32} (hc : invC (up2 c K i v)) (hK : K ≠ 14) : invB (up2 c K i v) B := ⟨hc, fun j hj => by rw [up2_o (nbeq (fun q => hK q.symm))]; exact hv.2 j hj⟩
theorem ib_free (hv : invB c B) {K i : Nat} {v : Int32} (hK : K = 4 ∨ K = 5 ∨ K = 8 ∨ K = 10 ∨ K = 11 ∨ K = 13) : invB (up2 c K i v) B := ib_up hv (iv_free hv.1 (by omega)) (by omega)
theorem ib_3 (hv : invB c B) {i : Nat} {v : Int32} (h : vp_in v 4) : invB (up2 c 3 i v) B := ib_up hv (iv_up hv.1 (by decide) (fun q => absurd q (by decide)) (fun q => absurd q (by decide)) (fun q => absurd q (by decide)) (fun q => absurd q (by decide)) (fun _ => h)) (by decide)
theorem ib_6 (hv : invB c B) {i : Nat} {v : Int32} (h : v = 0 ∨ v = 1) : invB (up2 c 6 i v) B := ib_up hv (iv_up hv.1 (by decide) (fun q => absurd q (by decide)) (fun _ => h) (fun q => absurd q (by decide)) (fun q => absurd q (by decide)) (fun q => absurd q (by decide))) (by decide)
theorem ib_12 (hv : invB c B) {i : Nat} {v : Int32} (h : vp_in v 4) : invB (up2 c 12 i v) B := ib_up hv (iv_up hv.1 (by decide) (fun _ => h) (fun q => absurd q (by decide)) (fun q => absurd q (by decide)) (fun q => absurd q (by decide)) (fun q => absurd q (by decide))) (by decide)
theorem ib_wheel (hv : invB c B) {i : Int32} : invB (kX3_countWheel c i).2 B := by
  unfold kX3_countWheel
  split
  · exact ib_free (ib_free hv (by decide)) (by decide)
  · split
    · exact ib_free (ib_free hv (by decide)) (by decide)
    · exact hv
theorem ib_step (hv : invB c B) {i b : Int32} (hb : vp_in b 4) : invB (kX3_stepTo c i b).2 B := by
  unfold kX3_stepTo
  split
  · exact ib_6 hv (Or.inr rfl)
  · split
    · exact ib_wheel (ib_free (ib_3 hv hb) (by decide))
    · exact ib_wheel (ib_free (ib_3 hv hb) (by decide))
end BND
/-! time by draws -/
section TM
variable {f0 : Nat → Nat → Int32} {w : Nat → Int32} {c g : Nat → Nat → Int32} {r : Nat → Nat → Int32} {N B : Nat}
theorem emb_83 {v : Int32} : upd (emb w 0 r) 83 v = emb (upd w 83 v) 0 r := by
  funext j
  unfold upd emb
  by_cases h : j = 83
  · rw [if_pos h, if_neg (by omega)]
    exact (if_pos h).symm
  · rw [if_neg h]
    by_cases hr : 0 ≤ j ∧ j < 0 + 83
    · rw [if_pos hr, if_pos hr]
    · rw [if_neg hr, if_neg hr]
      exact (if_neg h).symm
theorem q_draw {s : Int32} (hs : w 83 = s) (h0 : 0 ≤ s) (x : Int32) : kX6_draw (rM f0 w 0 r) x = (remI (seedK s / 65536) x, rM f0 (upd w 83 (seedK s)) 0 r) := by
  have e : rM f0 w 0 r 0 (ix 83) = s := (emb_out (x := 0) (r := r) (j := 83) (Or.inr (by decide))).trans hs
  rw [draw_eq, e, seed_eq h0]
  unfold rM
  rw [show ix 83 = 83 from rfl, rp_up, emb_83]
theorem sK0 (s : Int32) : 0 ≤ seedK s := by
  obtain ⟨k, hk, e⟩ := seedK_j s
  rw [e]
  exact nI_0le hk
theorem next_1 {x : Int32} (h : 1 ≤ x) : (kX1_next c g x).1 = remI (seedK (g 7 0) / 65536) x := by
  unfold kX1_next
  rw [if_pos h]
  rfl
theorem hd1 (hok : okL c) : 1 ≤ kX3_heads c ∧ 1 ≤ ((1 : Int32) <<< ((kX3_heads c) &&& 31)) := by
  obtain ⟨H, h1, h7, e⟩ := heads_j hok
  rw [e]
  refine ⟨nI_le (a := 1) (by omega) (by omega), ?_⟩
  rcases (show H = 1 ∨ H = 2 ∨ H = 3 ∨ H = 4 ∨ H = 5 ∨ H = 6 ∨ H = 7 by omega) with rfl | rfl | rfl | rfl | rfl | rfl | rfl <;> decide
theorem drift_64 (hok : okL c) : ∃ g5, kX5_driftOnce c g = kX5_driftOnce_64 c g5 (remI (seedK (g 7 0) / 65536) (kX3_heads c)) (remI (seedK (seedK (g 7 0)) / 65536) 2) (remI (seedK (seedK (seedK (g 7 0))) / 65536) 3 + 1) (remI (seedK (seedK (seedK (seedK (g 7 0)))) / 65536) 16) (remI (seedK (seedK (seedK (seedK (seedK (g 7 0))))) / 65536) ((1 : Int32) <<< ((kX3_heads c) &&& 31))) := by
  rw [driftOnce_eq]
  simp only [next_1 (hd1 hok).1, next_1 (hd1 hok).2, next_1 (show (1 : Int32) ≤ 2 by decide), next_1 (show (1 : Int32) ≤ 3 by decide), next_1 (show (1 : Int32) ≤ 16 by decide), next_2, up2_eq]
  exact ⟨_, rfl⟩
theorem sdiv (s : Int32) {n : Nat} (h0 : 0 < n) (hn : n < 2 ^ 31) : ∃ k, k < n ∧ remI (seedK s / 65536) (nI n) = nI k := by
  obtain ⟨k, hk, e⟩ := seedK_j s
  refine ⟨k / 65536 % n, Nat.mod_lt _ h0, ?_⟩
  unfold remI
  rw [e, show (65536 : Int32) = nI 65536 from rfl, pk_div (by omega) (by decide) (by decide), pk_rem (by omega) h0 hn]
theorem q_time43 (hv : invC c) (hN : c 0 0 = nI N) (h1 : 1 ≤ N) (h6 : N ≤ 6) {i : Nat} (hi : i ≤ N) (y n z l : Int32) : kX6_time_43 (rM f0 w 0 (nE c)) (nI i) y n z l = rM f0 w 0 (nE (kX5_driftOnce_64 c g (nI i) y n z l).1) := by
  have tk : ∀ (d : Nat → Nat → Int32) (y : Int32), invC d → kX6_tickIn (rM f0 w 0 (nE d)) 0 y = rM f0 w 0 (nE (kX3_pass d y)) := fun d y hd => (q_tick (x := 0) (by omega) y hd (Or.inl rfl)).1
  have tg : ∀ t l : Int32, kX6_tickIn (kX6_goOver (rM f0 w 0 (nE c)) (nI i) y n t).2 0 l = rM f0 w 0 (nE (kX3_pass (kX3_carry c (nI i) y n t).2 l)) := fun t l => by
    rw [q_go hv.2.1 hN h1 h6 hi]
    exact tk _ _ (iv_carry hv)
  unfold kX6_time_43 kX5_driftOnce_64
  rw [q_canGo hv.2.1 hN h1 h6 hi, q_feels (by omega), tk _ _ hv, tk _ _ hv, tg, tg, tg, tg]
  by_cases a : kX3_canCarry c (nI i) y n = 0
  · rw [if_pos a, if_pos a]
    by_cases b : 4 ≤ z
    · rw [if_pos b, if_pos b]
    · rw [if_neg b, if_neg b]
  · rw [if_neg a, if_neg a]
    by_cases d : z = 0
    · rw [if_pos d, if_pos d]
      by_cases b : 4 ≤ z
      · rw [if_pos b, if_pos b]
      · rw [if_neg b, if_neg b]
    · rw [if_neg d, if_neg d]
      by_cases e : kX3_feelsAll c (nI i) = 0
      · rw [if_pos e, if_pos e]
        by_cases b : 4 ≤ z
        · rw [if_pos b, if_pos b]
        · rw [if_neg b, if_neg b]
      · rw [if_neg e, if_neg e]
        by_cases b : 4 ≤ z
        · rw [if_pos b, if_pos b]
        · rw [if_neg b, if_neg b]
theorem ib_64 (hv : invB c B) (hB : B < 1000000) (hN : c 0 0 = nI N) (h1 : 1 ≤ N) (h6 : N ≤ 6) {i : Nat} (hi : i ≤ N) {k : Nat} (hk : k ≤ 3) (y z l : Int32) : invB (kX5_driftOnce_64 c g (nI i) y (nI k) z l).1 (B + 3) := by
  unfold kX5_driftOnce_64
  by_cases a : kX3_canCarry c (nI i) y (nI k) = 0
  · rw [if_pos a]
    split
    · exact ib_mono (by omega) (ib_pass hv _)
    · exact ib_mono (by omega) (ib_pass hv _)
  · rw [if_neg a]
    have q : ∀ t l : Int32, invB (kX3_pass (kX3_carry c (nI i) y (nI k) t).2 l) (B + 3) := fun t l => ib_mono (by omega) (ib_pass (ib_carry hv hB hN h1 h6 hi (by omega) a) l)
    repeat' split
    all_goals exact q _ _
def seed5 (s : Int32) : Int32 := seedK (seedK (seedK (seedK (seedK s))))
theorem upd_upd {v u : Int32} {j : Nat} : upd (upd w j v) j u = upd w j u := by
  funext q
  unfold upd
  by_cases h : q = j
  · rw [if_pos h, if_pos h]
  · rw [if_neg h, if_neg h, if_neg h]
theorem q_time (hv : invB c B) (hB : B < 1000000) (hs : w 83 = g 7 0) (h0 : 0 ≤ g 7 0) : kX6_time (rM f0 w 0 (nE c)) = rM f0 (upd w 83 (seed5 (g 7 0))) 0 (nE (kX5_driftOnce c g).1) ∧ invB (kX5_driftOnce c g).1 (B + 3) := by
  obtain ⟨N, h1, h6, hN⟩ := okL_j hv.1.1
  obtain ⟨H, g1, g7, hH⟩ := heads_j hv.1.1
  have hHN := heads_N hN h6 hH g7
  have hh : ∀ w' : Nat → Int32, kX6_heads (rM f0 w' 0 (nE c)) = kX3_heads c := fun w' => q_heads hdM_0 hv.1.2.1
  obtain ⟨g5, e5⟩ := drift_64 (g := g) hv.1.1
  rw [e5]
  have D1 := q_draw (f0 := f0) (r := nE c) hs h0 (kX3_heads c)
  have D2 := q_draw (f0 := f0) (r := nE c) (w := upd w 83 (seedK (g 7 0))) (s := seedK (g 7 0)) (if_pos rfl) (sK0 _) 2
  rw [upd_upd] at D2
  have D3 := q_draw (f0 := f0) (r := nE c) (w := upd w 83 (seedK (seedK (g 7 0)))) (s := seedK (seedK (g 7 0))) (if_pos rfl) (sK0 _) 3
  rw [upd_upd] at D3
  have D4 := q_draw (f0 := f0) (r := nE c) (w := upd w 83 (seedK (seedK (seedK (g 7 0))))) (s := seedK (seedK (seedK (g 7 0)))) (if_pos rfl) (sK0 _) 16
  rw [upd_upd] at D4
  have D5 := q_draw (f0 := f0) (r := nE c) (w := upd w 83 (seedK (seedK (seedK (seedK (g 7 0)))))) (s := seedK (seedK (seedK (seedK (g 7 0))))) (if_pos rfl) (sK0 _) ((1 : Int32) <<< ((kX3_heads c) &&& 31))
  rw [upd_upd] at D5
  have e : kX6_time (rM f0 w 0 (nE c)) = kX6_time_43 (rM f0 (upd w 83 (seed5 (g 7 0))) 0 (nE c)) (remI (seedK (g 7 0) / 65536) (kX3_heads c)) (remI (seedK (seedK (g 7 0)) / 65536) 2) (remI (seedK (seedK (seedK (g 7 0))) / 65536) 3 + 1) (remI (seedK (seedK (seedK (seedK (g 7 0)))) / 65536) 16) (remI (seedK (seedK (seedK (seedK (seedK (g 7 0))))) / 65536) ((1 : Int32) <<< ((kX3_heads c) &&& 31))) := by
    unfold kX6_time
    simp only [hh, D1, D2, D3, D4, D5]
    rfl
  rw [e]
  obtain ⟨i, hi, ei⟩ := sdiv (g 7 0) (n := H) (by omega) (by omega)
  obtain ⟨k, hk, ek⟩ := sdiv (seedK (seedK (g 7 0))) (n := 3) (by omega) (by omega)
  rw [show (3 : Int32) = nI 3 from rfl, ek, nI_1]
  rw [hH]
  rw [ei]
  exact ⟨q_time43 hv.1 hN h1 h6 (by omega) _ _ _ _, ib_64 hv hB hN h1 h6 (by omega) (by omega) _ _ _⟩
theorem drift_g : (kX5_driftOnce c g).2 7 0 = seed5 (g 7 0) ∧ ∀ K, K ≠ 7 → (kX5_driftOnce c g).2 K = g K := by
  rw [drift_2]
  refine ⟨up2_eq, fun K hK => ?_⟩
  rw [up2_o (nbeq hK), up2_o (nbeq hK), up2_o (nbeq hK), up2_o (nbeq hK), up2_o (nbeq hK)]
end TM
