/-! the numbers of a Line stay within their bounds; a whole tick -/
theorem ivC_eq {c c' : Nat → Nat → Int32} (hv : invC c) (h0 : c' 0 0 = c 0 0) (h1 : c' 1 0 = c 1 0) (h2 : c' 2 0 = c 2 0) (h12 : ∀ i, i < 6 → vp_in (c' 12 i) 4) (h6 : ∀ i, i < 7 → c' 6 i = 0 ∨ c' 6 i = 1) (h7 : ∀ i, i < 7 → vp_in (c' 7 i) 16) (h9 : ∀ i, i < 7 → vp_in (c' 9 i) 100) (h3 : ∀ i, i < 7 → vp_in (c' 3 i) 4) : invC c' := by
  obtain ⟨a0, a1, -, -, -, -, a2, -⟩ := hv
  refine ⟨?_, ?_, h12, h6, h7, h9, ?_, h3⟩
  · show 0 < c' 0 0 ∧ c' 0 0 ≤ 6
    rw [h0]
    exact a0
  · rw [h1]
    exact a1
  · rw [h2]
    exact a2
theorem iv_up {c : Nat → Nat → Int32} {K i : Nat} {v : Int32} (hv : invC c) (hK : K ≠ 0 ∧ K ≠ 1 ∧ K ≠ 2) (h12 : K = 12 → vp_in v 4) (h6 : K = 6 → v = 0 ∨ v = 1) (h7 : K = 7 → vp_in v 16) (h9 : K = 9 → vp_in v 100) (h3 : K = 3 → vp_in v 4) : invC (up2 c K i v) := by
  obtain ⟨a0, a1, b12, b6, b7, b9, a2, b3⟩ := id hv
  have o : ∀ k, k ≠ K → up2 c K i v k = c k := fun k hk => up2_o (nbeq hk)
  refine ivC_eq hv (by rw [o 0 (by omega)]) (by rw [o 1 (by omega)]) (by rw [o 2 (by omega)]) (fun j hj => ?_) (fun j hj => ?_) (fun j hj => ?_) (fun j hj => ?_) (fun j hj => ?_)
  · by_cases e : 12 = K
    · subst e
      by_cases q : j = i
      · subst q
        rw [up2_eq]
        exact h12 rfl
      · rw [up2_ne q]
        exact b12 j hj
    · rw [o 12 e]
      exact b12 j hj
  · by_cases e : 6 = K
    · subst e
      by_cases q : j = i
      · subst q
        rw [up2_eq]
        exact h6 rfl
      · rw [up2_ne q]
        exact b6 j hj
    · rw [o 6 e]
      exact b6 j hj
  · by_cases e : 7 = K
    · subst e
      by_cases q : j = i
      · subst q
        rw [up2_eq]
        exact h7 rfl
      · rw [up2_ne q]
        exact b7 j hj
    · rw [o 7 e]
      exact b7 j hj
  · by_cases e : 9 = K
    · subst e
      by_cases q : j = i
      · subst q
        rw [up2_eq]
        exact h9 rfl
      · rw [up2_ne q]
        exact b9 j hj
    · rw [o 9 e]
      exact b9 j hj
  · by_cases e : 3 = K
    · subst e
      by_cases q : j = i
      · subst q
        rw [up2_eq]
        exact h3 rfl
      · rw [up2_ne q]
        exact b3 j hj
    · rw [o 3 e]
      exact b3 j hj
theorem iv_free {c : Nat → Nat → Int32} {K i : Nat} {v : Int32} (hv : invC c) (hK : K = 4 ∨ K = 5 ∨ K = 8 ∨ K = 10 ∨ K = 11 ∨ K = 13 ∨ K = 14) : invC (up2 c K i v) := iv_up hv (by omega) (fun q => by omega) (fun q => by omega) (fun q => by omega) (fun q => by omega) (fun q => by omega)
theorem iv_add {c : Nat → Nat → Int32} {v m : Int32} (hv : invC c) : invC (kX3_addToSum c v m) := by
  unfold kX3_addToSum
  split
  · exact hv
  · exact iv_free hv (by decide)
theorem iv_recv {c : Nat → Nat → Int32} {i : Int32} (hv : invC c) : invC (kX3_receive c i) := by
  have h15 : ∀ z : Int32, vp_in (z &&& 15) 16 := fun z => pk_andIn z 4 (by decide) (by decide)
  have tl : ∀ (d : Nat → Nat → Int32) (z u : Int32), invC d → invC (up2 (up2 (up2 d 7 (ix i) (z &&& 15)) 8 (ix i) u) 9 (ix i) 0) := fun d z u hd =>
    iv_up (iv_free (iv_up hd (by decide) (fun q => absurd q (by decide)) (fun q => absurd q (by decide)) (fun _ => h15 z) (fun q => absurd q (by decide)) (fun q => absurd q (by decide))) (by decide)) (by decide) (fun q => absurd q (by decide)) (fun q => absurd q (by decide)) (fun q => absurd q (by decide)) (fun _ => vin_c (by decide)) (fun q => absurd q (by decide))
  unfold kX3_receive
  split
  · exact tl _ _ _ (iv_add (iv_add hv))
  · exact tl _ _ _ (iv_add (iv_add hv))
theorem iv_hear {c : Nat → Nat → Int32} {i : Nat} {lost : Int32} (hv : invC c) (hi : i < 7) : invC (cHear c i lost) := by
  unfold cHear
  split
  · exact iv_recv hv
  · by_cases hlt : 99 ≤ c 9 i
    · rw [if_pos hlt]
      exact hv
    · rw [if_neg hlt]
      refine iv_up hv (by decide) (fun q => absurd q (by decide)) (fun q => absurd q (by decide)) (fun q => absurd q (by decide)) (fun _ => ?_) (fun q => absurd q (by decide))
      obtain ⟨j, hj, e⟩ := vp_in_of (hv.2.2.2.2.2.1 i hi) (by decide)
      rw [e] at hlt ⊢
      have h9 : ¬ (nI 99 ≤ nI j) := hlt
      rw [nI_leI (by omega) (by omega)] at h9
      rw [nI_1]
      exact vp_in_nI (by omega) (by decide)
theorem iv_judge {c : Nat → Nat → Int32} {s : Int32} (hv : invC c) : invC (kX3_judge c s) := by
  have k12 : ∀ v : Int32, vp_in v 4 → invC (up2 c 12 (ix s) v) := fun v h => iv_up hv (by decide) (fun _ => h) (fun q => absurd q (by decide)) (fun q => absurd q (by decide)) (fun q => absurd q (by decide)) (fun q => absurd q (by decide))
  unfold kX3_judge kX3_judgeSweep
  split
  · split
    · split
      · split
        · exact k12 _ (vin_c (by decide))
        · exact hv
      · exact iv_free hv (by decide)
    · split
      · exact hv
      · split
        · exact k12 _ (vin_c (by decide))
        · exact k12 _ (vin_c (by decide))
  · exact k12 _ (vin_c (by decide))
theorem iv_joint {c : Nat → Nat → Int32} {h a b : Int32} (hv : invC c) : invC (kX3_judgeJoint c h a b) := by
  have k12 : ∀ (d : Nat → Nat → Int32) (q : Nat), invC d → invC (up2 d 12 q 0) := fun d q hd => iv_up hd (by decide) (fun _ => vin_c (by decide)) (fun q => absurd q (by decide)) (fun q => absurd q (by decide)) (fun q => absurd q (by decide)) (fun q => absurd q (by decide))
  have hl : invC (kX3_heal c h a b) := by
    unfold kX3_heal
    exact iv_free (k12 _ _ (k12 _ _ (iv_free (iv_free hv (by decide)) (by decide)))) (by decide)
  have key : invC (if kX3_joint c h ≤ 0 then (if kX3_canHeal c h a b = 0 then c else kX3_heal c h a b) else up2 c 10 (ix h) 1) := by
    split
    · split
      · exact hv
      · exact hl
    · exact iv_free hv (by decide)
  unfold kX3_judgeJoint
  split
  · exact key
  · split
    · exact key
    · exact iv_free hv (by decide)
/-! what no step of a tick changes -/
theorem hd_recv {c : Nat → Nat → Int32} {i : Int32} : kX3_receive c i 0 = c 0 ∧ kX3_receive c i 1 = c 1 ∧ kX3_receive c i 2 = c 2 := by
  have a : ∀ (d : Nat → Nat → Int32) (v m : Int32) (K : Nat), K ≠ 11 → kX3_addToSum d v m K = d K := fun d v m K h => add_o h
  have tl : ∀ (d : Nat → Nat → Int32) (q : Nat) (z u t : Int32) (K : Nat), K < 7 → up2 (up2 (up2 d 7 q z) 8 q u) 9 q t K = d K := fun d q z u t K h => by
    rw [up2_o (nbeq (by omega)), up2_o (nbeq (by omega)), up2_o (nbeq (by omega))]
  unfold kX3_receive
  split
  · refine ⟨?_, ?_, ?_⟩ <;> rw [tl _ _ _ _ _ _ (by decide), a _ _ _ _ (by decide), a _ _ _ _ (by decide)]
  · refine ⟨?_, ?_, ?_⟩ <;> rw [tl _ _ _ _ _ _ (by decide), a _ _ _ _ (by decide), a _ _ _ _ (by decide)]
theorem hd_hear {c : Nat → Nat → Int32} {i : Nat} {lost : Int32} : cHear c i lost 0 = c 0 ∧ cHear c i lost 1 = c 1 := by
  unfold cHear
  split
  · exact ⟨hd_recv.1, hd_recv.2.1⟩
  · split
    · exact ⟨rfl, rfl⟩
    · exact ⟨rfl, rfl⟩
theorem hd_judge {c : Nat → Nat → Int32} {s : Int32} : kX3_judge c s 0 = c 0 ∧ kX3_judge c s 1 = c 1 := by
  unfold kX3_judge kX3_judgeSweep
  repeat' split
  all_goals exact ⟨rfl, rfl⟩
theorem hd_joint {c : Nat → Nat → Int32} {h a b : Int32} : kX3_judgeJoint c h a b 0 = c 0 ∧ kX3_judgeJoint c h a b 1 = c 1 := by
  unfold kX3_judgeJoint kX3_heal
  repeat' split
  all_goals exact ⟨rfl, rfl⟩
theorem heads_eq {c c' : Nat → Nat → Int32} (h0 : c' 0 = c 0) (h1 : c' 1 = c 1) : kX3_heads c' = kX3_heads c := by
  unfold kX3_heads
  rw [h0, h1]
section PS
variable {f0 : Nat → Nat → Int32} {w : Nat → Int32} {x : Nat} {N H : Nat}
theorem heads_N {c : Nat → Nat → Int32} (hN : c 0 0 = nI N) (h6 : N ≤ 6) (hH : kX3_heads c = nI H) (hH7 : H ≤ 7) : H ≤ N + 1 := by
  unfold kX3_heads at hH
  rw [hN] at hH
  split at hH
  · rw [nI_1, nI_eq (by omega) (by omega)] at hH
    omega
  · rw [nI_eq (by omega) (by omega)] at hH
    omega
theorem q_t2 (hx : x ≤ 1596) (h1 : 1 ≤ N) (h6 : N ≤ 6) (hH7 : H ≤ 7) (y : Int32) : ∀ (n i : Nat) (c : Nat → Nat → Int32), invC c → hdW w x c → c 0 0 = nI N → kX3_heads c = nI H → i ≤ H → H - i < n → kX6_tickIn_2 (nI x) y n i (rM f0 w x (nE c)) = kX6_tickIn_29 (nI x) y 7 0 (rM f0 w x (nE (kX3_hear_2 y n i c))) := by
  intro n
  induction n with
  | zero => exact fun i c _ _ _ _ _ h => absurd h (Nat.not_lt_zero _)
  | succ n ih =>
    intro i c hv hw hN hH hi hn
    have hHN := heads_N hN h6 hH hH7
    unfold kX6_tickIn_2 kX3_hear_2
    rw [q_heads (hdM_of hw) hv.2.1, hH]
    by_cases hc : nI H ≤ nI i
    · rw [if_pos hc, if_pos hc]
    · rw [if_neg hc, if_neg hc]
      rw [nI_leI (by omega) (by omega)] at hc
      have st : ∀ lost : Int32, kX6_tickIn_2 (nI x) y n (i + 1) (kX6_hear (rM f0 w x (nE c)) (nI x) (nI i) lost) = kX6_tickIn_29 (nI x) y 7 0 (rM f0 w x (nE (kX3_hear_2 y n (i + 1) (cHear c i lost)))) := by
        intro lost
        rw [q_hear hx hw hv hN h1 h6 (show i ≤ N by omega) lost]
        exact ih (i + 1) (cHear c i lost) (iv_hear hv (by omega)) (hdW_of hw (by rw [hd_hear.1]) (by rw [hd_hear.2])) (by rw [hd_hear.1]; exact hN) ((heads_eq hd_hear.1 hd_hear.2).trans hH) (by omega) (by omega)
      have hhas : kX6_has (rM f0 w x (nE c)) y (nI i) = if ((y >>> (nI i &&& 31)) &&& 1) = 1 then 1 else 0 := rfl
      rw [hhas]
      obtain ⟨b, hb, e⟩ := pk_andE (y >>> (nI i &&& 31)) (m := 1) 1 (by decide)
      rcases (show b = 0 ∨ b = 1 by omega) with rfl | rfl
      · rw [e, if_neg (by decide), if_pos (show nI 0 = 0 from rfl), st 0]
        unfold cHear
        rw [if_pos rfl]
      · rw [e, if_pos (show nI 1 = 1 from rfl), if_neg (by decide), st 1]
        unfold cHear
        rw [if_neg (by decide), ix_nI (show i < 2 ^ 31 by omega)]
        by_cases h9 : 99 ≤ c 9 i
        · rw [if_pos h9, if_pos h9]
        · rw [if_neg h9, if_neg h9]
theorem q_t29 (hx : x ≤ 1596) (h1 : 1 ≤ N) (h6 : N ≤ 6) (y : Int32) : ∀ (n i : Nat) (c : Nat → Nat → Int32), invC c → hdW w x c → c 0 0 = nI N → i ≤ N → N - i < n → ∃ d, invC d ∧ d 0 = c 0 ∧ d 1 = c 1 ∧ kX6_tickIn_29 (nI x) y n i (rM f0 w x (nE c)) = kX6_tickIn_53 (nI x) y 8 0 (rM f0 w x (nE d)) ∧ kX3_pass_7 y n i c = kX3_pass_28 y 8 0 d := by
  intro n
  induction n with
  | zero => exact fun i c _ _ _ _ h => absurd h (Nat.not_lt_zero _)
  | succ n ih =>
    intro i c hv hw hN hi hn
    unfold kX6_tickIn_29 kX3_pass_7
    have e0 : rM f0 w x (nE c) 0 (ix 0) = c 0 0 := (hdM_of hw).1
    rw [e0, hN]
    by_cases hc : nI N ≤ nI i
    · rw [if_pos hc, if_pos hc]
      exact ⟨c, hv, rfl, rfl, rfl, rfl⟩
    · rw [if_neg hc, if_neg hc]
      rw [nI_leI (by omega) (by omega)] at hc
      rw [q_judge hx hw hv hN h6 (show i < N by omega)]
      obtain ⟨d, a1, a2, a3, a4, a5⟩ := ih (i + 1) (kX3_judge c (nI i)) (iv_judge hv) (hdW_of hw (by rw [hd_judge.1]) (by rw [hd_judge.2])) (by rw [hd_judge.1]; exact hN) (by omega) (by omega)
      exact ⟨d, a1, a2.trans hd_judge.1, a3.trans hd_judge.2, a4, a5⟩
theorem q_t53 (hx : x ≤ 1596) (h1 : 1 ≤ N) (h6 : N ≤ 6) (hH7 : H ≤ 7) (y : Int32) : ∀ (n i : Nat) (c : Nat → Nat → Int32), invC c → hdW w x c → c 0 0 = nI N → kX3_heads c = nI H → i ≤ H → H - i < n → kX6_tickIn_53 (nI x) y n i (rM f0 w x (nE c)) = rM f0 w x (nE (kX3_pass_28 y n i c)) ∧ invC (kX3_pass_28 y n i c) ∧ kX3_pass_28 y n i c 0 = c 0 ∧ kX3_pass_28 y n i c 1 = c 1 := by
  intro n
  induction n with
  | zero => exact fun i c _ _ _ _ _ h => absurd h (Nat.not_lt_zero _)
  | succ n ih =>
    intro i c hv hw hN hH hi hn
    have hHN := heads_N hN h6 hH hH7
    unfold kX6_tickIn_53 kX3_pass_28
    rw [q_heads (hdM_of hw) hv.2.1, hH]
    by_cases hc : nI H ≤ nI i
    · rw [if_pos hc, if_pos hc]
      have ej : ix (nI x + 2) = x + offM 2 + 0 := by
        rw [show (2 : Int32) = nI 2 from rfl, nI_add, ix_nI (by omega)]
        rfl
      rw [rM_rd (K := 2) (i := 0) (by decide) (by decide) ej, rM_wr (K := 2) (i := 0) (by decide) (by decide) ej, rM_wr (K := 2) (i := 0) (by decide) (by decide) ej, show nE c 2 0 = c 2 0 from rfl]
      obtain ⟨t, ht, et⟩ := vp_in_of hv.2.2.2.2.2.2.1 (by decide)
      by_cases h9 : 9999 ≤ c 2 0
      · rw [if_pos h9, if_pos h9]
        refine ⟨?_, hv, rfl, rfl⟩
        rw [up2_same]
        rw [et] at h9
        have h9' : nI 9999 ≤ nI t := h9
        rw [nI_leI (by omega) (by omega)] at h9'
        show c 2 0 = 9999
        rw [et, show t = 9999 by omega]
        rfl
      · rw [if_neg h9, if_neg h9]
        refine ⟨by rw [nE_up (by decide) (by decide)], ?_, rfl, rfl⟩
        obtain ⟨b0, b1, b12, b6, b7, b9, b2, b3⟩ := hv
        refine ⟨b0, b1, b12, b6, b7, b9, ?_, b3⟩
        rw [up2_eq]
        rw [et] at h9 ⊢
        have h9' : ¬ (nI 9999 ≤ nI t) := h9
        rw [nI_leI (by omega) (by omega)] at h9'
        rw [nI_1]
        exact vp_in_nI (by omega) (by decide)
    · rw [if_neg hc, if_neg hc]
      rw [nI_leI (by omega) (by omega)] at hc
      rw [q_joins hw hv.2.1 hN h1 h6 (show i ≤ N by omega)]
      by_cases hj : kX3_joins c (nI i) = 0
      · rw [if_pos hj, if_pos hj]
        exact ih (i + 1) c hv hw hN hH (by omega) (by omega)
      · rw [if_neg hj, if_neg hj, q_sweep hx hw hv hN h1 h6 (show i ≤ N by omega) hj]
        obtain ⟨a1, a2, a3, a4⟩ := ih (i + 1) (kX3_judgeJoint c (nI i) (kX3_leftOf c (nI i)) (kX3_rightOf c (nI i))) (iv_joint hv) (hdW_of hw (by rw [hd_joint.1]) (by rw [hd_joint.2])) (by rw [hd_joint.1]; exact hN) ((heads_eq hd_joint.1 hd_joint.2).trans hH) (by omega) (by omega)
        exact ⟨a1, a2, a3.trans hd_joint.1, a4.trans hd_joint.2⟩
theorem hear2_hd (y : Int32) : ∀ (n i : Nat) (c : Nat → Nat → Int32), invC c → i ≤ 7 → invC (kX3_hear_2 y n i c) ∧ kX3_hear_2 y n i c 0 = c 0 ∧ kX3_hear_2 y n i c 1 = c 1 := by
  intro n
  induction n with
  | zero => exact fun i c h _ => ⟨h, rfl, rfl⟩
  | succ n ih =>
    intro i c hv hi
    unfold kX3_hear_2
    split
    · exact ⟨hv, rfl, rfl⟩
    · have hlt : i < 7 := il_lt (heads_le hv.1) (by decide) hi (by assumption)
      have st : ∀ lost : Int32, invC (kX3_hear_2 y n (i + 1) (cHear c i lost)) ∧ kX3_hear_2 y n (i + 1) (cHear c i lost) 0 = c 0 ∧ kX3_hear_2 y n (i + 1) (cHear c i lost) 1 = c 1 := fun lost => by
        obtain ⟨a, b, d⟩ := ih (i + 1) (cHear c i lost) (iv_hear hv hlt) hlt
        exact ⟨a, b.trans hd_hear.1, d.trans hd_hear.2⟩
      split
      · have := st 0
        unfold cHear at this
        rw [if_pos rfl] at this
        exact this
      · have s1 := st 1
        unfold cHear at s1
        rw [if_neg (by decide)] at s1
        rw [ix_nI (show i < 2 ^ 31 by omega)]
        by_cases h9 : 99 ≤ c 9 i
        · rw [if_pos h9] at s1 ⊢
          exact s1
        · rw [if_neg h9] at s1 ⊢
          exact s1
/-- a tick of the reference is a tick of the class -/
theorem q_tick (hx : x ≤ 1596) (y : Int32) {c : Nat → Nat → Int32} (hv : invC c) (hw : hdW w x c) : kX6_tickIn (rM f0 w x (nE c)) (nI x) y = rM f0 w x (nE (kX3_pass c y)) ∧ invC (kX3_pass c y) ∧ kX3_pass c y 0 = c 0 ∧ kX3_pass c y 1 = c 1 := by
  obtain ⟨N, h1, h6, hN⟩ := okL_j hv.1
  obtain ⟨H, g1, g7, hH⟩ := heads_j hv.1
  unfold kX6_tickIn kX3_pass kX3_hear
  rw [q_t2 hx h1 h6 g7 y 8 0 c hv hw hN hH (by omega) (by omega)]
  obtain ⟨a1, a2, a3⟩ := hear2_hd y 8 0 c hv (by omega)
  generalize kX3_hear_2 y 8 0 c = c1 at a1 a2 a3 ⊢
  have hw1 : hdW w x c1 := hdW_of hw (by rw [a2]) (by rw [a3])
  obtain ⟨d, b1, b2, b3, b4, b5⟩ := q_t29 (f0 := f0) hx h1 h6 y 7 0 c1 a1 hw1 (by rw [a2]; exact hN) (by omega) (by omega)
  rw [b4, b5]
  obtain ⟨e1, e2, e3, e4⟩ := q_t53 (f0 := f0) hx h1 h6 g7 y 8 0 d b1 (hdW_of hw1 (by rw [b2]) (by rw [b3])) (by rw [b2, a2]; exact hN) ((heads_eq (b2.trans a2) (b3.trans a3)).trans hH) (by omega) (by omega)
  exact ⟨e1, e2, e3.trans (b2.trans a2), e4.trans (b3.trans a3)⟩
end PS
