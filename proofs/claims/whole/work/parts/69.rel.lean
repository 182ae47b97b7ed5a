/-! the class's state and the reference's belong together -/
def rowR (M : Nat → Nat → Int32) (X : Nat) (d : Nat → Nat → Int32) : Prop := ∀ K, K < 15 → ∀ i, i < lenM K → M 0 (X + offM K + i) = nE d K i
def zL : Nat → Nat → Int32 := fun _ _ => 0
def pix (p k t : Nat) : Nat := 14 + (p + 16 - k + t) % 16
def pastR (g M : Nat → Nat → Int32) (B p k : Nat) : Prop := (p < 16 ∧ g 2 0 = nI p) ∧ (k ≤ 16 ∧ g 3 0 = nI k ∧ M 1 0 = nI k) ∧ ∀ t, t < k → invB (unL zL (g (pix p k t))) B ∧ rowR M (84 * (t + 1)) (unL zL (g (pix p k t)))
def imgR (g M : Nat → Nat → Int32) (B : Nat) : Prop := (∀ i, i < 2 → g 11 i = 0 ∨ g 11 i = 1) ∧ M 2 0 = g 11 0 + 2 * g 11 1 ∧ ∀ i, i < 2 → g 11 i = 1 → invB (unL zL (g (12 + i))) B ∧ rowR M (1428 + 84 * i) (unL zL (g (12 + i))) ∧ M 0 (1428 + 84 * i + 83) = g 10 i ∧ 0 ≤ g 10 i
def Rel (c g M : Nat → Nat → Int32) (B p k : Nat) : Prop := invB c B ∧ rowR M 0 c ∧ (M 0 83 = g 7 0 ∧ 0 ≤ g 7 0) ∧ pastR g M B p k ∧ imgR g M B ∧ bkR M g
theorem lt_off {K i : Nat} (hK : K < 15) (hi : i < lenM K) : offM K + i < 83 := (kOf_off K hK i hi).2
theorem M_eq {c M : Nat → Nat → Int32} (h : rowR M 0 c) : M = rM M (M 0) 0 (nE c) := by
  have e : emb (M 0) 0 (nE c) = M 0 := by
    rw [← emb_congr (r := fun K i => M 0 (0 + offM K + i)) h]
    exact emb_self
  unfold rM
  rw [e]
  funext k
  cases k with
  | zero => rfl
  | succ k => rfl
theorem rM_row {M : Nat → Nat → Int32} {w : Nat → Int32} {c : Nat → Nat → Int32} : rowR (rM M w 0 (nE c)) 0 c := fun K hK i hi => rM_rd hK hi rfl
theorem rM_hi {M : Nat → Nat → Int32} {w : Nat → Int32} {r : Nat → Nat → Int32} {j : Nat} (h : 83 ≤ j) : rM M w 0 r 0 j = w j := emb_out (by omega)
theorem rowR_mv {M M' : Nat → Nat → Int32} {X Y : Nat} {d : Nat → Nat → Int32} (h : rowR M X d) (he : ∀ j, j < 83 → M' 0 (Y + j) = M 0 (X + j)) : rowR M' Y d := fun K hK i hi => by
  rw [Nat.add_assoc, he _ (lt_off hK hi), ← Nat.add_assoc]
  exact h K hK i hi
theorem rowR_ag {M : Nat → Nat → Int32} {X : Nat} {d e : Nat → Nat → Int32} (h : rowR M X d) (ha : ag d e) : rowR M X e := fun K hK i hi => (h K hK i hi).trans (nE_ag ha K hK i hi)
/-- only the Line changes -/
theorem rel_row {c c' g M : Nat → Nat → Int32} {B B' p k : Nat} (h : Rel c g M B p k) (hB : B ≤ B') (hc : invB c' B') : Rel c' g (rM M (M 0) 0 (nE c')) B' p k := by
  obtain ⟨-, -, ⟨s1, s2⟩, ⟨p1, ⟨p2, p3, p4⟩, p5⟩, ⟨i1, i2, i3⟩, b⟩ := h
  refine ⟨hc, rM_row, ⟨(rM_hi (by omega)).trans s1, s2⟩, ⟨p1, ⟨p2, p3, p4⟩, fun t ht => ⟨ib_mono hB (p5 t ht).1, rowR_mv (p5 t ht).2 (fun j _ => rM_hi (by omega))⟩⟩, ⟨i1, i2, fun i hi h1 => ?_⟩, b⟩
  obtain ⟨a1, a2, a3, a4⟩ := i3 i hi h1
  exact ⟨ib_mono hB a1, rowR_mv a2 (fun j _ => rM_hi (by omega)), (rM_hi (by omega)).trans a3, a4⟩
theorem rel_mono {c g M : Nat → Nat → Int32} {B B' p k : Nat} (h : Rel c g M B p k) (hB : B ≤ B') : Rel c g M B' p k := by
  obtain ⟨a, b, s, ⟨p1, p2, p5⟩, ⟨i1, i2, i3⟩, q⟩ := h
  exact ⟨ib_mono hB a, b, s, ⟨p1, p2, fun t ht => ⟨ib_mono hB (p5 t ht).1, (p5 t ht).2⟩⟩, ⟨i1, i2, fun i hi h1 => ⟨ib_mono hB (i3 i hi h1).1, (i3 i hi h1).2⟩⟩, q⟩
/-- what is put away ahead of a deed -/
theorem padd {c g : Nat → Nat → Int32} {p k : Nat} (hp : p < 16) (ep : g 2 0 = nI p) (hk : k ≤ 16) (ek : g 3 0 = nI k) : kX4_add c g 2 0 = nI ((p + 1) % 16) ∧ kX4_add c g 3 0 = nI (min (k + 1) 16) ∧ kX4_add c g (14 + p) = pkL c (g (14 + p)) ∧ ∀ r, r ≠ 2 → r ≠ 3 → r ≠ 14 + p → kX4_add c g r = g r := by
  unfold kX4_add
  rw [ep, ix_nI (show p < 2 ^ 31 by omega), rp_ne (show 3 ≠ 14 + p by omega), rp_ne (show 2 ≠ 14 + p by omega), ep, ek, nI_1, rm16 (by omega)]
  by_cases h : 16 ≤ nI k
  · have h' : nI 16 ≤ nI k := h
    rw [nI_leI (by omega) (by omega)] at h'
    rw [if_pos h]
    refine ⟨up2_eq, ?_, ?_, fun r h2 h3 hr => ?_⟩
    · rw [up2_o (K := 2) (K' := 3) rfl, rp_ne (by omega), ek, show min (k + 1) 16 = k by omega]
    · rw [up2_o (nbeq (by omega)), rp_eq]
    · rw [up2_o (nbeq h2), rp_ne hr]
  · have h' : ¬ (nI 16 ≤ nI k) := h
    rw [nI_leI (by omega) (by omega)] at h'
    rw [if_neg h, nI_1]
    refine ⟨?_, ?_, ?_, fun r h2 h3 hr => ?_⟩
    · rw [up2_o (K := 3) (K' := 2) rfl, up2_eq]
    · rw [up2_eq, show min (k + 1) 16 = k + 1 by omega]
    · rw [up2_o (nbeq (by omega)), up2_o (nbeq (by omega)), rp_eq]
    · rw [up2_o (nbeq h3), up2_o (nbeq h2), rp_ne hr]
theorem rel_rem {c g M : Nat → Nat → Int32} {B p k : Nat} (h : Rel c g M B p k) : Rel c (kX4_add c g) (kX6_remember M) B ((p + 1) % 16) (min (k + 1) 16) := by
  obtain ⟨hc, hr0, ⟨s1, s2⟩, ⟨⟨p1, ep⟩, ⟨k1, ek, em⟩, p5⟩, ⟨i1, i2, i3⟩, b1, b2, b3⟩ := h
  obtain ⟨g2, g3, gr, go⟩ := padd (c := c) p1 ep k1 ek
  have hlow : (∀ j, j < 84 → kX6_remember M 0 j = M 0 j) ∧ (∀ j, 1428 ≤ j → kX6_remember M 0 j = M 0 j) ∧ kX6_remember M 1 0 = nI (min (k + 1) 16) ∧ (∀ K, kX6_remember M (K + 2) = M (K + 2)) ∧ ∀ t, t < min (k + 1) 16 → (pix ((p + 1) % 16) (min (k + 1) 16) t = 14 + p ∧ ∀ d, d < 83 → kX6_remember M 0 (84 * (t + 1) + d) = M 0 (0 + d)) ∨ (∃ t', t' < k ∧ pix ((p + 1) % 16) (min (k + 1) 16) t = pix p k t' ∧ pix p k t' ≠ 14 + p ∧ ∀ d, d < 83 → kX6_remember M 0 (84 * (t + 1) + d) = M 0 (84 * (t' + 1) + d)) := by
    by_cases hk : k = 16
    · subst hk
      obtain ⟨a, b, d⟩ := rm_16 (f := M) em
      refine ⟨fun j hj => ?_, fun j hj => ?_, b, d, fun t ht => ?_⟩
      · rw [a j, if_neg (by omega), if_neg (by omega)]
      · rw [a j, if_neg (by omega), if_neg (by omega)]
      · by_cases ht15 : t = 15
        · left
          subst ht15
          refine ⟨by unfold pix; omega, fun d hd => ?_⟩
          rw [a, if_pos (by omega), show 84 * (15 + 1) + d - 1344 = 0 + d by omega]
        · right
          refine ⟨t + 1, by omega, by unfold pix; omega, by unfold pix; omega, fun d hd => ?_⟩
          rw [a, if_neg (by omega), if_pos (by omega), show 84 * (t + 1) + d + 84 = 84 * (t + 1 + 1) + d by omega]
    · obtain ⟨a, b, d⟩ := rm_k (f := M) (k := k) (by omega) em
      refine ⟨fun j hj => ?_, fun j hj => ?_, by rw [b, show min (k + 1) 16 = k + 1 by omega], d, fun t ht => ?_⟩
      · rw [a j, if_neg (by omega)]
      · rw [a j, if_neg (by omega)]
      · by_cases htk : t = k
        · left
          subst htk
          refine ⟨by unfold pix; omega, fun d hd => ?_⟩
          rw [a, if_pos (by omega), show 84 * (t + 1) + d - 84 * (t + 1) = 0 + d by omega]
        · right
          refine ⟨t, by omega, by unfold pix; omega, by unfold pix; omega, fun d hd => ?_⟩
          rw [a, if_neg (by omega)]
  obtain ⟨l1, l2, l3, l4, l5⟩ := hlow
  have hpk : ag (unL zL (kX4_add c g (14 + p))) c := by
    rw [gr]
    exact ag_pk hc.1.2.1
  refine ⟨hc, rowR_mv hr0 (fun j hj => l1 _ (by omega)), ⟨by rw [l1 83 (by omega), go 7 (by omega) (by omega) (by omega)]; exact s1, by rw [go 7 (by omega) (by omega) (by omega)]; exact s2⟩, ⟨⟨Nat.mod_lt _ (by decide), g2⟩, ⟨by omega, g3, l3⟩, fun t ht => ?_⟩, ⟨?_, ?_, ?_⟩, ?_⟩
  · rcases l5 t ht with ⟨e, q⟩ | ⟨t', ht', e, ne, q⟩
    · rw [e]
      exact ⟨ib_ag (ag_symm hpk) hc, rowR_ag (rowR_mv hr0 q) (ag_symm hpk)⟩
    · rw [e, go (pix p k t') (by unfold pix; omega) (by unfold pix; omega) ne]
      exact ⟨(p5 t' ht').1, rowR_mv (p5 t' ht').2 q⟩
  · rw [go 11 (by omega) (by omega) (by omega)]
    exact i1
  · rw [l4 0, go 11 (by omega) (by omega) (by omega)]
    exact i2
  · rw [go 11 (by omega) (by omega) (by omega), go 10 (by omega) (by omega) (by omega)]
    intro i hi h1
    rw [go (12 + i) (by omega) (by omega) (by omega)]
    obtain ⟨a1, a2, a3, a4⟩ := i3 i hi h1
    exact ⟨a1, rowR_mv a2 (fun j _ => l2 _ (by omega)), by rw [l2 _ (by omega)]; exact a3, a4⟩
  · refine ⟨by rw [l4 3, go 4 (by omega) (by omega) (by omega)]; exact b1, by rw [go 4 (by omega) (by omega) (by omega)]; exact b2, fun j hj => ?_⟩
    rw [l4 1, l4 2, go 5 (by omega) (by omega) (by omega), go 6 (by omega) (by omega) (by omega)]
    exact b3 j hj
