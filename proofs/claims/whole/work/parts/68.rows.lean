/-! rows put away and taken back: what a row of the class and one of the reference hold of a Line -/
theorem cp_no {f g : Nat → Int32} {sp dp n k : Nat} (h : ¬ (dp ≤ k ∧ k < dp + n)) : va_cpy f g sp dp n k = g k := if_neg h
theorem cp_in {f g : Nat → Int32} {sp dp n k : Nat} (h : dp ≤ k ∧ k < dp + n) : va_cpy f g sp dp n k = f (sp + (k - dp)) := if_pos h
theorem pk_3 {c : Nat → Nat → Int32} {r : Nat → Int32} {i : Nat} (hi : i < 7) : pkL c r (3 + i) = c 3 i := by
  unfold pkL
  rw [cp_no (by omega), cp_no (by omega), cp_no (by omega), cp_no (by omega), cp_no (by omega), cp_no (by omega), cp_no (by omega), cp_no (by omega), cp_no (by omega), cp_no (by omega), cp_no (by omega), cp_in (by omega), show 0 + (3 + i - 3) = i by omega]
theorem un_3 {f : Nat → Nat → Int32} {r : Nat → Int32} {i : Nat} (hi : i < 7) : unL f r 3 i = r (3 + i) := by
  show va_cpy r (f 3) 3 0 7 i = _
  rw [cp_in (by omega), show i - 0 = i by omega]
theorem pk_4 {c : Nat → Nat → Int32} {r : Nat → Int32} {i : Nat} (hi : i < 7) : pkL c r (10 + i) = c 4 i := by
  unfold pkL
  rw [cp_no (by omega), cp_no (by omega), cp_no (by omega), cp_no (by omega), cp_no (by omega), cp_no (by omega), cp_no (by omega), cp_no (by omega), cp_no (by omega), cp_no (by omega), cp_in (by omega), show 0 + (10 + i - 10) = i by omega]
theorem un_4 {f : Nat → Nat → Int32} {r : Nat → Int32} {i : Nat} (hi : i < 7) : unL f r 4 i = r (10 + i) := by
  show va_cpy r (f 4) 10 0 7 i = _
  rw [cp_in (by omega), show i - 0 = i by omega]
theorem pk_5 {c : Nat → Nat → Int32} {r : Nat → Int32} {i : Nat} (hi : i < 7) : pkL c r (17 + i) = c 5 i := by
  unfold pkL
  rw [cp_no (by omega), cp_no (by omega), cp_no (by omega), cp_no (by omega), cp_no (by omega), cp_no (by omega), cp_no (by omega), cp_no (by omega), cp_no (by omega), cp_in (by omega), show 0 + (17 + i - 17) = i by omega]
theorem un_5 {f : Nat → Nat → Int32} {r : Nat → Int32} {i : Nat} (hi : i < 7) : unL f r 5 i = r (17 + i) := by
  show va_cpy r (f 5) 17 0 7 i = _
  rw [cp_in (by omega), show i - 0 = i by omega]
theorem pk_6 {c : Nat → Nat → Int32} {r : Nat → Int32} {i : Nat} (hi : i < 7) : pkL c r (24 + i) = c 6 i := by
  unfold pkL
  rw [cp_no (by omega), cp_no (by omega), cp_no (by omega), cp_no (by omega), cp_no (by omega), cp_no (by omega), cp_no (by omega), cp_no (by omega), cp_in (by omega), show 0 + (24 + i - 24) = i by omega]
theorem un_6 {f : Nat → Nat → Int32} {r : Nat → Int32} {i : Nat} (hi : i < 7) : unL f r 6 i = r (24 + i) := by
  show va_cpy r (f 6) 24 0 7 i = _
  rw [cp_in (by omega), show i - 0 = i by omega]
theorem pk_7 {c : Nat → Nat → Int32} {r : Nat → Int32} {i : Nat} (hi : i < 7) : pkL c r (31 + i) = c 7 i := by
  unfold pkL
  rw [cp_no (by omega), cp_no (by omega), cp_no (by omega), cp_no (by omega), cp_no (by omega), cp_no (by omega), cp_no (by omega), cp_in (by omega), show 0 + (31 + i - 31) = i by omega]
theorem un_7 {f : Nat → Nat → Int32} {r : Nat → Int32} {i : Nat} (hi : i < 7) : unL f r 7 i = r (31 + i) := by
  show va_cpy r (f 7) 31 0 7 i = _
  rw [cp_in (by omega), show i - 0 = i by omega]
theorem pk_8 {c : Nat → Nat → Int32} {r : Nat → Int32} {i : Nat} (hi : i < 7) : pkL c r (38 + i) = c 8 i := by
  unfold pkL
  rw [cp_no (by omega), cp_no (by omega), cp_no (by omega), cp_no (by omega), cp_no (by omega), cp_no (by omega), cp_in (by omega), show 0 + (38 + i - 38) = i by omega]
theorem un_8 {f : Nat → Nat → Int32} {r : Nat → Int32} {i : Nat} (hi : i < 7) : unL f r 8 i = r (38 + i) := by
  show va_cpy r (f 8) 38 0 7 i = _
  rw [cp_in (by omega), show i - 0 = i by omega]
theorem pk_9 {c : Nat → Nat → Int32} {r : Nat → Int32} {i : Nat} (hi : i < 7) : pkL c r (45 + i) = c 9 i := by
  unfold pkL
  rw [cp_no (by omega), cp_no (by omega), cp_no (by omega), cp_no (by omega), cp_no (by omega), cp_in (by omega), show 0 + (45 + i - 45) = i by omega]
theorem un_9 {f : Nat → Nat → Int32} {r : Nat → Int32} {i : Nat} (hi : i < 7) : unL f r 9 i = r (45 + i) := by
  show va_cpy r (f 9) 45 0 7 i = _
  rw [cp_in (by omega), show i - 0 = i by omega]
theorem pk_10 {c : Nat → Nat → Int32} {r : Nat → Int32} {i : Nat} (hi : i < 7) : pkL c r (52 + i) = c 10 i := by
  unfold pkL
  rw [cp_no (by omega), cp_no (by omega), cp_no (by omega), cp_no (by omega), cp_in (by omega), show 0 + (52 + i - 52) = i by omega]
theorem un_10 {f : Nat → Nat → Int32} {r : Nat → Int32} {i : Nat} (hi : i < 7) : unL f r 10 i = r (52 + i) := by
  show va_cpy r (f 10) 52 0 7 i = _
  rw [cp_in (by omega), show i - 0 = i by omega]
theorem pk_11 {c : Nat → Nat → Int32} {r : Nat → Int32} {i : Nat} (hi : i < 6) : pkL c r (59 + i) = c 11 i := by
  unfold pkL
  rw [cp_no (by omega), cp_no (by omega), cp_no (by omega), cp_in (by omega), show 0 + (59 + i - 59) = i by omega]
theorem un_11 {f : Nat → Nat → Int32} {r : Nat → Int32} {i : Nat} (hi : i < 6) : unL f r 11 i = r (59 + i) := by
  show va_cpy r (f 11) 59 0 6 i = _
  rw [cp_in (by omega), show i - 0 = i by omega]
theorem pk_12 {c : Nat → Nat → Int32} {r : Nat → Int32} {i : Nat} (hi : i < 6) : pkL c r (65 + i) = c 12 i := by
  unfold pkL
  rw [cp_no (by omega), cp_no (by omega), cp_in (by omega), show 0 + (65 + i - 65) = i by omega]
theorem un_12 {f : Nat → Nat → Int32} {r : Nat → Int32} {i : Nat} (hi : i < 6) : unL f r 12 i = r (65 + i) := by
  show va_cpy r (f 12) 65 0 6 i = _
  rw [cp_in (by omega), show i - 0 = i by omega]
theorem pk_13 {c : Nat → Nat → Int32} {r : Nat → Int32} {i : Nat} (hi : i < 6) : pkL c r (71 + i) = c 13 i := by
  unfold pkL
  rw [cp_no (by omega), cp_in (by omega), show 0 + (71 + i - 71) = i by omega]
theorem un_13 {f : Nat → Nat → Int32} {r : Nat → Int32} {i : Nat} (hi : i < 6) : unL f r 13 i = r (71 + i) := by
  show va_cpy r (f 13) 71 0 6 i = _
  rw [cp_in (by omega), show i - 0 = i by omega]
theorem pk_14 {c : Nat → Nat → Int32} {r : Nat → Int32} {i : Nat} (hi : i < 6) : pkL c r (77 + i) = c 14 i := by
  unfold pkL
  rw [cp_in (by omega), show 0 + (77 + i - 77) = i by omega]
theorem un_14 {f : Nat → Nat → Int32} {r : Nat → Int32} {i : Nat} (hi : i < 6) : unL f r 14 i = r (77 + i) := by
  show va_cpy r (f 14) 77 0 6 i = _
  rw [cp_in (by omega), show i - 0 = i by omega]
theorem pk_h0 {c : Nat → Nat → Int32} {r : Nat → Int32} : pkL c r 0 = c 0 0 := by
  unfold pkL
  rw [cp_no (by omega), cp_no (by omega), cp_no (by omega), cp_no (by omega), cp_no (by omega), cp_no (by omega), cp_no (by omega), cp_no (by omega), cp_no (by omega), cp_no (by omega), cp_no (by omega), cp_no (by omega)]
  rfl
theorem pk_h1 {c : Nat → Nat → Int32} {r : Nat → Int32} : pkL c r 1 = (if c 1 0 = 0 then 0 else 1) := by
  unfold pkL
  rw [cp_no (by omega), cp_no (by omega), cp_no (by omega), cp_no (by omega), cp_no (by omega), cp_no (by omega), cp_no (by omega), cp_no (by omega), cp_no (by omega), cp_no (by omega), cp_no (by omega), cp_no (by omega)]
  rfl
theorem pk_h2 {c : Nat → Nat → Int32} {r : Nat → Int32} : pkL c r 2 = c 2 0 := by
  unfold pkL
  rw [cp_no (by omega), cp_no (by omega), cp_no (by omega), cp_no (by omega), cp_no (by omega), cp_no (by omega), cp_no (by omega), cp_no (by omega), cp_no (by omega), cp_no (by omega), cp_no (by omega), cp_no (by omega)]
  rfl
theorem un_h0 {f : Nat → Nat → Int32} {r : Nat → Int32} : unL f r 0 0 = r 0 := rfl
theorem un_h1 {f : Nat → Nat → Int32} {r : Nat → Int32} : unL f r 1 0 = if r 1 = 1 then 1 else 0 := rfl
theorem un_h2 {f : Nat → Nat → Int32} {r : Nat → Int32} : unL f r 2 0 = r 2 := rfl
/-- two Lines agree where there is something -/
def ag (c d : Nat → Nat → Int32) : Prop := ∀ K, K < 15 → ∀ i, i < lenM K → c K i = d K i
theorem ag_rfl {c : Nat → Nat → Int32} : ag c c := fun _ _ _ _ => rfl
theorem ag_symm {c d : Nat → Nat → Int32} (h : ag c d) : ag d c := fun K hK i hi => (h K hK i hi).symm
theorem ag_trans {c d e : Nat → Nat → Int32} (h : ag c d) (h2 : ag d e) : ag c e := fun K hK i hi => (h K hK i hi).trans (h2 K hK i hi)
theorem ag_all {c d : Nat → Nat → Int32} (h0 : c 0 0 = d 0 0) (h1 : c 1 0 = d 1 0) (h2 : c 2 0 = d 2 0)
    (h3 : ∀ i, i < 7 → c 3 i = d 3 i)    (h4 : ∀ i, i < 7 → c 4 i = d 4 i)    (h5 : ∀ i, i < 7 → c 5 i = d 5 i)    (h6 : ∀ i, i < 7 → c 6 i = d 6 i)    (h7 : ∀ i, i < 7 → c 7 i = d 7 i)    (h8 : ∀ i, i < 7 → c 8 i = d 8 i)    (h9 : ∀ i, i < 7 → c 9 i = d 9 i)    (h10 : ∀ i, i < 7 → c 10 i = d 10 i)    (h11 : ∀ i, i < 6 → c 11 i = d 11 i)    (h12 : ∀ i, i < 6 → c 12 i = d 12 i)    (h13 : ∀ i, i < 6 → c 13 i = d 13 i)    (h14 : ∀ i, i < 6 → c 14 i = d 14 i) : ag c d := by
  intro K hK i hi
  rcases (show K = 0 ∨ K = 1 ∨ K = 2 ∨ K = 3 ∨ K = 4 ∨ K = 5 ∨ K = 6 ∨ K = 7 ∨ K = 8 ∨ K = 9 ∨ K = 10 ∨ K = 11 ∨ K = 12 ∨ K = 13 ∨ K = 14 by omega) with rfl | rfl | rfl | rfl | rfl | rfl | rfl | rfl | rfl | rfl | rfl | rfl | rfl | rfl | rfl
  · have e : i = 0 := by
      have q : i < 1 := hi
      omega
    rw [e]
    exact h0
  · have e : i = 0 := by
      have q : i < 1 := hi
      omega
    rw [e]
    exact h1
  · have e : i = 0 := by
      have q : i < 1 := hi
      omega
    rw [e]
    exact h2
  · exact h3 i hi
  · exact h4 i hi
  · exact h5 i hi
  · exact h6 i hi
  · exact h7 i hi
  · exact h8 i hi
  · exact h9 i hi
  · exact h10 i hi
  · exact h11 i hi
  · exact h12 i hi
  · exact h13 i hi
  · exact h14 i hi
theorem ag_un {f f' : Nat → Nat → Int32} {r : Nat → Int32} : ag (unL f r) (unL f' r) :=
  ag_all (by rw [un_h0, un_h0]) (by rw [un_h1, un_h1]) (by rw [un_h2, un_h2]) (fun i hi => by rw [un_3 hi, un_3 hi]) (fun i hi => by rw [un_4 hi, un_4 hi]) (fun i hi => by rw [un_5 hi, un_5 hi]) (fun i hi => by rw [un_6 hi, un_6 hi]) (fun i hi => by rw [un_7 hi, un_7 hi]) (fun i hi => by rw [un_8 hi, un_8 hi]) (fun i hi => by rw [un_9 hi, un_9 hi]) (fun i hi => by rw [un_10 hi, un_10 hi]) (fun i hi => by rw [un_11 hi, un_11 hi]) (fun i hi => by rw [un_12 hi, un_12 hi]) (fun i hi => by rw [un_13 hi, un_13 hi]) (fun i hi => by rw [un_14 hi, un_14 hi])
theorem ag_pk {f c : Nat → Nat → Int32} {r : Nat → Int32} (hr : c 1 0 = 0 ∨ c 1 0 = 1) : ag (unL f (pkL c r)) c := by
  refine ag_all (by rw [un_h0, pk_h0]) ?_ (by rw [un_h2, pk_h2]) (fun i hi => by rw [un_3 hi, pk_3 hi]) (fun i hi => by rw [un_4 hi, pk_4 hi]) (fun i hi => by rw [un_5 hi, pk_5 hi]) (fun i hi => by rw [un_6 hi, pk_6 hi]) (fun i hi => by rw [un_7 hi, pk_7 hi]) (fun i hi => by rw [un_8 hi, pk_8 hi]) (fun i hi => by rw [un_9 hi, pk_9 hi]) (fun i hi => by rw [un_10 hi, pk_10 hi]) (fun i hi => by rw [un_11 hi, pk_11 hi]) (fun i hi => by rw [un_12 hi, pk_12 hi]) (fun i hi => by rw [un_13 hi, pk_13 hi]) (fun i hi => by rw [un_14 hi, pk_14 hi])
  rw [un_h1, pk_h1]
  rcases hr with h | h
  · rw [h]
    rfl
  · rw [h]
    rfl
theorem nE_ag {c d : Nat → Nat → Int32} (h : ag c d) : ag (nE c) (nE d) := by
  intro K hK i hi
  by_cases h13 : K = 13
  · subst h13
    rw [nE_e, nE_e, h 12 (by decide) i hi, h 13 (by decide) i hi]
  · rw [nE_o h13, nE_o h13, h K hK i hi]
theorem iv_ag {c d : Nat → Nat → Int32} (h : ag c d) (hv : invC c) : invC d := by
  obtain ⟨a0, a1, b12, b6, b7, b9, a2, b3⟩ := id hv
  exact ivC_eq hv (h 0 (by decide) 0 (by decide)).symm (h 1 (by decide) 0 (by decide)).symm (h 2 (by decide) 0 (by decide)).symm (fun i hi => by rw [← h 12 (by decide) i hi]; exact b12 i hi) (fun i hi => by rw [← h 6 (by decide) i hi]; exact b6 i hi) (fun i hi => by rw [← h 7 (by decide) i hi]; exact b7 i hi) (fun i hi => by rw [← h 9 (by decide) i hi]; exact b9 i hi) (fun i hi => by rw [← h 3 (by decide) i hi]; exact b3 i hi)
/-- within bounds, and at most B axles in a section -/
def invB (c : Nat → Nat → Int32) (B : Nat) : Prop := invC c ∧ ∀ i, i < 6 → vp_in (c 14 i) (B + 1)
theorem ib_ag {c d : Nat → Nat → Int32} {B : Nat} (h : ag c d) (hv : invB c B) : invB d B := ⟨iv_ag h hv.1, fun i hi => by rw [← h 14 (by decide) i hi]; exact hv.2 i hi⟩
theorem ib_mono {c : Nat → Nat → Int32} {B B' : Nat} (h : B ≤ B') (hv : invB c B) : invB c B' := ⟨hv.1, fun i hi => vin_mono (hv.2 i hi) (by omega)⟩
/-! copyRow, remember -/
theorem cr_2 {X Y : Nat} (hX : X ≤ 1596) (hY : Y ≤ 1596) (hd : X + 84 ≤ Y ∨ Y + 84 ≤ X) : ∀ (n i : Nat) (f : Nat → Nat → Int32), i ≤ 84 → 84 - i < n → ∀ j, kX6_copyRow_2 (nI X) (nI Y) n i f 0 j = if Y + i ≤ j ∧ j < Y + 84 then f 0 (X + (j - Y)) else f 0 j := by
  intro n
  induction n with
  | zero => exact fun i f _ h => absurd h (Nat.not_lt_zero _)
  | succ n ih =>
    intro i f hi hn j
    unfold kX6_copyRow_2
    by_cases hc : 84 ≤ nI i
    · have hc' : nI 84 ≤ nI i := hc
      rw [nI_leI (by omega) (by omega)] at hc'
      rw [if_pos hc, if_neg (by omega)]
    · have hc' : ¬ (nI 84 ≤ nI i) := hc
      rw [nI_leI (by omega) (by omega)] at hc'
      rw [if_neg hc, ih (i + 1) _ (by omega) (by omega) j, nI_add, nI_add, ix_nI (by omega), ix_nI (by omega)]
      by_cases h1 : Y + (i + 1) ≤ j ∧ j < Y + 84
      · rw [if_pos h1, if_pos (by omega), up2_ne (by omega)]
      · rw [if_neg h1]
        by_cases h2 : j = Y + i
        · subst h2
          rw [up2_eq, if_pos (by omega), show Y + i - Y = i by omega]
        · rw [up2_ne h2, if_neg (by omega)]
theorem cr_sem {f : Nat → Nat → Int32} {X Y : Nat} (hX : X ≤ 1596) (hY : Y ≤ 1596) (hd : X + 84 ≤ Y ∨ Y + 84 ≤ X) (j : Nat) : kX6_copyRow f (nI X) (nI Y) 0 j = if Y ≤ j ∧ j < Y + 84 then f 0 (X + (j - Y)) else f 0 j := cr_2 hX hY hd 85 0 f (by omega) (by omega) j
theorem m84n (i : Nat) : (84 : Int32) * nI i = nI (84 * i) := pk_mul 84 i
theorem rm_11 : ∀ (n i : Nat) (f : Nat → Nat → Int32), 1 ≤ i → i ≤ 16 → 16 - i < n → f 1 0 = 16 → (∀ j, kX6_remember_11 n i f 0 j = if 1344 ≤ j ∧ j < 1428 then f 0 (j - 1344) else if 84 * i ≤ j ∧ j < 1344 then f 0 (j + 84) else f 0 j) ∧ kX6_remember_11 n i f 1 0 = 16 ∧ ∀ K, kX6_remember_11 n i f (K + 2) = f (K + 2) := by
  intro n
  induction n with
  | zero => exact fun i f _ _ h => absurd h (Nat.not_lt_zero _)
  | succ n ih =>
    intro i f h1 hi hn he
    unfold kX6_remember_11
    by_cases hc : 16 ≤ nI i
    · have hc' : nI 16 ≤ nI i := hc
      rw [nI_leI (by omega) (by omega)] at hc'
      have e16 : i = 16 := by omega
      subst e16
      rw [if_pos hc]
      have ey : (84 : Int32) * ((f 1 0 - 1) + 1) = nI 1344 := by
        rw [he]
        decide
      rw [ey]
      refine ⟨fun j => ?_, ?_, fun K => ?_⟩
      · rw [up2_o (K := 1) (K' := 0) rfl, show (0 : Int32) = nI 0 from rfl, cr_sem (by omega) (by omega) (by omega), up2_o (K := 1) (K' := 0) rfl]
        by_cases hj : 1344 ≤ j ∧ j < 1344 + 84
        · rw [if_pos hj, if_pos (by omega), Nat.zero_add]
        · rw [if_neg hj, if_neg (by omega), if_neg (by omega)]
      · rw [up2_eq, cr_1, up2_eq, he]
        decide
      · rw [up2_o (K := 1) (K' := K + 2) (nbeq (by omega)), cr_K (K + 1), up2_o (K := 1) (K' := K + 1 + 1) (nbeq (by omega))]
    · have hc' : ¬ (nI 16 ≤ nI i) := hc
      rw [nI_leI (by omega) (by omega)] at hc'
      rw [if_neg hc, nI_1, m84n, m84n]
      obtain ⟨a, b, d⟩ := ih (i + 1) (kX6_copyRow f (nI (84 * (i + 1))) (nI (84 * i))) (by omega) (by omega) (by omega) (cr_kn he)
      refine ⟨fun j => ?_, b, fun K => (d K).trans (cr_K (K + 1))⟩
      rw [a j]
      simp only [cr_sem (f := f) (X := 84 * (i + 1)) (Y := 84 * i) (by omega) (by omega) (by omega)]
      by_cases hj : 1344 ≤ j ∧ j < 1428
      · rw [if_pos hj, if_pos hj, if_neg (by omega)]
      · rw [if_neg hj, if_neg hj]
        by_cases h2 : 84 * (i + 1) ≤ j ∧ j < 1344
        · rw [if_pos h2, if_neg (by omega), if_pos (by omega)]
        · rw [if_neg h2]
          by_cases h3 : 84 * i ≤ j ∧ j < 84 * i + 84
          · rw [if_pos h3, if_pos (by omega), show 84 * (i + 1) + (j - 84 * i) = j + 84 by omega]
          · rw [if_neg h3, if_neg (by omega)]
theorem rm_16 {f : Nat → Nat → Int32} (he : f 1 0 = 16) : (∀ j, kX6_remember f 0 j = if 1344 ≤ j ∧ j < 1428 then f 0 (j - 1344) else if 84 ≤ j ∧ j < 1344 then f 0 (j + 84) else f 0 j) ∧ kX6_remember f 1 0 = 16 ∧ ∀ K, kX6_remember f (K + 2) = f (K + 2) := by
  unfold kX6_remember
  rw [if_pos he]
  exact rm_11 16 1 f (by omega) (by omega) (by omega) he
theorem rm_k {f : Nat → Nat → Int32} {k : Nat} (hk : k < 16) (he : f 1 0 = nI k) : (∀ j, kX6_remember f 0 j = if 84 * (k + 1) ≤ j ∧ j < 84 * (k + 1) + 84 then f 0 (j - 84 * (k + 1)) else f 0 j) ∧ kX6_remember f 1 0 = nI (k + 1) ∧ ∀ K, kX6_remember f (K + 2) = f (K + 2) := by
  unfold kX6_remember
  rw [if_neg (show ¬ (f 1 0 = 16) from fun q => by have q' : nI k = nI 16 := he.symm.trans q; rw [nI_eq (by omega) (by omega)] at q'; omega), he, nI_1, m84n]
  refine ⟨fun j => ?_, ?_, fun K => ?_⟩
  · rw [up2_o (K := 1) (K' := 0) rfl, show (0 : Int32) = nI 0 from rfl, cr_sem (by omega) (by omega) (by omega)]
    by_cases hj : 84 * (k + 1) ≤ j ∧ j < 84 * (k + 1) + 84
    · rw [if_pos hj, if_pos hj, Nat.zero_add]
    · rw [if_neg hj, if_neg hj]
  · rw [up2_eq, cr_1, he, nI_1]
  · rw [up2_o (K := 1) (K' := K + 2) (nbeq (by omega)), cr_K (K + 1)]
