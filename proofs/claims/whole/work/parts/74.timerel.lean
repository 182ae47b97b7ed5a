/-! what belongs to a Line of the class keeps within bounds -/
section OT
variable {c g M : Nat → Nat → Int32} {B p k i : Nat}
theorem rel_ok (h : Rel c g M B p k) : okM M := by
  have e : M 0 (ix 0) = c 0 0 := h.2.1 0 (by decide) 0 (by decide)
  unfold okM
  rw [e]
  exact h.1.1.1
theorem rel_kn (h : Rel c g M B p k) : vp_in (M 1 0) 17 := by
  rw [h.2.2.2.1.2.1.2.2]
  exact vp_in_nI (by have := h.2.2.2.1.2.1.1; omega) (by decide)
theorem rel_sd (h : Rel c g M B p k) : 0 ≤ M 0 (ix 83) := by
  have e : M 0 (ix 83) = g 7 0 := h.2.2.1.1
  rw [e]
  exact h.2.2.1.2
theorem rel_bk (h : Rel c g M B p k) : vp_in (M 5 0) 21 := by
  rw [h.2.2.2.2.2.1]
  exact h.2.2.2.2.2.2.1
theorem rel_nx (h : Rel c g M B p k) : vp_in (g 2 0) 16 := by
  rw [h.2.2.2.1.1.2]
  exact vp_in_nI h.2.2.2.1.1.1 (by decide)
theorem rel_sz (h : Rel c g M B p k) : vp_in (g 3 0) 17 := by
  rw [h.2.2.2.1.2.1.2.1]
  exact vp_in_nI (by have := h.2.2.2.1.2.1.1; omega) (by decide)
def okT (f : Nat → Nat → Int32) (i : Nat) : Prop := ∃ c g B p k, Rel c g f B p k ∧ B + 3 * (16 - i) < 1000000
theorem t_ok (h : okT M i) : okM M := by
  obtain ⟨c, g, B, p, k, h, -⟩ := h
  exact rel_ok h
theorem t_kn (h : okT M i) : vp_in (M 1 0) 17 := by
  obtain ⟨c, g, B, p, k, h, -⟩ := h
  exact rel_kn h
theorem t_sd (h : okT M i) : 0 ≤ M 0 (ix 83) := by
  obtain ⟨c, g, B, p, k, h, -⟩ := h
  exact rel_sd h
theorem t_step (h : okT M i) (hi : i < 16) : okT (kX6_time (kX6_remember M)) (i + 1) := by
  obtain ⟨c, g, B, p, k, h, hB⟩ := h
  have h1 := rel_rem h
  generalize kX6_remember M = M1 at h1 ⊢
  exact ⟨_, _, _, _, _, z_once h1 (by omega), by omega⟩
end OT
