/-! the law: its worlds, its cases, its loop -/
theorem rotP {D : va_G} {cl : List vw_C} {u v w : va_W} {H : Heap} (h : va_P D cl (u ++ (v ++ w)) H) : va_P D cl (w ++ (u ++ v)) H := by
  intro k q hk
  have hm := List.mem_of_getElem? hk
  have hm2 : q ∈ u ++ (v ++ w) := by
    rcases List.mem_append.mp hm with h1 | h1
    · exact List.mem_append_right _ (List.mem_append_right _ h1)
    · rcases List.mem_append.mp h1 with h2 | h2
      · exact List.mem_append_left _ h2
      · exact List.mem_append_right _ (List.mem_append_left _ h2)
  obtain ⟨i, hi⟩ := List.getElem?_of_mem hm2
  exact h i q hi
theorem rotP' {D : va_G} {cl : List vw_C} {u v w : va_W} {H : Heap} (h : va_P D cl (w ++ (u ++ v)) H) : va_P D cl (u ++ (v ++ w)) H := by
  rw [← List.append_assoc]
  intro k q hk
  have hm := List.mem_of_getElem? hk
  have hm2 : q ∈ w ++ (u ++ v) := by
    rcases List.mem_append.mp hm with h1 | h1
    · exact List.mem_append_right _ h1
    · exact List.mem_append_left _ h1
  obtain ⟨i, hi⟩ := List.getElem?_of_mem hm2
  exact h i q hi
theorem rot2 {A : Nat → Prop} {u v : va_W} (h : va_D A (u ++ v)) : va_D A (v ++ u) := by
  have key : ∀ (i : Nat) (q : Nat × va_E), (v ++ u)[i]? = some q → (u ++ v)[if i < v.length then u.length + i else i - v.length]? = some q := by
    intro i q hi
    by_cases hl : i < v.length
    · rw [if_pos hl, List.getElem?_append_right (by omega), show u.length + i - u.length = i by omega]
      rw [List.getElem?_append_left hl] at hi
      exact hi
    · rw [if_neg hl]
      rw [List.getElem?_append_right (by omega)] at hi
      have := (List.getElem?_eq_some_iff.mp hi).1
      rw [List.getElem?_append_left this]
      exact hi
  refine ⟨fun i j p q hi hj e => ?_, fun k q hk => h.2 _ q (key k q hk)⟩
  have hij := h.1 _ _ p q (key i p hi) (key j q hj) e
  have li : i < v.length + u.length := by
    have := (List.getElem?_eq_some_iff.mp hi).1
    rw [List.length_append] at this
    exact this
  have lj : j < v.length + u.length := by
    have := (List.getElem?_eq_some_iff.mp hj).1
    rw [List.length_append] at this
    exact this
  by_cases h1 : i < v.length
  · rw [if_pos h1] at hij
    by_cases h2 : j < v.length
    · rw [if_pos h2] at hij
      omega
    · rw [if_neg h2] at hij
      omega
  · rw [if_neg h1] at hij
    by_cases h2 : j < v.length
    · rw [if_pos h2] at hij
      omega
    · rw [if_neg h2] at hij
      omega
theorem rotD {A : Nat → Prop} {u v w : va_W} (h : va_D A (u ++ (v ++ w))) : va_D A (w ++ (u ++ v)) := by
  rw [← List.append_assoc] at h
  exact rot2 h
theorem rotD' {A : Nat → Prop} {u v w : va_W} (h : va_D A (w ++ (u ++ v))) : va_D A (u ++ (v ++ w)) := by
  rw [← List.append_assoc]
  exact rot2 h
def lw_C (p : Program) (s : State) (m : MethodId) (c : Code) (bs L : Nat) (xs : Nat → Int32) (D : va_G) (cI cZ cQ : ClassId) : Prop := CallFix p m c cL_law 4 s #[Value.ref bs] wsL_law RL ∧ va_X bs L xs s s.heap ∧ bs < s.heap.size ∧ va_K D vwCl (TY cI cZ cQ) s ∧ ∃ t, PT t (fun q : Nat => s.heap.size ≤ q) s
def lw_V (s : State) (D : va_G) (cI cZ cQ : ClassId) (h : Nat) (a b : Nat → Nat) (f g : Nat → Nat → Int32) (hm : Nat) (am : Nat → Nat) (M : Nat → Nat → Int32) (H : Heap) (locs : List Loc) : Prop := va_P D vwCl (LW cI h a f ++ (KR cI cZ cQ h b g ++ MW cI hm am M)) H ∧ va_D (fun q : Nat => s.heap.size ≤ q) (LW cI h a f ++ (KR cI cZ cQ h b g ++ MW cI hm am M)) ∧ va_S (fun q : Nat => s.heap.size ≤ q) s.heap H locs
section LC
variable {p : Program} {l : Launch} {e : Env} {s : State} {m : MethodId} {below : List Frame} {meth : Method} {c : Code} {H : Heap} {locs : List Loc} {Q : State → Prop} {bs L : Nat} {xs : Nat → Int32} {D : va_G} {cI cZ cQ : ClassId} {h hm : Nat} {a b am : Nat → Nat} {f g M : Nat → Nat → Int32} {B pp k : Nat} {v3 : Int32} {ls : Array Slot}
set_option maxHeartbeats 4000000 in
set_option maxRecDepth 100000 in
theorem cs_told (C0 : lw_C p s m c bs L xs D cI cZ cQ) (hR : Rel f g M B pp k) (hB : B < 900000) (V : lw_V s D cI cZ cQ h a b f g hm am M H locs) (h1 : vp_in (v3 + 1) L) (h2 : vp_in (v3 + 2) L) (h3 : vp_in (v3 + 3) L) (hl : lv_has ls 4 [(0, .ref bs), (1, .ref (b 0)), (2, .ref hm), (3, .int v3)])
    (kk : ∀ (f' g' M' : Nat → Nat → Int32) (pp' k' : Nat) (H' : Heap) (locs' : List Loc), Rel f' g' M' (B + 48) pp' k' → lw_V s D cI cZ cQ h a b f' g' hm am M' H' locs' → W p l e room_1 s m #[Value.ref bs] below meth c H' locs' 47 3476 Q (F0 m 630 ls [])) : W p l e room_1 s m #[Value.ref bs] below meth c H locs 47 3476 Q (F0 m 120 ls []) := by
  obtain ⟨S, hX, hbl, hK, t, hPT⟩ := C0
  have hx := S.1
  have hb := S.2.1
  have hA : ∀ q : Nat, s.heap.size ≤ q → (fun q : Nat => s.heap.size ≤ q) q := fun _ h => h
  have hbA : ¬ (fun q : Nat => s.heap.size ≤ q) bs := Nat.not_le.mpr hbl
  obtain ⟨hP, hD, hS⟩ := V
  refine lv_aload_n hx hb dL_law_120 rfl (lv_at hl 1 rfl) ?_
  refine lv_aload_n hx hb dL_law_121 rfl (lv_at hl 0 rfl) ?_
  refine lv_iload_n hx hb dL_law_122 rfl (lv_at hl 3 rfl) ?_
  refine lv_iconst (v := 1) hx hb dL_law_123 (by decide) ?_
  refine lv_iadd hx hb dL_law_124 ?_
  refine va_sld hx hb hX hbl hbA hS h1 dL_law_125 ?_
  refine k_rd (As := [.int (xs (v3 + 1).toNatClampNeg)]) (rest := []) (bytes := cX5_told) (C := RX5) S (okX5_told l D cI cZ cQ h a b (MW cI hm am M) f g (xs (v3 + 1).toNatClampNeg) hR.1.1.1) gL_law_X5_told rfl ⟨rfl, rfl⟩ ndX5_told ⟨Nat.le_of_ble_eq_true rfl, Nat.le_of_ble_eq_true rfl⟩ hK hP 13 rfl rfl rfl hl rfl (Nat.le_of_ble_eq_true rfl) dL_law_126 ⟨Nat.le_of_ble_eq_true rfl, Nat.le_of_ble_eq_true rfl⟩ ?_
  have hP1 := hP
  have hP := rotP hP
  refine lv_aload_n hx hb dL_law_129 rfl (lv_at hl 2 rfl) ?_
  refine lv_aload_n hx hb dL_law_130 rfl (lv_at hl 0 rfl) ?_
  refine lv_iload_n hx hb dL_law_131 rfl (lv_at hl 3 rfl) ?_
  refine lv_iconst (v := 1) hx hb dL_law_132 (by decide) ?_
  refine lv_iadd hx hb dL_law_133 ?_
  refine va_sld hx hb hX hbl hbA hS h1 dL_law_134 ?_
  refine k_rd (As := [.int (xs (v3 + 1).toNatClampNeg)]) (rest := [.int (kX5_told f g (xs (v3 + 1).toNatClampNeg))]) (bytes := cX6_told) (C := RX6) S (okX6_told l D cI cZ cQ hm am (LW cI h a f ++ KR cI cZ cQ h b g) M (xs (v3 + 1).toNatClampNeg) (rel_ok hR) (rel_bk hR)) gL_law_X6_told rfl ⟨rfl, rfl⟩ ndX6_told ⟨Nat.le_of_ble_eq_true rfl, Nat.le_of_ble_eq_true rfl⟩ hK hP 0 rfl rfl rfl hl rfl (Nat.le_of_ble_eq_true rfl) dL_law_135 ⟨Nat.le_of_ble_eq_true rfl, Nat.le_of_ble_eq_true rfl⟩ ?_
  refine lv_icmp_eq (tgt := 630) hx hb dL_law_138 (by decide) (fun _ => ?_) (fun q => absurd (z_told hR (xs (v3 + 1).toNatClampNeg)) q)
  exact kk f g M pp k H locs (rel_mono hR (by omega)) ⟨hP1, hD, hS⟩
set_option maxHeartbeats 4000000 in
set_option maxRecDepth 100000 in
theorem cs_section (C0 : lw_C p s m c bs L xs D cI cZ cQ) (hR : Rel f g M B pp k) (hB : B < 900000) (V : lw_V s D cI cZ cQ h a b f g hm am M H locs) (h1 : vp_in (v3 + 1) L) (h2 : vp_in (v3 + 2) L) (h3 : vp_in (v3 + 3) L) (hl : lv_has ls 4 [(0, .ref bs), (1, .ref (b 0)), (2, .ref hm), (3, .int v3)])
    (kk : ∀ (f' g' M' : Nat → Nat → Int32) (pp' k' : Nat) (H' : Heap) (locs' : List Loc), Rel f' g' M' (B + 48) pp' k' → lw_V s D cI cZ cQ h a b f' g' hm am M' H' locs' → W p l e room_1 s m #[Value.ref bs] below meth c H' locs' 47 3476 Q (F0 m 630 ls [])) : W p l e room_1 s m #[Value.ref bs] below meth c H locs 47 3476 Q (F0 m 143 ls []) := by
  obtain ⟨S, hX, hbl, hK, t, hPT⟩ := C0
  have hx := S.1
  have hb := S.2.1
  have hA : ∀ q : Nat, s.heap.size ≤ q → (fun q : Nat => s.heap.size ≤ q) q := fun _ h => h
  have hbA : ¬ (fun q : Nat => s.heap.size ≤ q) bs := Nat.not_le.mpr hbl
  obtain ⟨hP, hD, hS⟩ := V
  refine lv_aload_n hx hb dL_law_143 rfl (lv_at hl 1 rfl) ?_
  refine lv_aload_n hx hb dL_law_144 rfl (lv_at hl 0 rfl) ?_
  refine lv_iload_n hx hb dL_law_145 rfl (lv_at hl 3 rfl) ?_
  refine lv_iconst (v := 1) hx hb dL_law_146 (by decide) ?_
  refine lv_iadd hx hb dL_law_147 ?_
  refine va_sld hx hb hX hbl hbA hS h1 dL_law_148 ?_
  refine lv_aload_n hx hb dL_law_149 rfl (lv_at hl 0 rfl) ?_
  refine lv_iload_n hx hb dL_law_150 rfl (lv_at hl 3 rfl) ?_
  refine lv_iconst (v := 2) hx hb dL_law_151 (by decide) ?_
  refine lv_iadd hx hb dL_law_152 ?_
  refine va_sld hx hb hX hbl hbA hS h2 dL_law_153 ?_
  refine k_rd (As := [.int (xs (v3 + 1).toNatClampNeg), .int (xs (v3 + 2).toNatClampNeg)]) (rest := []) (bytes := cX5_section) (C := RX5) S (okX5_section l D cI cZ cQ h a b (MW cI hm am M) f g (xs (v3 + 1).toNatClampNeg) (xs (v3 + 2).toNatClampNeg) hR.1.1.1) gL_law_X5_section rfl ⟨rfl, rfl⟩ ndX5_section ⟨Nat.le_of_ble_eq_true rfl, Nat.le_of_ble_eq_true rfl⟩ hK hP 13 rfl rfl rfl hl rfl (Nat.le_of_ble_eq_true rfl) dL_law_154 ⟨Nat.le_of_ble_eq_true rfl, Nat.le_of_ble_eq_true rfl⟩ ?_
  have hP1 := hP
  have hP := rotP hP
  refine lv_aload_n hx hb dL_law_157 rfl (lv_at hl 2 rfl) ?_
  refine lv_aload_n hx hb dL_law_158 rfl (lv_at hl 0 rfl) ?_
  refine lv_iload_n hx hb dL_law_159 rfl (lv_at hl 3 rfl) ?_
  refine lv_iconst (v := 1) hx hb dL_law_160 (by decide) ?_
  refine lv_iadd hx hb dL_law_161 ?_
  refine va_sld hx hb hX hbl hbA hS h1 dL_law_162 ?_
  refine lv_aload_n hx hb dL_law_163 rfl (lv_at hl 0 rfl) ?_
  refine lv_iload_n hx hb dL_law_164 rfl (lv_at hl 3 rfl) ?_
  refine lv_iconst (v := 2) hx hb dL_law_165 (by decide) ?_
  refine lv_iadd hx hb dL_law_166 ?_
  refine va_sld hx hb hX hbl hbA hS h2 dL_law_167 ?_
  refine k_rd (As := [.int (xs (v3 + 1).toNatClampNeg), .int (xs (v3 + 2).toNatClampNeg)]) (rest := [.int (kX5_section f g (xs (v3 + 1).toNatClampNeg) (xs (v3 + 2).toNatClampNeg))]) (bytes := cX6_section) (C := RX6) S (okX6_section l D cI cZ cQ hm am (LW cI h a f ++ KR cI cZ cQ h b g) M (xs (v3 + 1).toNatClampNeg) (xs (v3 + 2).toNatClampNeg) (rel_ok hR)) gL_law_X6_section rfl ⟨rfl, rfl⟩ ndX6_section ⟨Nat.le_of_ble_eq_true rfl, Nat.le_of_ble_eq_true rfl⟩ hK hP 0 rfl rfl rfl hl rfl (Nat.le_of_ble_eq_true rfl) dL_law_168 ⟨Nat.le_of_ble_eq_true rfl, Nat.le_of_ble_eq_true rfl⟩ ?_
  refine lv_icmp_eq (tgt := 630) hx hb dL_law_171 (by decide) (fun _ => ?_) (fun q => absurd (z_section hR (xs (v3 + 1).toNatClampNeg) (xs (v3 + 2).toNatClampNeg)) q)
  exact kk f g M pp k H locs (rel_mono hR (by omega)) ⟨hP1, hD, hS⟩
set_option maxHeartbeats 4000000 in
set_option maxRecDepth 100000 in
theorem cs_head (C0 : lw_C p s m c bs L xs D cI cZ cQ) (hR : Rel f g M B pp k) (hB : B < 900000) (V : lw_V s D cI cZ cQ h a b f g hm am M H locs) (h1 : vp_in (v3 + 1) L) (h2 : vp_in (v3 + 2) L) (h3 : vp_in (v3 + 3) L) (hl : lv_has ls 4 [(0, .ref bs), (1, .ref (b 0)), (2, .ref hm), (3, .int v3)])
    (kk : ∀ (f' g' M' : Nat → Nat → Int32) (pp' k' : Nat) (H' : Heap) (locs' : List Loc), Rel f' g' M' (B + 48) pp' k' → lw_V s D cI cZ cQ h a b f' g' hm am M' H' locs' → W p l e room_1 s m #[Value.ref bs] below meth c H' locs' 47 3476 Q (F0 m 630 ls [])) : W p l e room_1 s m #[Value.ref bs] below meth c H locs 47 3476 Q (F0 m 176 ls []) := by
  obtain ⟨S, hX, hbl, hK, t, hPT⟩ := C0
  have hx := S.1
  have hb := S.2.1
  have hA : ∀ q : Nat, s.heap.size ≤ q → (fun q : Nat => s.heap.size ≤ q) q := fun _ h => h
  have hbA : ¬ (fun q : Nat => s.heap.size ≤ q) bs := Nat.not_le.mpr hbl
  obtain ⟨hP, hD, hS⟩ := V
  refine lv_aload_n hx hb dL_law_176 rfl (lv_at hl 1 rfl) ?_
  refine lv_aload_n hx hb dL_law_177 rfl (lv_at hl 0 rfl) ?_
  refine lv_iload_n hx hb dL_law_178 rfl (lv_at hl 3 rfl) ?_
  refine lv_iconst (v := 1) hx hb dL_law_179 (by decide) ?_
  refine lv_iadd hx hb dL_law_180 ?_
  refine va_sld hx hb hX hbl hbA hS h1 dL_law_181 ?_
  refine lv_aload_n hx hb dL_law_182 rfl (lv_at hl 0 rfl) ?_
  refine lv_iload_n hx hb dL_law_183 rfl (lv_at hl 3 rfl) ?_
  refine lv_iconst (v := 2) hx hb dL_law_184 (by decide) ?_
  refine lv_iadd hx hb dL_law_185 ?_
  refine va_sld hx hb hX hbl hbA hS h2 dL_law_186 ?_
  refine k_rd (As := [.int (xs (v3 + 1).toNatClampNeg), .int (xs (v3 + 2).toNatClampNeg)]) (rest := []) (bytes := cX5_head) (C := RX5) S (okX5_head l D cI cZ cQ h a b (MW cI hm am M) f g (xs (v3 + 1).toNatClampNeg) (xs (v3 + 2).toNatClampNeg) hR.1.1.1) gL_law_X5_head rfl ⟨rfl, rfl⟩ ndX5_head ⟨Nat.le_of_ble_eq_true rfl, Nat.le_of_ble_eq_true rfl⟩ hK hP 13 rfl rfl rfl hl rfl (Nat.le_of_ble_eq_true rfl) dL_law_187 ⟨Nat.le_of_ble_eq_true rfl, Nat.le_of_ble_eq_true rfl⟩ ?_
  have hP1 := hP
  have hP := rotP hP
  refine lv_aload_n hx hb dL_law_190 rfl (lv_at hl 2 rfl) ?_
  refine lv_aload_n hx hb dL_law_191 rfl (lv_at hl 0 rfl) ?_
  refine lv_iload_n hx hb dL_law_192 rfl (lv_at hl 3 rfl) ?_
  refine lv_iconst (v := 1) hx hb dL_law_193 (by decide) ?_
  refine lv_iadd hx hb dL_law_194 ?_
  refine va_sld hx hb hX hbl hbA hS h1 dL_law_195 ?_
  refine lv_aload_n hx hb dL_law_196 rfl (lv_at hl 0 rfl) ?_
  refine lv_iload_n hx hb dL_law_197 rfl (lv_at hl 3 rfl) ?_
  refine lv_iconst (v := 2) hx hb dL_law_198 (by decide) ?_
  refine lv_iadd hx hb dL_law_199 ?_
  refine va_sld hx hb hX hbl hbA hS h2 dL_law_200 ?_
  refine k_rd (As := [.int (xs (v3 + 1).toNatClampNeg), .int (xs (v3 + 2).toNatClampNeg)]) (rest := [.int (kX5_head f g (xs (v3 + 1).toNatClampNeg) (xs (v3 + 2).toNatClampNeg))]) (bytes := cX6_head) (C := RX6) S (okX6_head l D cI cZ cQ hm am (LW cI h a f ++ KR cI cZ cQ h b g) M (xs (v3 + 1).toNatClampNeg) (xs (v3 + 2).toNatClampNeg) (rel_ok hR)) gL_law_X6_head rfl ⟨rfl, rfl⟩ ndX6_head ⟨Nat.le_of_ble_eq_true rfl, Nat.le_of_ble_eq_true rfl⟩ hK hP 0 rfl rfl rfl hl rfl (Nat.le_of_ble_eq_true rfl) dL_law_201 ⟨Nat.le_of_ble_eq_true rfl, Nat.le_of_ble_eq_true rfl⟩ ?_
  refine lv_icmp_eq (tgt := 630) hx hb dL_law_204 (by decide) (fun _ => ?_) (fun q => absurd (z_head hR (xs (v3 + 1).toNatClampNeg) (xs (v3 + 2).toNatClampNeg)) q)
  exact kk f g M pp k H locs (rel_mono hR (by omega)) ⟨hP1, hD, hS⟩
set_option maxHeartbeats 4000000 in
set_option maxRecDepth 100000 in
theorem cs_feel (C0 : lw_C p s m c bs L xs D cI cZ cQ) (hR : Rel f g M B pp k) (hB : B < 900000) (V : lw_V s D cI cZ cQ h a b f g hm am M H locs) (h1 : vp_in (v3 + 1) L) (h2 : vp_in (v3 + 2) L) (h3 : vp_in (v3 + 3) L) (hl : lv_has ls 4 [(0, .ref bs), (1, .ref (b 0)), (2, .ref hm), (3, .int v3)])
    (kk : ∀ (f' g' M' : Nat → Nat → Int32) (pp' k' : Nat) (H' : Heap) (locs' : List Loc), Rel f' g' M' (B + 48) pp' k' → lw_V s D cI cZ cQ h a b f' g' hm am M' H' locs' → W p l e room_1 s m #[Value.ref bs] below meth c H' locs' 47 3476 Q (F0 m 630 ls [])) : W p l e room_1 s m #[Value.ref bs] below meth c H locs 47 3476 Q (F0 m 258 ls []) := by
  obtain ⟨S, hX, hbl, hK, t, hPT⟩ := C0
  have hx := S.1
  have hb := S.2.1
  have hA : ∀ q : Nat, s.heap.size ≤ q → (fun q : Nat => s.heap.size ≤ q) q := fun _ h => h
  have hbA : ¬ (fun q : Nat => s.heap.size ≤ q) bs := Nat.not_le.mpr hbl
  obtain ⟨hP, hD, hS⟩ := V
  refine lv_aload_n hx hb dL_law_258 rfl (lv_at hl 1 rfl) ?_
  refine lv_aload_n hx hb dL_law_259 rfl (lv_at hl 0 rfl) ?_
  refine lv_iload_n hx hb dL_law_260 rfl (lv_at hl 3 rfl) ?_
  refine lv_iconst (v := 1) hx hb dL_law_261 (by decide) ?_
  refine lv_iadd hx hb dL_law_262 ?_
  refine va_sld hx hb hX hbl hbA hS h1 dL_law_263 ?_
  refine lv_aload_n hx hb dL_law_264 rfl (lv_at hl 0 rfl) ?_
  refine lv_iload_n hx hb dL_law_265 rfl (lv_at hl 3 rfl) ?_
  refine lv_iconst (v := 2) hx hb dL_law_266 (by decide) ?_
  refine lv_iadd hx hb dL_law_267 ?_
  refine va_sld hx hb hX hbl hbA hS h2 dL_law_268 ?_
  refine k_wt (As := [.int (xs (v3 + 1).toNatClampNeg), .int (xs (v3 + 2).toNatClampNeg)]) (rest := []) (bytes := cX5_feel) (C := RX5) S (okX5_feel l D cI cZ cQ h a b (MW cI hm am M) f g (xs (v3 + 1).toNatClampNeg) (xs (v3 + 2).toNatClampNeg) _ t hR.1.1.1 (rel_nx hR)) gL_law_X5_feel rfl ⟨rfl, rfl⟩ ndX5_feel ⟨Nat.le_of_ble_eq_true rfl, Nat.le_of_ble_eq_true rfl⟩ hK hP hD hS hA hPT 13 rfl rfl rfl hl rfl (Nat.le_of_ble_eq_true rfl) dL_law_269 ⟨Nat.le_of_ble_eq_true rfl, Nat.le_of_ble_eq_true rfl⟩ (fun H locs hP hD hS => ?_)
  have z := z_feel hR (xs (v3 + 1).toNatClampNeg) (xs (v3 + 2).toNatClampNeg)
  have hP : va_P D vwCl (LW cI h a (kX5_feel f g (xs (v3 + 1).toNatClampNeg) (xs (v3 + 2).toNatClampNeg)).2.1 ++ (KR cI cZ cQ h b (kX5_feel f g (xs (v3 + 1).toNatClampNeg) (xs (v3 + 2).toNatClampNeg)).2.2 ++ MW cI hm am M)) H := hP
  have hD : va_D (fun q : Nat => s.heap.size ≤ q) (LW cI h a (kX5_feel f g (xs (v3 + 1).toNatClampNeg) (xs (v3 + 2).toNatClampNeg)).2.1 ++ (KR cI cZ cQ h b (kX5_feel f g (xs (v3 + 1).toNatClampNeg) (xs (v3 + 2).toNatClampNeg)).2.2 ++ MW cI hm am M)) := hD
  generalize kX5_feel f g (xs (v3 + 1).toNatClampNeg) (xs (v3 + 2).toNatClampNeg) = r5 at z hP hD ⊢
  have hP := rotP hP
  have hD := rotD hD
  refine lv_aload_n hx hb dL_law_272 rfl (lv_at hl 2 rfl) ?_
  refine lv_aload_n hx hb dL_law_273 rfl (lv_at hl 0 rfl) ?_
  refine lv_iload_n hx hb dL_law_274 rfl (lv_at hl 3 rfl) ?_
  refine lv_iconst (v := 1) hx hb dL_law_275 (by decide) ?_
  refine lv_iadd hx hb dL_law_276 ?_
  refine va_sld hx hb hX hbl hbA hS h1 dL_law_277 ?_
  refine lv_aload_n hx hb dL_law_278 rfl (lv_at hl 0 rfl) ?_
  refine lv_iload_n hx hb dL_law_279 rfl (lv_at hl 3 rfl) ?_
  refine lv_iconst (v := 2) hx hb dL_law_280 (by decide) ?_
  refine lv_iadd hx hb dL_law_281 ?_
  refine va_sld hx hb hX hbl hbA hS h2 dL_law_282 ?_
  refine k_wi (As := [.int (xs (v3 + 1).toNatClampNeg), .int (xs (v3 + 2).toNatClampNeg)]) (rest := [.int r5.1]) (bytes := cX6_feel) (C := RX6) S (okX6_feel l D cI cZ cQ hm am (LW cI h a r5.2.1 ++ KR cI cZ cQ h b r5.2.2) M (xs (v3 + 1).toNatClampNeg) (xs (v3 + 2).toNatClampNeg) _ (rel_ok hR) (rel_kn hR)) gL_law_X6_feel rfl ⟨rfl, rfl⟩ ndX6_feel ⟨Nat.le_of_ble_eq_true rfl, Nat.le_of_ble_eq_true rfl⟩ hK hP hD hS hA 0 rfl rfl rfl hl rfl (Nat.le_of_ble_eq_true rfl) dL_law_283 ⟨Nat.le_of_ble_eq_true rfl, Nat.le_of_ble_eq_true rfl⟩ (fun H locs hP hD hS => ?_)
  have hP : va_P D vwCl (MW cI hm am (kX6_feel M (xs (v3 + 1).toNatClampNeg) (xs (v3 + 2).toNatClampNeg)).2 ++ (LW cI h a r5.2.1 ++ KR cI cZ cQ h b r5.2.2)) H := hP
  have hD : va_D (fun q : Nat => s.heap.size ≤ q) (MW cI hm am (kX6_feel M (xs (v3 + 1).toNatClampNeg) (xs (v3 + 2).toNatClampNeg)).2 ++ (LW cI h a r5.2.1 ++ KR cI cZ cQ h b r5.2.2)) := hD
  generalize kX6_feel M (xs (v3 + 1).toNatClampNeg) (xs (v3 + 2).toNatClampNeg) = r6 at z hP hD ⊢
  obtain ⟨ez, pp', k', hR'⟩ := z
  refine lv_icmp_eq (tgt := 630) hx hb dL_law_286 (by decide) (fun _ => ?_) (fun q => absurd ez q)
  exact kk r5.2.1 r5.2.2 r6.2 pp' k' H locs hR' ⟨rotP' hP, rotD' hD, hS⟩
set_option maxHeartbeats 4000000 in
set_option maxRecDepth 100000 in
theorem cs_go (C0 : lw_C p s m c bs L xs D cI cZ cQ) (hR : Rel f g M B pp k) (hB : B < 900000) (V : lw_V s D cI cZ cQ h a b f g hm am M H locs) (h1 : vp_in (v3 + 1) L) (h2 : vp_in (v3 + 2) L) (h3 : vp_in (v3 + 3) L) (hl : lv_has ls 4 [(0, .ref bs), (1, .ref (b 0)), (2, .ref hm), (3, .int v3)])
    (kk : ∀ (f' g' M' : Nat → Nat → Int32) (pp' k' : Nat) (H' : Heap) (locs' : List Loc), Rel f' g' M' (B + 48) pp' k' → lw_V s D cI cZ cQ h a b f' g' hm am M' H' locs' → W p l e room_1 s m #[Value.ref bs] below meth c H' locs' 47 3476 Q (F0 m 630 ls [])) : W p l e room_1 s m #[Value.ref bs] below meth c H locs 47 3476 Q (F0 m 291 ls []) := by
  obtain ⟨S, hX, hbl, hK, t, hPT⟩ := C0
  have hx := S.1
  have hb := S.2.1
  have hA : ∀ q : Nat, s.heap.size ≤ q → (fun q : Nat => s.heap.size ≤ q) q := fun _ h => h
  have hbA : ¬ (fun q : Nat => s.heap.size ≤ q) bs := Nat.not_le.mpr hbl
  obtain ⟨hP, hD, hS⟩ := V
  refine lv_aload_n hx hb dL_law_291 rfl (lv_at hl 1 rfl) ?_
  refine lv_aload_n hx hb dL_law_292 rfl (lv_at hl 0 rfl) ?_
  refine lv_iload_n hx hb dL_law_293 rfl (lv_at hl 3 rfl) ?_
  refine lv_iconst (v := 1) hx hb dL_law_294 (by decide) ?_
  refine lv_iadd hx hb dL_law_295 ?_
  refine va_sld hx hb hX hbl hbA hS h1 dL_law_296 ?_
  refine lv_aload_n hx hb dL_law_297 rfl (lv_at hl 0 rfl) ?_
  refine lv_iload_n hx hb dL_law_298 rfl (lv_at hl 3 rfl) ?_
  refine lv_iconst (v := 2) hx hb dL_law_299 (by decide) ?_
  refine lv_iadd hx hb dL_law_300 ?_
  refine va_sld hx hb hX hbl hbA hS h2 dL_law_301 ?_
  refine lv_aload_n hx hb dL_law_302 rfl (lv_at hl 0 rfl) ?_
  refine lv_iload_n hx hb dL_law_303 rfl (lv_at hl 3 rfl) ?_
  refine lv_iconst (v := 3) hx hb dL_law_304 (by decide) ?_
  refine lv_iadd hx hb dL_law_305 ?_
  refine va_sld hx hb hX hbl hbA hS h3 dL_law_306 ?_
  refine k_wi (As := [.int (xs (v3 + 1).toNatClampNeg), .int (xs (v3 + 2).toNatClampNeg), .int (xs (v3 + 3).toNatClampNeg)]) (rest := []) (bytes := cX5_go) (C := RX5) S (okX5_go l D cI cZ cQ h a b (MW cI hm am M) f g (xs (v3 + 1).toNatClampNeg) (xs (v3 + 2).toNatClampNeg) (xs (v3 + 3).toNatClampNeg) _ hR.1.1.1 (rel_nx hR)) gL_law_X5_go rfl ⟨rfl, rfl⟩ ndX5_go ⟨Nat.le_of_ble_eq_true rfl, Nat.le_of_ble_eq_true rfl⟩ hK hP hD hS hA 13 rfl rfl rfl hl rfl (Nat.le_of_ble_eq_true rfl) dL_law_307 ⟨Nat.le_of_ble_eq_true rfl, Nat.le_of_ble_eq_true rfl⟩ (fun H locs hP hD hS => ?_)
  have z := z_go hR (by omega) (xs (v3 + 1).toNatClampNeg) (xs (v3 + 2).toNatClampNeg) (xs (v3 + 3).toNatClampNeg)
  have hP : va_P D vwCl (LW cI h a (kX5_go f g (xs (v3 + 1).toNatClampNeg) (xs (v3 + 2).toNatClampNeg) (xs (v3 + 3).toNatClampNeg)).2.1 ++ (KR cI cZ cQ h b (kX5_go f g (xs (v3 + 1).toNatClampNeg) (xs (v3 + 2).toNatClampNeg) (xs (v3 + 3).toNatClampNeg)).2.2 ++ MW cI hm am M)) H := hP
  have hD : va_D (fun q : Nat => s.heap.size ≤ q) (LW cI h a (kX5_go f g (xs (v3 + 1).toNatClampNeg) (xs (v3 + 2).toNatClampNeg) (xs (v3 + 3).toNatClampNeg)).2.1 ++ (KR cI cZ cQ h b (kX5_go f g (xs (v3 + 1).toNatClampNeg) (xs (v3 + 2).toNatClampNeg) (xs (v3 + 3).toNatClampNeg)).2.2 ++ MW cI hm am M)) := hD
  generalize kX5_go f g (xs (v3 + 1).toNatClampNeg) (xs (v3 + 2).toNatClampNeg) (xs (v3 + 3).toNatClampNeg) = r5 at z hP hD ⊢
  have hP := rotP hP
  have hD := rotD hD
  refine lv_aload_n hx hb dL_law_310 rfl (lv_at hl 2 rfl) ?_
  refine lv_aload_n hx hb dL_law_311 rfl (lv_at hl 0 rfl) ?_
  refine lv_iload_n hx hb dL_law_312 rfl (lv_at hl 3 rfl) ?_
  refine lv_iconst (v := 1) hx hb dL_law_313 (by decide) ?_
  refine lv_iadd hx hb dL_law_314 ?_
  refine va_sld hx hb hX hbl hbA hS h1 dL_law_315 ?_
  refine lv_aload_n hx hb dL_law_316 rfl (lv_at hl 0 rfl) ?_
  refine lv_iload_n hx hb dL_law_317 rfl (lv_at hl 3 rfl) ?_
  refine lv_iconst (v := 2) hx hb dL_law_318 (by decide) ?_
  refine lv_iadd hx hb dL_law_319 ?_
  refine va_sld hx hb hX hbl hbA hS h2 dL_law_320 ?_
  refine lv_aload_n hx hb dL_law_321 rfl (lv_at hl 0 rfl) ?_
  refine lv_iload_n hx hb dL_law_322 rfl (lv_at hl 3 rfl) ?_
  refine lv_iconst (v := 3) hx hb dL_law_323 (by decide) ?_
  refine lv_iadd hx hb dL_law_324 ?_
  refine va_sld hx hb hX hbl hbA hS h3 dL_law_325 ?_
  refine k_wi (As := [.int (xs (v3 + 1).toNatClampNeg), .int (xs (v3 + 2).toNatClampNeg), .int (xs (v3 + 3).toNatClampNeg)]) (rest := [.int r5.1]) (bytes := cX6_go) (C := RX6) S (okX6_go l D cI cZ cQ hm am (LW cI h a r5.2.1 ++ KR cI cZ cQ h b r5.2.2) M (xs (v3 + 1).toNatClampNeg) (xs (v3 + 2).toNatClampNeg) (xs (v3 + 3).toNatClampNeg) _ (rel_ok hR) (rel_kn hR)) gL_law_X6_go rfl ⟨rfl, rfl⟩ ndX6_go ⟨Nat.le_of_ble_eq_true rfl, Nat.le_of_ble_eq_true rfl⟩ hK hP hD hS hA 0 rfl rfl rfl hl rfl (Nat.le_of_ble_eq_true rfl) dL_law_326 ⟨Nat.le_of_ble_eq_true rfl, Nat.le_of_ble_eq_true rfl⟩ (fun H locs hP hD hS => ?_)
  have hP : va_P D vwCl (MW cI hm am (kX6_go M (xs (v3 + 1).toNatClampNeg) (xs (v3 + 2).toNatClampNeg) (xs (v3 + 3).toNatClampNeg)).2 ++ (LW cI h a r5.2.1 ++ KR cI cZ cQ h b r5.2.2)) H := hP
  have hD : va_D (fun q : Nat => s.heap.size ≤ q) (MW cI hm am (kX6_go M (xs (v3 + 1).toNatClampNeg) (xs (v3 + 2).toNatClampNeg) (xs (v3 + 3).toNatClampNeg)).2 ++ (LW cI h a r5.2.1 ++ KR cI cZ cQ h b r5.2.2)) := hD
  generalize kX6_go M (xs (v3 + 1).toNatClampNeg) (xs (v3 + 2).toNatClampNeg) (xs (v3 + 3).toNatClampNeg) = r6 at z hP hD ⊢
  obtain ⟨ez, pp', k', hR'⟩ := z
  refine lv_icmp_eq (tgt := 630) hx hb dL_law_329 (by decide) (fun _ => ?_) (fun q => absurd ez q)
  exact kk r5.2.1 r5.2.2 r6.2 pp' k' H locs hR' ⟨rotP' hP, rotD' hD, hS⟩
set_option maxHeartbeats 4000000 in
set_option maxRecDepth 100000 in
theorem cs_miss (C0 : lw_C p s m c bs L xs D cI cZ cQ) (hR : Rel f g M B pp k) (hB : B < 900000) (V : lw_V s D cI cZ cQ h a b f g hm am M H locs) (h1 : vp_in (v3 + 1) L) (h2 : vp_in (v3 + 2) L) (h3 : vp_in (v3 + 3) L) (hl : lv_has ls 4 [(0, .ref bs), (1, .ref (b 0)), (2, .ref hm), (3, .int v3)])
    (kk : ∀ (f' g' M' : Nat → Nat → Int32) (pp' k' : Nat) (H' : Heap) (locs' : List Loc), Rel f' g' M' (B + 48) pp' k' → lw_V s D cI cZ cQ h a b f' g' hm am M' H' locs' → W p l e room_1 s m #[Value.ref bs] below meth c H' locs' 47 3476 Q (F0 m 630 ls [])) : W p l e room_1 s m #[Value.ref bs] below meth c H locs 47 3476 Q (F0 m 334 ls []) := by
  obtain ⟨S, hX, hbl, hK, t, hPT⟩ := C0
  have hx := S.1
  have hb := S.2.1
  have hA : ∀ q : Nat, s.heap.size ≤ q → (fun q : Nat => s.heap.size ≤ q) q := fun _ h => h
  have hbA : ¬ (fun q : Nat => s.heap.size ≤ q) bs := Nat.not_le.mpr hbl
  obtain ⟨hP, hD, hS⟩ := V
  refine lv_aload_n hx hb dL_law_334 rfl (lv_at hl 1 rfl) ?_
  refine lv_aload_n hx hb dL_law_335 rfl (lv_at hl 0 rfl) ?_
  refine lv_iload_n hx hb dL_law_336 rfl (lv_at hl 3 rfl) ?_
  refine lv_iconst (v := 1) hx hb dL_law_337 (by decide) ?_
  refine lv_iadd hx hb dL_law_338 ?_
  refine va_sld hx hb hX hbl hbA hS h1 dL_law_339 ?_
  refine lv_aload_n hx hb dL_law_340 rfl (lv_at hl 0 rfl) ?_
  refine lv_iload_n hx hb dL_law_341 rfl (lv_at hl 3 rfl) ?_
  refine lv_iconst (v := 2) hx hb dL_law_342 (by decide) ?_
  refine lv_iadd hx hb dL_law_343 ?_
  refine va_sld hx hb hX hbl hbA hS h2 dL_law_344 ?_
  refine lv_aload_n hx hb dL_law_345 rfl (lv_at hl 0 rfl) ?_
  refine lv_iload_n hx hb dL_law_346 rfl (lv_at hl 3 rfl) ?_
  refine lv_iconst (v := 3) hx hb dL_law_347 (by decide) ?_
  refine lv_iadd hx hb dL_law_348 ?_
  refine va_sld hx hb hX hbl hbA hS h3 dL_law_349 ?_
  refine k_wi (As := [.int (xs (v3 + 1).toNatClampNeg), .int (xs (v3 + 2).toNatClampNeg), .int (xs (v3 + 3).toNatClampNeg)]) (rest := []) (bytes := cX5_miss) (C := RX5) S (okX5_miss l D cI cZ cQ h a b (MW cI hm am M) f g (xs (v3 + 1).toNatClampNeg) (xs (v3 + 2).toNatClampNeg) (xs (v3 + 3).toNatClampNeg) _ hR.1.1.1 (rel_nx hR)) gL_law_X5_miss rfl ⟨rfl, rfl⟩ ndX5_miss ⟨Nat.le_of_ble_eq_true rfl, Nat.le_of_ble_eq_true rfl⟩ hK hP hD hS hA 13 rfl rfl rfl hl rfl (Nat.le_of_ble_eq_true rfl) dL_law_350 ⟨Nat.le_of_ble_eq_true rfl, Nat.le_of_ble_eq_true rfl⟩ (fun H locs hP hD hS => ?_)
  have z := z_miss hR (by omega) (xs (v3 + 1).toNatClampNeg) (xs (v3 + 2).toNatClampNeg) (xs (v3 + 3).toNatClampNeg)
  have hP : va_P D vwCl (LW cI h a (kX5_miss f g (xs (v3 + 1).toNatClampNeg) (xs (v3 + 2).toNatClampNeg) (xs (v3 + 3).toNatClampNeg)).2.1 ++ (KR cI cZ cQ h b (kX5_miss f g (xs (v3 + 1).toNatClampNeg) (xs (v3 + 2).toNatClampNeg) (xs (v3 + 3).toNatClampNeg)).2.2 ++ MW cI hm am M)) H := hP
  have hD : va_D (fun q : Nat => s.heap.size ≤ q) (LW cI h a (kX5_miss f g (xs (v3 + 1).toNatClampNeg) (xs (v3 + 2).toNatClampNeg) (xs (v3 + 3).toNatClampNeg)).2.1 ++ (KR cI cZ cQ h b (kX5_miss f g (xs (v3 + 1).toNatClampNeg) (xs (v3 + 2).toNatClampNeg) (xs (v3 + 3).toNatClampNeg)).2.2 ++ MW cI hm am M)) := hD
  generalize kX5_miss f g (xs (v3 + 1).toNatClampNeg) (xs (v3 + 2).toNatClampNeg) (xs (v3 + 3).toNatClampNeg) = r5 at z hP hD ⊢
  have hP := rotP hP
  have hD := rotD hD
  refine lv_aload_n hx hb dL_law_353 rfl (lv_at hl 2 rfl) ?_
  refine lv_aload_n hx hb dL_law_354 rfl (lv_at hl 0 rfl) ?_
  refine lv_iload_n hx hb dL_law_355 rfl (lv_at hl 3 rfl) ?_
  refine lv_iconst (v := 1) hx hb dL_law_356 (by decide) ?_
  refine lv_iadd hx hb dL_law_357 ?_
  refine va_sld hx hb hX hbl hbA hS h1 dL_law_358 ?_
  refine lv_aload_n hx hb dL_law_359 rfl (lv_at hl 0 rfl) ?_
  refine lv_iload_n hx hb dL_law_360 rfl (lv_at hl 3 rfl) ?_
  refine lv_iconst (v := 2) hx hb dL_law_361 (by decide) ?_
  refine lv_iadd hx hb dL_law_362 ?_
  refine va_sld hx hb hX hbl hbA hS h2 dL_law_363 ?_
  refine lv_aload_n hx hb dL_law_364 rfl (lv_at hl 0 rfl) ?_
  refine lv_iload_n hx hb dL_law_365 rfl (lv_at hl 3 rfl) ?_
  refine lv_iconst (v := 3) hx hb dL_law_366 (by decide) ?_
  refine lv_iadd hx hb dL_law_367 ?_
  refine va_sld hx hb hX hbl hbA hS h3 dL_law_368 ?_
  refine k_wi (As := [.int (xs (v3 + 1).toNatClampNeg), .int (xs (v3 + 2).toNatClampNeg), .int (xs (v3 + 3).toNatClampNeg)]) (rest := [.int r5.1]) (bytes := cX6_miss) (C := RX6) S (okX6_miss l D cI cZ cQ hm am (LW cI h a r5.2.1 ++ KR cI cZ cQ h b r5.2.2) M (xs (v3 + 1).toNatClampNeg) (xs (v3 + 2).toNatClampNeg) (xs (v3 + 3).toNatClampNeg) _ (rel_ok hR) (rel_kn hR)) gL_law_X6_miss rfl ⟨rfl, rfl⟩ ndX6_miss ⟨Nat.le_of_ble_eq_true rfl, Nat.le_of_ble_eq_true rfl⟩ hK hP hD hS hA 0 rfl rfl rfl hl rfl (Nat.le_of_ble_eq_true rfl) dL_law_369 ⟨Nat.le_of_ble_eq_true rfl, Nat.le_of_ble_eq_true rfl⟩ (fun H locs hP hD hS => ?_)
  have hP : va_P D vwCl (MW cI hm am (kX6_miss M (xs (v3 + 1).toNatClampNeg) (xs (v3 + 2).toNatClampNeg) (xs (v3 + 3).toNatClampNeg)).2 ++ (LW cI h a r5.2.1 ++ KR cI cZ cQ h b r5.2.2)) H := hP
  have hD : va_D (fun q : Nat => s.heap.size ≤ q) (MW cI hm am (kX6_miss M (xs (v3 + 1).toNatClampNeg) (xs (v3 + 2).toNatClampNeg) (xs (v3 + 3).toNatClampNeg)).2 ++ (LW cI h a r5.2.1 ++ KR cI cZ cQ h b r5.2.2)) := hD
  generalize kX6_miss M (xs (v3 + 1).toNatClampNeg) (xs (v3 + 2).toNatClampNeg) (xs (v3 + 3).toNatClampNeg) = r6 at z hP hD ⊢
  obtain ⟨ez, pp', k', hR'⟩ := z
  refine lv_icmp_eq (tgt := 630) hx hb dL_law_372 (by decide) (fun _ => ?_) (fun q => absurd ez q)
  exact kk r5.2.1 r5.2.2 r6.2 pp' k' H locs hR' ⟨rotP' hP, rotD' hD, hS⟩
set_option maxHeartbeats 4000000 in
set_option maxRecDepth 100000 in
theorem cs_tick (C0 : lw_C p s m c bs L xs D cI cZ cQ) (hR : Rel f g M B pp k) (hB : B < 900000) (V : lw_V s D cI cZ cQ h a b f g hm am M H locs) (h1 : vp_in (v3 + 1) L) (h2 : vp_in (v3 + 2) L) (h3 : vp_in (v3 + 3) L) (hl : lv_has ls 4 [(0, .ref bs), (1, .ref (b 0)), (2, .ref hm), (3, .int v3)])
    (kk : ∀ (f' g' M' : Nat → Nat → Int32) (pp' k' : Nat) (H' : Heap) (locs' : List Loc), Rel f' g' M' (B + 48) pp' k' → lw_V s D cI cZ cQ h a b f' g' hm am M' H' locs' → W p l e room_1 s m #[Value.ref bs] below meth c H' locs' 47 3476 Q (F0 m 630 ls [])) : W p l e room_1 s m #[Value.ref bs] below meth c H locs 47 3476 Q (F0 m 377 ls []) := by
  obtain ⟨S, hX, hbl, hK, t, hPT⟩ := C0
  have hx := S.1
  have hb := S.2.1
  have hA : ∀ q : Nat, s.heap.size ≤ q → (fun q : Nat => s.heap.size ≤ q) q := fun _ h => h
  have hbA : ¬ (fun q : Nat => s.heap.size ≤ q) bs := Nat.not_le.mpr hbl
  obtain ⟨hP, hD, hS⟩ := V
  refine lv_aload_n hx hb dL_law_377 rfl (lv_at hl 1 rfl) ?_
  refine lv_aload_n hx hb dL_law_378 rfl (lv_at hl 0 rfl) ?_
  refine lv_iload_n hx hb dL_law_379 rfl (lv_at hl 3 rfl) ?_
  refine lv_iconst (v := 1) hx hb dL_law_380 (by decide) ?_
  refine lv_iadd hx hb dL_law_381 ?_
  refine va_sld hx hb hX hbl hbA hS h1 dL_law_382 ?_
  refine k_wi (As := [.int (xs (v3 + 1).toNatClampNeg)]) (rest := []) (bytes := cX5_tick) (C := RX5) S (okX5_tick l D cI cZ cQ h a b (MW cI hm am M) f g (xs (v3 + 1).toNatClampNeg) _ hR.1.1.1 (rel_nx hR)) gL_law_X5_tick rfl ⟨rfl, rfl⟩ ndX5_tick ⟨Nat.le_of_ble_eq_true rfl, Nat.le_of_ble_eq_true rfl⟩ hK hP hD hS hA 13 rfl rfl rfl hl rfl (Nat.le_of_ble_eq_true rfl) dL_law_383 ⟨Nat.le_of_ble_eq_true rfl, Nat.le_of_ble_eq_true rfl⟩ (fun H locs hP hD hS => ?_)
  have z := z_tick hR (xs (v3 + 1).toNatClampNeg)
  have hP : va_P D vwCl (LW cI h a (kX5_tick f g (xs (v3 + 1).toNatClampNeg)).2.1 ++ (KR cI cZ cQ h b (kX5_tick f g (xs (v3 + 1).toNatClampNeg)).2.2 ++ MW cI hm am M)) H := hP
  have hD : va_D (fun q : Nat => s.heap.size ≤ q) (LW cI h a (kX5_tick f g (xs (v3 + 1).toNatClampNeg)).2.1 ++ (KR cI cZ cQ h b (kX5_tick f g (xs (v3 + 1).toNatClampNeg)).2.2 ++ MW cI hm am M)) := hD
  generalize kX5_tick f g (xs (v3 + 1).toNatClampNeg) = r5 at z hP hD ⊢
  have hP := rotP hP
  have hD := rotD hD
  refine lv_aload_n hx hb dL_law_386 rfl (lv_at hl 2 rfl) ?_
  refine lv_aload_n hx hb dL_law_387 rfl (lv_at hl 0 rfl) ?_
  refine lv_iload_n hx hb dL_law_388 rfl (lv_at hl 3 rfl) ?_
  refine lv_iconst (v := 1) hx hb dL_law_389 (by decide) ?_
  refine lv_iadd hx hb dL_law_390 ?_
  refine va_sld hx hb hX hbl hbA hS h1 dL_law_391 ?_
  refine k_wi (As := [.int (xs (v3 + 1).toNatClampNeg)]) (rest := [.int r5.1]) (bytes := cX6_tick) (C := RX6) S (okX6_tick l D cI cZ cQ hm am (LW cI h a r5.2.1 ++ KR cI cZ cQ h b r5.2.2) M (xs (v3 + 1).toNatClampNeg) _ (rel_ok hR) (rel_kn hR)) gL_law_X6_tick rfl ⟨rfl, rfl⟩ ndX6_tick ⟨Nat.le_of_ble_eq_true rfl, Nat.le_of_ble_eq_true rfl⟩ hK hP hD hS hA 0 rfl rfl rfl hl rfl (Nat.le_of_ble_eq_true rfl) dL_law_392 ⟨Nat.le_of_ble_eq_true rfl, Nat.le_of_ble_eq_true rfl⟩ (fun H locs hP hD hS => ?_)
  have hP : va_P D vwCl (MW cI hm am (kX6_tick M (xs (v3 + 1).toNatClampNeg)).2 ++ (LW cI h a r5.2.1 ++ KR cI cZ cQ h b r5.2.2)) H := hP
  have hD : va_D (fun q : Nat => s.heap.size ≤ q) (MW cI hm am (kX6_tick M (xs (v3 + 1).toNatClampNeg)).2 ++ (LW cI h a r5.2.1 ++ KR cI cZ cQ h b r5.2.2)) := hD
  generalize kX6_tick M (xs (v3 + 1).toNatClampNeg) = r6 at z hP hD ⊢
  obtain ⟨ez, pp', k', hR'⟩ := z
  refine lv_icmp_eq (tgt := 630) hx hb dL_law_395 (by decide) (fun _ => ?_) (fun q => absurd ez q)
  exact kk r5.2.1 r5.2.2 r6.2 pp' k' H locs hR' ⟨rotP' hP, rotD' hD, hS⟩
set_option maxHeartbeats 4000000 in
set_option maxRecDepth 100000 in
theorem cs_reset (C0 : lw_C p s m c bs L xs D cI cZ cQ) (hR : Rel f g M B pp k) (hB : B < 900000) (V : lw_V s D cI cZ cQ h a b f g hm am M H locs) (h1 : vp_in (v3 + 1) L) (h2 : vp_in (v3 + 2) L) (h3 : vp_in (v3 + 3) L) (hl : lv_has ls 4 [(0, .ref bs), (1, .ref (b 0)), (2, .ref hm), (3, .int v3)])
    (kk : ∀ (f' g' M' : Nat → Nat → Int32) (pp' k' : Nat) (H' : Heap) (locs' : List Loc), Rel f' g' M' (B + 48) pp' k' → lw_V s D cI cZ cQ h a b f' g' hm am M' H' locs' → W p l e room_1 s m #[Value.ref bs] below meth c H' locs' 47 3476 Q (F0 m 630 ls [])) : W p l e room_1 s m #[Value.ref bs] below meth c H locs 47 3476 Q (F0 m 400 ls []) := by
  obtain ⟨S, hX, hbl, hK, t, hPT⟩ := C0
  have hx := S.1
  have hb := S.2.1
  have hA : ∀ q : Nat, s.heap.size ≤ q → (fun q : Nat => s.heap.size ≤ q) q := fun _ h => h
  have hbA : ¬ (fun q : Nat => s.heap.size ≤ q) bs := Nat.not_le.mpr hbl
  obtain ⟨hP, hD, hS⟩ := V
  refine lv_aload_n hx hb dL_law_400 rfl (lv_at hl 1 rfl) ?_
  refine lv_aload_n hx hb dL_law_401 rfl (lv_at hl 0 rfl) ?_
  refine lv_iload_n hx hb dL_law_402 rfl (lv_at hl 3 rfl) ?_
  refine lv_iconst (v := 1) hx hb dL_law_403 (by decide) ?_
  refine lv_iadd hx hb dL_law_404 ?_
  refine va_sld hx hb hX hbl hbA hS h1 dL_law_405 ?_
  refine k_wi (As := [.int (xs (v3 + 1).toNatClampNeg)]) (rest := []) (bytes := cX5_reset) (C := RX5) S (okX5_reset l D cI cZ cQ h a b (MW cI hm am M) f g (xs (v3 + 1).toNatClampNeg) _ hR.1.1.1 (rel_nx hR)) gL_law_X5_reset rfl ⟨rfl, rfl⟩ ndX5_reset ⟨Nat.le_of_ble_eq_true rfl, Nat.le_of_ble_eq_true rfl⟩ hK hP hD hS hA 13 rfl rfl rfl hl rfl (Nat.le_of_ble_eq_true rfl) dL_law_406 ⟨Nat.le_of_ble_eq_true rfl, Nat.le_of_ble_eq_true rfl⟩ (fun H locs hP hD hS => ?_)
  have z := z_reset hR (xs (v3 + 1).toNatClampNeg)
  have hP : va_P D vwCl (LW cI h a (kX5_reset f g (xs (v3 + 1).toNatClampNeg)).2.1 ++ (KR cI cZ cQ h b (kX5_reset f g (xs (v3 + 1).toNatClampNeg)).2.2 ++ MW cI hm am M)) H := hP
  have hD : va_D (fun q : Nat => s.heap.size ≤ q) (LW cI h a (kX5_reset f g (xs (v3 + 1).toNatClampNeg)).2.1 ++ (KR cI cZ cQ h b (kX5_reset f g (xs (v3 + 1).toNatClampNeg)).2.2 ++ MW cI hm am M)) := hD
  generalize kX5_reset f g (xs (v3 + 1).toNatClampNeg) = r5 at z hP hD ⊢
  have hP := rotP hP
  have hD := rotD hD
  refine lv_aload_n hx hb dL_law_409 rfl (lv_at hl 2 rfl) ?_
  refine lv_aload_n hx hb dL_law_410 rfl (lv_at hl 0 rfl) ?_
  refine lv_iload_n hx hb dL_law_411 rfl (lv_at hl 3 rfl) ?_
  refine lv_iconst (v := 1) hx hb dL_law_412 (by decide) ?_
  refine lv_iadd hx hb dL_law_413 ?_
  refine va_sld hx hb hX hbl hbA hS h1 dL_law_414 ?_
  refine k_wi (As := [.int (xs (v3 + 1).toNatClampNeg)]) (rest := [.int r5.1]) (bytes := cX6_reset) (C := RX6) S (okX6_reset l D cI cZ cQ hm am (LW cI h a r5.2.1 ++ KR cI cZ cQ h b r5.2.2) M (xs (v3 + 1).toNatClampNeg) _ (rel_ok hR) (rel_kn hR)) gL_law_X6_reset rfl ⟨rfl, rfl⟩ ndX6_reset ⟨Nat.le_of_ble_eq_true rfl, Nat.le_of_ble_eq_true rfl⟩ hK hP hD hS hA 0 rfl rfl rfl hl rfl (Nat.le_of_ble_eq_true rfl) dL_law_415 ⟨Nat.le_of_ble_eq_true rfl, Nat.le_of_ble_eq_true rfl⟩ (fun H locs hP hD hS => ?_)
  have hP : va_P D vwCl (MW cI hm am (kX6_reset M (xs (v3 + 1).toNatClampNeg)).2 ++ (LW cI h a r5.2.1 ++ KR cI cZ cQ h b r5.2.2)) H := hP
  have hD : va_D (fun q : Nat => s.heap.size ≤ q) (MW cI hm am (kX6_reset M (xs (v3 + 1).toNatClampNeg)).2 ++ (LW cI h a r5.2.1 ++ KR cI cZ cQ h b r5.2.2)) := hD
  generalize kX6_reset M (xs (v3 + 1).toNatClampNeg) = r6 at z hP hD ⊢
  obtain ⟨ez, pp', k', hR'⟩ := z
  refine lv_icmp_eq (tgt := 630) hx hb dL_law_418 (by decide) (fun _ => ?_) (fun q => absurd ez q)
  exact kk r5.2.1 r5.2.2 r6.2 pp' k' H locs hR' ⟨rotP' hP, rotD' hD, hS⟩
set_option maxHeartbeats 4000000 in
set_option maxRecDepth 100000 in
theorem cs_repair (C0 : lw_C p s m c bs L xs D cI cZ cQ) (hR : Rel f g M B pp k) (hB : B < 900000) (V : lw_V s D cI cZ cQ h a b f g hm am M H locs) (h1 : vp_in (v3 + 1) L) (h2 : vp_in (v3 + 2) L) (h3 : vp_in (v3 + 3) L) (hl : lv_has ls 4 [(0, .ref bs), (1, .ref (b 0)), (2, .ref hm), (3, .int v3)])
    (kk : ∀ (f' g' M' : Nat → Nat → Int32) (pp' k' : Nat) (H' : Heap) (locs' : List Loc), Rel f' g' M' (B + 48) pp' k' → lw_V s D cI cZ cQ h a b f' g' hm am M' H' locs' → W p l e room_1 s m #[Value.ref bs] below meth c H' locs' 47 3476 Q (F0 m 630 ls [])) : W p l e room_1 s m #[Value.ref bs] below meth c H locs 47 3476 Q (F0 m 423 ls []) := by
  obtain ⟨S, hX, hbl, hK, t, hPT⟩ := C0
  have hx := S.1
  have hb := S.2.1
  have hA : ∀ q : Nat, s.heap.size ≤ q → (fun q : Nat => s.heap.size ≤ q) q := fun _ h => h
  have hbA : ¬ (fun q : Nat => s.heap.size ≤ q) bs := Nat.not_le.mpr hbl
  obtain ⟨hP, hD, hS⟩ := V
  refine lv_aload_n hx hb dL_law_423 rfl (lv_at hl 1 rfl) ?_
  refine lv_aload_n hx hb dL_law_424 rfl (lv_at hl 0 rfl) ?_
  refine lv_iload_n hx hb dL_law_425 rfl (lv_at hl 3 rfl) ?_
  refine lv_iconst (v := 1) hx hb dL_law_426 (by decide) ?_
  refine lv_iadd hx hb dL_law_427 ?_
  refine va_sld hx hb hX hbl hbA hS h1 dL_law_428 ?_
  refine k_wi (As := [.int (xs (v3 + 1).toNatClampNeg)]) (rest := []) (bytes := cX5_repair) (C := RX5) S (okX5_repair l D cI cZ cQ h a b (MW cI hm am M) f g (xs (v3 + 1).toNatClampNeg) _ hR.1.1.1 (rel_nx hR)) gL_law_X5_repair rfl ⟨rfl, rfl⟩ ndX5_repair ⟨Nat.le_of_ble_eq_true rfl, Nat.le_of_ble_eq_true rfl⟩ hK hP hD hS hA 13 rfl rfl rfl hl rfl (Nat.le_of_ble_eq_true rfl) dL_law_429 ⟨Nat.le_of_ble_eq_true rfl, Nat.le_of_ble_eq_true rfl⟩ (fun H locs hP hD hS => ?_)
  have z := z_repair hR (xs (v3 + 1).toNatClampNeg)
  have hP : va_P D vwCl (LW cI h a (kX5_repair f g (xs (v3 + 1).toNatClampNeg)).2.1 ++ (KR cI cZ cQ h b (kX5_repair f g (xs (v3 + 1).toNatClampNeg)).2.2 ++ MW cI hm am M)) H := hP
  have hD : va_D (fun q : Nat => s.heap.size ≤ q) (LW cI h a (kX5_repair f g (xs (v3 + 1).toNatClampNeg)).2.1 ++ (KR cI cZ cQ h b (kX5_repair f g (xs (v3 + 1).toNatClampNeg)).2.2 ++ MW cI hm am M)) := hD
  generalize kX5_repair f g (xs (v3 + 1).toNatClampNeg) = r5 at z hP hD ⊢
  have hP := rotP hP
  have hD := rotD hD
  refine lv_aload_n hx hb dL_law_432 rfl (lv_at hl 2 rfl) ?_
  refine lv_aload_n hx hb dL_law_433 rfl (lv_at hl 0 rfl) ?_
  refine lv_iload_n hx hb dL_law_434 rfl (lv_at hl 3 rfl) ?_
  refine lv_iconst (v := 1) hx hb dL_law_435 (by decide) ?_
  refine lv_iadd hx hb dL_law_436 ?_
  refine va_sld hx hb hX hbl hbA hS h1 dL_law_437 ?_
  refine k_wi (As := [.int (xs (v3 + 1).toNatClampNeg)]) (rest := [.int r5.1]) (bytes := cX6_repair) (C := RX6) S (okX6_repair l D cI cZ cQ hm am (LW cI h a r5.2.1 ++ KR cI cZ cQ h b r5.2.2) M (xs (v3 + 1).toNatClampNeg) _ (rel_ok hR) (rel_kn hR)) gL_law_X6_repair rfl ⟨rfl, rfl⟩ ndX6_repair ⟨Nat.le_of_ble_eq_true rfl, Nat.le_of_ble_eq_true rfl⟩ hK hP hD hS hA 0 rfl rfl rfl hl rfl (Nat.le_of_ble_eq_true rfl) dL_law_438 ⟨Nat.le_of_ble_eq_true rfl, Nat.le_of_ble_eq_true rfl⟩ (fun H locs hP hD hS => ?_)
  have hP : va_P D vwCl (MW cI hm am (kX6_repair M (xs (v3 + 1).toNatClampNeg)).2 ++ (LW cI h a r5.2.1 ++ KR cI cZ cQ h b r5.2.2)) H := hP
  have hD : va_D (fun q : Nat => s.heap.size ≤ q) (MW cI hm am (kX6_repair M (xs (v3 + 1).toNatClampNeg)).2 ++ (LW cI h a r5.2.1 ++ KR cI cZ cQ h b r5.2.2)) := hD
  generalize kX6_repair M (xs (v3 + 1).toNatClampNeg) = r6 at z hP hD ⊢
  obtain ⟨ez, pp', k', hR'⟩ := z
  refine lv_icmp_eq (tgt := 630) hx hb dL_law_441 (by decide) (fun _ => ?_) (fun q => absurd ez q)
  exact kk r5.2.1 r5.2.2 r6.2 pp' k' H locs hR' ⟨rotP' hP, rotD' hD, hS⟩
set_option maxHeartbeats 4000000 in
set_option maxRecDepth 100000 in
theorem cs_drift (C0 : lw_C p s m c bs L xs D cI cZ cQ) (hR : Rel f g M B pp k) (hB : B < 900000) (V : lw_V s D cI cZ cQ h a b f g hm am M H locs) (h1 : vp_in (v3 + 1) L) (h2 : vp_in (v3 + 2) L) (h3 : vp_in (v3 + 3) L) (hl : lv_has ls 4 [(0, .ref bs), (1, .ref (b 0)), (2, .ref hm), (3, .int v3)])
    (kk : ∀ (f' g' M' : Nat → Nat → Int32) (pp' k' : Nat) (H' : Heap) (locs' : List Loc), Rel f' g' M' (B + 48) pp' k' → lw_V s D cI cZ cQ h a b f' g' hm am M' H' locs' → W p l e room_1 s m #[Value.ref bs] below meth c H' locs' 47 3476 Q (F0 m 630 ls [])) : W p l e room_1 s m #[Value.ref bs] below meth c H locs 47 3476 Q (F0 m 446 ls []) := by
  obtain ⟨S, hX, hbl, hK, t, hPT⟩ := C0
  have hx := S.1
  have hb := S.2.1
  have hA : ∀ q : Nat, s.heap.size ≤ q → (fun q : Nat => s.heap.size ≤ q) q := fun _ h => h
  have hbA : ¬ (fun q : Nat => s.heap.size ≤ q) bs := Nat.not_le.mpr hbl
  obtain ⟨hP, hD, hS⟩ := V
  refine lv_aload_n hx hb dL_law_446 rfl (lv_at hl 1 rfl) ?_
  refine lv_aload_n hx hb dL_law_447 rfl (lv_at hl 0 rfl) ?_
  refine lv_iload_n hx hb dL_law_448 rfl (lv_at hl 3 rfl) ?_
  refine lv_iconst (v := 1) hx hb dL_law_449 (by decide) ?_
  refine lv_iadd hx hb dL_law_450 ?_
  refine va_sld hx hb hX hbl hbA hS h1 dL_law_451 ?_
  refine k_wi (As := [.int (xs (v3 + 1).toNatClampNeg)]) (rest := []) (bytes := cX5_drift) (C := RX5) S (okX5_drift l D cI cZ cQ h a b (MW cI hm am M) f g (xs (v3 + 1).toNatClampNeg) _ hR.1.1.1 (rel_nx hR)) gL_law_X5_drift rfl ⟨rfl, rfl⟩ ndX5_drift ⟨Nat.le_of_ble_eq_true rfl, Nat.le_of_ble_eq_true rfl⟩ hK hP hD hS hA 13 rfl rfl rfl hl rfl (Nat.le_of_ble_eq_true rfl) dL_law_452 ⟨Nat.le_of_ble_eq_true rfl, Nat.le_of_ble_eq_true rfl⟩ (fun H locs hP hD hS => ?_)
  have z := z_drift hR hB (xs (v3 + 1).toNatClampNeg)
  have hP : va_P D vwCl (LW cI h a (kX5_drift f g (xs (v3 + 1).toNatClampNeg)).2.1 ++ (KR cI cZ cQ h b (kX5_drift f g (xs (v3 + 1).toNatClampNeg)).2.2 ++ MW cI hm am M)) H := hP
  have hD : va_D (fun q : Nat => s.heap.size ≤ q) (LW cI h a (kX5_drift f g (xs (v3 + 1).toNatClampNeg)).2.1 ++ (KR cI cZ cQ h b (kX5_drift f g (xs (v3 + 1).toNatClampNeg)).2.2 ++ MW cI hm am M)) := hD
  generalize kX5_drift f g (xs (v3 + 1).toNatClampNeg) = r5 at z hP hD ⊢
  have hP := rotP hP
  have hD := rotD hD
  refine lv_aload_n hx hb dL_law_455 rfl (lv_at hl 2 rfl) ?_
  refine lv_aload_n hx hb dL_law_456 rfl (lv_at hl 0 rfl) ?_
  refine lv_iload_n hx hb dL_law_457 rfl (lv_at hl 3 rfl) ?_
  refine lv_iconst (v := 1) hx hb dL_law_458 (by decide) ?_
  refine lv_iadd hx hb dL_law_459 ?_
  refine va_sld hx hb hX hbl hbA hS h1 dL_law_460 ?_
  refine k_wi (As := [.int (xs (v3 + 1).toNatClampNeg)]) (rest := [.int r5.1]) (bytes := cX6_drift) (C := RX6) S (okX6_drift l D cI cZ cQ hm am (LW cI h a r5.2.1 ++ KR cI cZ cQ h b r5.2.2) M (xs (v3 + 1).toNatClampNeg) _ (rel_ok hR) (rel_kn hR) (rel_sd hR) ⟨f, g, B, pp, k, hR, by omega⟩) gL_law_X6_drift rfl ⟨rfl, rfl⟩ ndX6_drift ⟨Nat.le_of_ble_eq_true rfl, Nat.le_of_ble_eq_true rfl⟩ hK hP hD hS hA 0 rfl rfl rfl hl rfl (Nat.le_of_ble_eq_true rfl) dL_law_461 ⟨Nat.le_of_ble_eq_true rfl, Nat.le_of_ble_eq_true rfl⟩ (fun H locs hP hD hS => ?_)
  have hP : va_P D vwCl (MW cI hm am (kX6_drift M (xs (v3 + 1).toNatClampNeg)).2 ++ (LW cI h a r5.2.1 ++ KR cI cZ cQ h b r5.2.2)) H := hP
  have hD : va_D (fun q : Nat => s.heap.size ≤ q) (MW cI hm am (kX6_drift M (xs (v3 + 1).toNatClampNeg)).2 ++ (LW cI h a r5.2.1 ++ KR cI cZ cQ h b r5.2.2)) := hD
  generalize kX6_drift M (xs (v3 + 1).toNatClampNeg) = r6 at z hP hD ⊢
  obtain ⟨ez, pp', k', hR'⟩ := z
  refine lv_icmp_eq (tgt := 630) hx hb dL_law_464 (by decide) (fun _ => ?_) (fun q => absurd ez q)
  exact kk r5.2.1 r5.2.2 r6.2 pp' k' H locs hR' ⟨rotP' hP, rotD' hD, hS⟩
set_option maxHeartbeats 4000000 in
set_option maxRecDepth 100000 in
theorem cs_undo (C0 : lw_C p s m c bs L xs D cI cZ cQ) (hR : Rel f g M B pp k) (hB : B < 900000) (V : lw_V s D cI cZ cQ h a b f g hm am M H locs) (h1 : vp_in (v3 + 1) L) (h2 : vp_in (v3 + 2) L) (h3 : vp_in (v3 + 3) L) (hl : lv_has ls 4 [(0, .ref bs), (1, .ref (b 0)), (2, .ref hm), (3, .int v3)])
    (kk : ∀ (f' g' M' : Nat → Nat → Int32) (pp' k' : Nat) (H' : Heap) (locs' : List Loc), Rel f' g' M' (B + 48) pp' k' → lw_V s D cI cZ cQ h a b f' g' hm am M' H' locs' → W p l e room_1 s m #[Value.ref bs] below meth c H' locs' 47 3476 Q (F0 m 630 ls [])) : W p l e room_1 s m #[Value.ref bs] below meth c H locs 47 3476 Q (F0 m 469 ls []) := by
  obtain ⟨S, hX, hbl, hK, t, hPT⟩ := C0
  have hx := S.1
  have hb := S.2.1
  have hA : ∀ q : Nat, s.heap.size ≤ q → (fun q : Nat => s.heap.size ≤ q) q := fun _ h => h
  have hbA : ¬ (fun q : Nat => s.heap.size ≤ q) bs := Nat.not_le.mpr hbl
  obtain ⟨hP, hD, hS⟩ := V
  refine lv_aload_n hx hb dL_law_469 rfl (lv_at hl 1 rfl) ?_
  refine lv_aload_n hx hb dL_law_470 rfl (lv_at hl 0 rfl) ?_
  refine lv_iload_n hx hb dL_law_471 rfl (lv_at hl 3 rfl) ?_
  refine lv_iconst (v := 1) hx hb dL_law_472 (by decide) ?_
  refine lv_iadd hx hb dL_law_473 ?_
  refine va_sld hx hb hX hbl hbA hS h1 dL_law_474 ?_
  refine k_wi (As := [.int (xs (v3 + 1).toNatClampNeg)]) (rest := []) (bytes := cX5_undo) (C := RX5) S (okX5_undo l D cI cZ cQ h a b (MW cI hm am M) f g (xs (v3 + 1).toNatClampNeg) _ (rel_nx hR) (rel_sz hR)) gL_law_X5_undo rfl ⟨rfl, rfl⟩ ndX5_undo ⟨Nat.le_of_ble_eq_true rfl, Nat.le_of_ble_eq_true rfl⟩ hK hP hD hS hA 13 rfl rfl rfl hl rfl (Nat.le_of_ble_eq_true rfl) dL_law_475 ⟨Nat.le_of_ble_eq_true rfl, Nat.le_of_ble_eq_true rfl⟩ (fun H locs hP hD hS => ?_)
  have z := z_undo hR (xs (v3 + 1).toNatClampNeg)
  have hP : va_P D vwCl (LW cI h a (kX5_undo f g (xs (v3 + 1).toNatClampNeg)).2.1 ++ (KR cI cZ cQ h b (kX5_undo f g (xs (v3 + 1).toNatClampNeg)).2.2 ++ MW cI hm am M)) H := hP
  have hD : va_D (fun q : Nat => s.heap.size ≤ q) (LW cI h a (kX5_undo f g (xs (v3 + 1).toNatClampNeg)).2.1 ++ (KR cI cZ cQ h b (kX5_undo f g (xs (v3 + 1).toNatClampNeg)).2.2 ++ MW cI hm am M)) := hD
  generalize kX5_undo f g (xs (v3 + 1).toNatClampNeg) = r5 at z hP hD ⊢
  have hP := rotP hP
  have hD := rotD hD
  refine lv_aload_n hx hb dL_law_478 rfl (lv_at hl 2 rfl) ?_
  refine lv_aload_n hx hb dL_law_479 rfl (lv_at hl 0 rfl) ?_
  refine lv_iload_n hx hb dL_law_480 rfl (lv_at hl 3 rfl) ?_
  refine lv_iconst (v := 1) hx hb dL_law_481 (by decide) ?_
  refine lv_iadd hx hb dL_law_482 ?_
  refine va_sld hx hb hX hbl hbA hS h1 dL_law_483 ?_
  refine k_wi (As := [.int (xs (v3 + 1).toNatClampNeg)]) (rest := [.int r5.1]) (bytes := cX6_undo) (C := RX6) S (okX6_undo l D cI cZ cQ hm am (LW cI h a r5.2.1 ++ KR cI cZ cQ h b r5.2.2) M (xs (v3 + 1).toNatClampNeg) _ (rel_kn hR)) gL_law_X6_undo rfl ⟨rfl, rfl⟩ ndX6_undo ⟨Nat.le_of_ble_eq_true rfl, Nat.le_of_ble_eq_true rfl⟩ hK hP hD hS hA 0 rfl rfl rfl hl rfl (Nat.le_of_ble_eq_true rfl) dL_law_484 ⟨Nat.le_of_ble_eq_true rfl, Nat.le_of_ble_eq_true rfl⟩ (fun H locs hP hD hS => ?_)
  have hP : va_P D vwCl (MW cI hm am (kX6_undo M (xs (v3 + 1).toNatClampNeg)).2 ++ (LW cI h a r5.2.1 ++ KR cI cZ cQ h b r5.2.2)) H := hP
  have hD : va_D (fun q : Nat => s.heap.size ≤ q) (MW cI hm am (kX6_undo M (xs (v3 + 1).toNatClampNeg)).2 ++ (LW cI h a r5.2.1 ++ KR cI cZ cQ h b r5.2.2)) := hD
  generalize kX6_undo M (xs (v3 + 1).toNatClampNeg) = r6 at z hP hD ⊢
  obtain ⟨ez, pp', k', hR'⟩ := z
  refine lv_icmp_eq (tgt := 630) hx hb dL_law_487 (by decide) (fun _ => ?_) (fun q => absurd ez q)
  exact kk r5.2.1 r5.2.2 r6.2 pp' k' H locs hR' ⟨rotP' hP, rotD' hD, hS⟩
set_option maxHeartbeats 4000000 in
set_option maxRecDepth 100000 in
theorem cs_would (C0 : lw_C p s m c bs L xs D cI cZ cQ) (hR : Rel f g M B pp k) (hB : B < 900000) (V : lw_V s D cI cZ cQ h a b f g hm am M H locs) (h1 : vp_in (v3 + 1) L) (h2 : vp_in (v3 + 2) L) (h3 : vp_in (v3 + 3) L) (hl : lv_has ls 4 [(0, .ref bs), (1, .ref (b 0)), (2, .ref hm), (3, .int v3)])
    (kk : ∀ (f' g' M' : Nat → Nat → Int32) (pp' k' : Nat) (H' : Heap) (locs' : List Loc), Rel f' g' M' (B + 48) pp' k' → lw_V s D cI cZ cQ h a b f' g' hm am M' H' locs' → W p l e room_1 s m #[Value.ref bs] below meth c H' locs' 47 3476 Q (F0 m 630 ls [])) : W p l e room_1 s m #[Value.ref bs] below meth c H locs 47 3476 Q (F0 m 492 ls []) := by
  obtain ⟨S, hX, hbl, hK, t, hPT⟩ := C0
  have hx := S.1
  have hb := S.2.1
  have hA : ∀ q : Nat, s.heap.size ≤ q → (fun q : Nat => s.heap.size ≤ q) q := fun _ h => h
  have hbA : ¬ (fun q : Nat => s.heap.size ≤ q) bs := Nat.not_le.mpr hbl
  obtain ⟨hP, hD, hS⟩ := V
  refine lv_aload_n hx hb dL_law_492 rfl (lv_at hl 1 rfl) ?_
  refine lv_aload_n hx hb dL_law_493 rfl (lv_at hl 0 rfl) ?_
  refine lv_iload_n hx hb dL_law_494 rfl (lv_at hl 3 rfl) ?_
  refine lv_iconst (v := 1) hx hb dL_law_495 (by decide) ?_
  refine lv_iadd hx hb dL_law_496 ?_
  refine va_sld hx hb hX hbl hbA hS h1 dL_law_497 ?_
  refine k_wi (As := [.int (xs (v3 + 1).toNatClampNeg)]) (rest := []) (bytes := cX5_would) (C := RX5) S (okX5_would l D cI cZ cQ h a b (MW cI hm am M) f g (xs (v3 + 1).toNatClampNeg) _ hR.1.1.1) gL_law_X5_would rfl ⟨rfl, rfl⟩ ndX5_would ⟨Nat.le_of_ble_eq_true rfl, Nat.le_of_ble_eq_true rfl⟩ hK hP hD hS hA 13 rfl rfl rfl hl rfl (Nat.le_of_ble_eq_true rfl) dL_law_498 ⟨Nat.le_of_ble_eq_true rfl, Nat.le_of_ble_eq_true rfl⟩ (fun H locs hP hD hS => ?_)
  have z := z_would hR (xs (v3 + 1).toNatClampNeg)
  have hP : va_P D vwCl (LW cI h a (kX5_would f g (xs (v3 + 1).toNatClampNeg)).2.1 ++ (KR cI cZ cQ h b (kX5_would f g (xs (v3 + 1).toNatClampNeg)).2.2 ++ MW cI hm am M)) H := hP
  have hD : va_D (fun q : Nat => s.heap.size ≤ q) (LW cI h a (kX5_would f g (xs (v3 + 1).toNatClampNeg)).2.1 ++ (KR cI cZ cQ h b (kX5_would f g (xs (v3 + 1).toNatClampNeg)).2.2 ++ MW cI hm am M)) := hD
  generalize kX5_would f g (xs (v3 + 1).toNatClampNeg) = r5 at z hP hD ⊢
  have hP := rotP hP
  have hD := rotD hD
  refine lv_aload_n hx hb dL_law_501 rfl (lv_at hl 2 rfl) ?_
  refine lv_aload_n hx hb dL_law_502 rfl (lv_at hl 0 rfl) ?_
  refine lv_iload_n hx hb dL_law_503 rfl (lv_at hl 3 rfl) ?_
  refine lv_iconst (v := 1) hx hb dL_law_504 (by decide) ?_
  refine lv_iadd hx hb dL_law_505 ?_
  refine va_sld hx hb hX hbl hbA hS h1 dL_law_506 ?_
  refine k_wi (As := [.int (xs (v3 + 1).toNatClampNeg)]) (rest := [.int r5.1]) (bytes := cX6_would) (C := RX6) S (okX6_would l D cI cZ cQ hm am (LW cI h a r5.2.1 ++ KR cI cZ cQ h b r5.2.2) M (xs (v3 + 1).toNatClampNeg) _ (rel_ok hR)) gL_law_X6_would rfl ⟨rfl, rfl⟩ ndX6_would ⟨Nat.le_of_ble_eq_true rfl, Nat.le_of_ble_eq_true rfl⟩ hK hP hD hS hA 0 rfl rfl rfl hl rfl (Nat.le_of_ble_eq_true rfl) dL_law_507 ⟨Nat.le_of_ble_eq_true rfl, Nat.le_of_ble_eq_true rfl⟩ (fun H locs hP hD hS => ?_)
  have hP : va_P D vwCl (MW cI hm am (kX6_would M (xs (v3 + 1).toNatClampNeg)).2 ++ (LW cI h a r5.2.1 ++ KR cI cZ cQ h b r5.2.2)) H := hP
  have hD : va_D (fun q : Nat => s.heap.size ≤ q) (MW cI hm am (kX6_would M (xs (v3 + 1).toNatClampNeg)).2 ++ (LW cI h a r5.2.1 ++ KR cI cZ cQ h b r5.2.2)) := hD
  generalize kX6_would M (xs (v3 + 1).toNatClampNeg) = r6 at z hP hD ⊢
  obtain ⟨ez, pp', k', hR'⟩ := z
  refine lv_icmp_eq (tgt := 630) hx hb dL_law_510 (by decide) (fun _ => ?_) (fun q => absurd ez q)
  exact kk r5.2.1 r5.2.2 r6.2 pp' k' H locs hR' ⟨rotP' hP, rotD' hD, hS⟩
set_option maxHeartbeats 4000000 in
set_option maxRecDepth 100000 in
theorem cs_write (C0 : lw_C p s m c bs L xs D cI cZ cQ) (hR : Rel f g M B pp k) (hB : B < 900000) (V : lw_V s D cI cZ cQ h a b f g hm am M H locs) (h1 : vp_in (v3 + 1) L) (h2 : vp_in (v3 + 2) L) (h3 : vp_in (v3 + 3) L) (hl : lv_has ls 4 [(0, .ref bs), (1, .ref (b 0)), (2, .ref hm), (3, .int v3)])
    (kk : ∀ (f' g' M' : Nat → Nat → Int32) (pp' k' : Nat) (H' : Heap) (locs' : List Loc), Rel f' g' M' (B + 48) pp' k' → lw_V s D cI cZ cQ h a b f' g' hm am M' H' locs' → W p l e room_1 s m #[Value.ref bs] below meth c H' locs' 47 3476 Q (F0 m 630 ls [])) : W p l e room_1 s m #[Value.ref bs] below meth c H locs 47 3476 Q (F0 m 515 ls []) := by
  obtain ⟨S, hX, hbl, hK, t, hPT⟩ := C0
  have hx := S.1
  have hb := S.2.1
  have hA : ∀ q : Nat, s.heap.size ≤ q → (fun q : Nat => s.heap.size ≤ q) q := fun _ h => h
  have hbA : ¬ (fun q : Nat => s.heap.size ≤ q) bs := Nat.not_le.mpr hbl
  obtain ⟨hP, hD, hS⟩ := V
  refine lv_aload_n hx hb dL_law_515 rfl (lv_at hl 1 rfl) ?_
  refine lv_aload_n hx hb dL_law_516 rfl (lv_at hl 0 rfl) ?_
  refine lv_iload_n hx hb dL_law_517 rfl (lv_at hl 3 rfl) ?_
  refine lv_iconst (v := 1) hx hb dL_law_518 (by decide) ?_
  refine lv_iadd hx hb dL_law_519 ?_
  refine va_sld hx hb hX hbl hbA hS h1 dL_law_520 ?_
  refine lv_aload_n hx hb dL_law_521 rfl (lv_at hl 0 rfl) ?_
  refine lv_iload_n hx hb dL_law_522 rfl (lv_at hl 3 rfl) ?_
  refine lv_iconst (v := 2) hx hb dL_law_523 (by decide) ?_
  refine lv_iadd hx hb dL_law_524 ?_
  refine va_sld hx hb hX hbl hbA hS h2 dL_law_525 ?_
  refine k_wi (As := [.int (xs (v3 + 1).toNatClampNeg), .int (xs (v3 + 2).toNatClampNeg)]) (rest := []) (bytes := cX5_write) (C := RX5) S (okX5_write l D cI cZ cQ h a b (MW cI hm am M) f g (xs (v3 + 1).toNatClampNeg) (xs (v3 + 2).toNatClampNeg) _ hR.1.1.1) gL_law_X5_write rfl ⟨rfl, rfl⟩ ndX5_write ⟨Nat.le_of_ble_eq_true rfl, Nat.le_of_ble_eq_true rfl⟩ hK hP hD hS hA 13 rfl rfl rfl hl rfl (Nat.le_of_ble_eq_true rfl) dL_law_526 ⟨Nat.le_of_ble_eq_true rfl, Nat.le_of_ble_eq_true rfl⟩ (fun H locs hP hD hS => ?_)
  have z := z_write hR (xs (v3 + 1).toNatClampNeg) (xs (v3 + 2).toNatClampNeg)
  have hP : va_P D vwCl (LW cI h a f ++ (KR cI cZ cQ h b (kX5_write f g (xs (v3 + 1).toNatClampNeg) (xs (v3 + 2).toNatClampNeg)).2 ++ MW cI hm am M)) H := hP
  have hD : va_D (fun q : Nat => s.heap.size ≤ q) (LW cI h a f ++ (KR cI cZ cQ h b (kX5_write f g (xs (v3 + 1).toNatClampNeg) (xs (v3 + 2).toNatClampNeg)).2 ++ MW cI hm am M)) := hD
  generalize kX5_write f g (xs (v3 + 1).toNatClampNeg) (xs (v3 + 2).toNatClampNeg) = r5 at z hP hD ⊢
  have hP := rotP hP
  have hD := rotD hD
  refine lv_aload_n hx hb dL_law_529 rfl (lv_at hl 2 rfl) ?_
  refine lv_aload_n hx hb dL_law_530 rfl (lv_at hl 0 rfl) ?_
  refine lv_iload_n hx hb dL_law_531 rfl (lv_at hl 3 rfl) ?_
  refine lv_iconst (v := 1) hx hb dL_law_532 (by decide) ?_
  refine lv_iadd hx hb dL_law_533 ?_
  refine va_sld hx hb hX hbl hbA hS h1 dL_law_534 ?_
  refine lv_aload_n hx hb dL_law_535 rfl (lv_at hl 0 rfl) ?_
  refine lv_iload_n hx hb dL_law_536 rfl (lv_at hl 3 rfl) ?_
  refine lv_iconst (v := 2) hx hb dL_law_537 (by decide) ?_
  refine lv_iadd hx hb dL_law_538 ?_
  refine va_sld hx hb hX hbl hbA hS h2 dL_law_539 ?_
  refine k_wi (As := [.int (xs (v3 + 1).toNatClampNeg), .int (xs (v3 + 2).toNatClampNeg)]) (rest := [.int r5.1]) (bytes := cX6_write) (C := RX6) S (okX6_write l D cI cZ cQ hm am (LW cI h a f ++ KR cI cZ cQ h b r5.2) M (xs (v3 + 1).toNatClampNeg) (xs (v3 + 2).toNatClampNeg) _ (rel_ok hR) (rel_bk hR)) gL_law_X6_write rfl ⟨rfl, rfl⟩ ndX6_write ⟨Nat.le_of_ble_eq_true rfl, Nat.le_of_ble_eq_true rfl⟩ hK hP hD hS hA 0 rfl rfl rfl hl rfl (Nat.le_of_ble_eq_true rfl) dL_law_540 ⟨Nat.le_of_ble_eq_true rfl, Nat.le_of_ble_eq_true rfl⟩ (fun H locs hP hD hS => ?_)
  have hP : va_P D vwCl (MW cI hm am (kX6_write M (xs (v3 + 1).toNatClampNeg) (xs (v3 + 2).toNatClampNeg)).2 ++ (LW cI h a f ++ KR cI cZ cQ h b r5.2)) H := hP
  have hD : va_D (fun q : Nat => s.heap.size ≤ q) (MW cI hm am (kX6_write M (xs (v3 + 1).toNatClampNeg) (xs (v3 + 2).toNatClampNeg)).2 ++ (LW cI h a f ++ KR cI cZ cQ h b r5.2)) := hD
  generalize kX6_write M (xs (v3 + 1).toNatClampNeg) (xs (v3 + 2).toNatClampNeg) = r6 at z hP hD ⊢
  obtain ⟨ez, pp', k', hR'⟩ := z
  refine lv_icmp_eq (tgt := 630) hx hb dL_law_543 (by decide) (fun _ => ?_) (fun q => absurd ez q)
  exact kk f r5.2 r6.2 pp' k' H locs hR' ⟨rotP' hP, rotD' hD, hS⟩
set_option maxHeartbeats 4000000 in
set_option maxRecDepth 100000 in
theorem cs_tear (C0 : lw_C p s m c bs L xs D cI cZ cQ) (hR : Rel f g M B pp k) (hB : B < 900000) (V : lw_V s D cI cZ cQ h a b f g hm am M H locs) (h1 : vp_in (v3 + 1) L) (h2 : vp_in (v3 + 2) L) (h3 : vp_in (v3 + 3) L) (hl : lv_has ls 4 [(0, .ref bs), (1, .ref (b 0)), (2, .ref hm), (3, .int v3)])
    (kk : ∀ (f' g' M' : Nat → Nat → Int32) (pp' k' : Nat) (H' : Heap) (locs' : List Loc), Rel f' g' M' (B + 48) pp' k' → lw_V s D cI cZ cQ h a b f' g' hm am M' H' locs' → W p l e room_1 s m #[Value.ref bs] below meth c H' locs' 47 3476 Q (F0 m 630 ls [])) : W p l e room_1 s m #[Value.ref bs] below meth c H locs 47 3476 Q (F0 m 548 ls []) := by
  obtain ⟨S, hX, hbl, hK, t, hPT⟩ := C0
  have hx := S.1
  have hb := S.2.1
  have hA : ∀ q : Nat, s.heap.size ≤ q → (fun q : Nat => s.heap.size ≤ q) q := fun _ h => h
  have hbA : ¬ (fun q : Nat => s.heap.size ≤ q) bs := Nat.not_le.mpr hbl
  obtain ⟨hP, hD, hS⟩ := V
  refine lv_aload_n hx hb dL_law_548 rfl (lv_at hl 1 rfl) ?_
  refine k_wi (As := []) (rest := []) (bytes := cX5_tear) (C := RX5) S (okX5_tear l D cI cZ cQ h a b (MW cI hm am M) f g  _ ) gL_law_X5_tear rfl ⟨rfl, rfl⟩ ndX5_tear ⟨Nat.le_of_ble_eq_true rfl, Nat.le_of_ble_eq_true rfl⟩ hK hP hD hS hA 13 rfl rfl rfl hl rfl (Nat.le_of_ble_eq_true rfl) dL_law_549 ⟨Nat.le_of_ble_eq_true rfl, Nat.le_of_ble_eq_true rfl⟩ (fun H locs hP hD hS => ?_)
  have z := z_tear hR
  have hP : va_P D vwCl (LW cI h a f ++ (KR cI cZ cQ h b (kX5_tear f g).2 ++ MW cI hm am M)) H := hP
  have hD : va_D (fun q : Nat => s.heap.size ≤ q) (LW cI h a f ++ (KR cI cZ cQ h b (kX5_tear f g).2 ++ MW cI hm am M)) := hD
  generalize kX5_tear f g = r5 at z hP hD ⊢
  have hP := rotP hP
  have hD := rotD hD
  refine lv_aload_n hx hb dL_law_552 rfl (lv_at hl 2 rfl) ?_
  refine k_wi (As := []) (rest := [.int r5.1]) (bytes := cX6_tear) (C := RX6) S (okX6_tear l D cI cZ cQ hm am (LW cI h a f ++ KR cI cZ cQ h b r5.2) M  _ ) gL_law_X6_tear rfl ⟨rfl, rfl⟩ ndX6_tear ⟨Nat.le_of_ble_eq_true rfl, Nat.le_of_ble_eq_true rfl⟩ hK hP hD hS hA 0 rfl rfl rfl hl rfl (Nat.le_of_ble_eq_true rfl) dL_law_553 ⟨Nat.le_of_ble_eq_true rfl, Nat.le_of_ble_eq_true rfl⟩ (fun H locs hP hD hS => ?_)
  have hP : va_P D vwCl (MW cI hm am (kX6_tear M).2 ++ (LW cI h a f ++ KR cI cZ cQ h b r5.2)) H := hP
  have hD : va_D (fun q : Nat => s.heap.size ≤ q) (MW cI hm am (kX6_tear M).2 ++ (LW cI h a f ++ KR cI cZ cQ h b r5.2)) := hD
  generalize kX6_tear M = r6 at z hP hD ⊢
  obtain ⟨ez, pp', k', hR'⟩ := z
  refine lv_icmp_eq (tgt := 630) hx hb dL_law_556 (by decide) (fun _ => ?_) (fun q => absurd ez q)
  exact kk f r5.2 r6.2 pp' k' H locs hR' ⟨rotP' hP, rotD' hD, hS⟩
set_option maxHeartbeats 4000000 in
set_option maxRecDepth 100000 in
theorem cs_seed (C0 : lw_C p s m c bs L xs D cI cZ cQ) (hR : Rel f g M B pp k) (hB : B < 900000) (V : lw_V s D cI cZ cQ h a b f g hm am M H locs) (h1 : vp_in (v3 + 1) L) (h2 : vp_in (v3 + 2) L) (h3 : vp_in (v3 + 3) L) (hl : lv_has ls 4 [(0, .ref bs), (1, .ref (b 0)), (2, .ref hm), (3, .int v3)])
    (kk : ∀ (f' g' M' : Nat → Nat → Int32) (pp' k' : Nat) (H' : Heap) (locs' : List Loc), Rel f' g' M' (B + 48) pp' k' → lw_V s D cI cZ cQ h a b f' g' hm am M' H' locs' → W p l e room_1 s m #[Value.ref bs] below meth c H' locs' 47 3476 Q (F0 m 630 ls [])) : W p l e room_1 s m #[Value.ref bs] below meth c H locs 47 3476 Q (F0 m 561 ls []) := by
  obtain ⟨S, hX, hbl, hK, t, hPT⟩ := C0
  have hx := S.1
  have hb := S.2.1
  have hA : ∀ q : Nat, s.heap.size ≤ q → (fun q : Nat => s.heap.size ≤ q) q := fun _ h => h
  have hbA : ¬ (fun q : Nat => s.heap.size ≤ q) bs := Nat.not_le.mpr hbl
  obtain ⟨hP, hD, hS⟩ := V
  refine lv_aload_n hx hb dL_law_561 rfl (lv_at hl 1 rfl) ?_
  refine lv_aload_n hx hb dL_law_562 rfl (lv_at hl 0 rfl) ?_
  refine lv_iload_n hx hb dL_law_563 rfl (lv_at hl 3 rfl) ?_
  refine lv_iconst (v := 1) hx hb dL_law_564 (by decide) ?_
  refine lv_iadd hx hb dL_law_565 ?_
  refine va_sld hx hb hX hbl hbA hS h1 dL_law_566 ?_
  refine k_wi (As := [.int (xs (v3 + 1).toNatClampNeg)]) (rest := []) (bytes := cX5_seed) (C := RX5) S (okX5_seed l D cI cZ cQ h a b (MW cI hm am M) f g (xs (v3 + 1).toNatClampNeg) _ ) gL_law_X5_seed rfl ⟨rfl, rfl⟩ ndX5_seed ⟨Nat.le_of_ble_eq_true rfl, Nat.le_of_ble_eq_true rfl⟩ hK hP hD hS hA 13 rfl rfl rfl hl rfl (Nat.le_of_ble_eq_true rfl) dL_law_567 ⟨Nat.le_of_ble_eq_true rfl, Nat.le_of_ble_eq_true rfl⟩ (fun H locs hP hD hS => ?_)
  have z := z_seed hR (xs (v3 + 1).toNatClampNeg)
  have hP : va_P D vwCl (LW cI h a f ++ (KR cI cZ cQ h b (kX5_seed f g (xs (v3 + 1).toNatClampNeg)).2 ++ MW cI hm am M)) H := hP
  have hD : va_D (fun q : Nat => s.heap.size ≤ q) (LW cI h a f ++ (KR cI cZ cQ h b (kX5_seed f g (xs (v3 + 1).toNatClampNeg)).2 ++ MW cI hm am M)) := hD
  generalize kX5_seed f g (xs (v3 + 1).toNatClampNeg) = r5 at z hP hD ⊢
  have hP := rotP hP
  have hD := rotD hD
  refine lv_aload_n hx hb dL_law_570 rfl (lv_at hl 2 rfl) ?_
  refine lv_aload_n hx hb dL_law_571 rfl (lv_at hl 0 rfl) ?_
  refine lv_iload_n hx hb dL_law_572 rfl (lv_at hl 3 rfl) ?_
  refine lv_iconst (v := 1) hx hb dL_law_573 (by decide) ?_
  refine lv_iadd hx hb dL_law_574 ?_
  refine va_sld hx hb hX hbl hbA hS h1 dL_law_575 ?_
  refine k_wi (As := [.int (xs (v3 + 1).toNatClampNeg)]) (rest := [.int r5.1]) (bytes := cX6_seed) (C := RX6) S (okX6_seed l D cI cZ cQ hm am (LW cI h a f ++ KR cI cZ cQ h b r5.2) M (xs (v3 + 1).toNatClampNeg) _ ) gL_law_X6_seed rfl ⟨rfl, rfl⟩ ndX6_seed ⟨Nat.le_of_ble_eq_true rfl, Nat.le_of_ble_eq_true rfl⟩ hK hP hD hS hA 0 rfl rfl rfl hl rfl (Nat.le_of_ble_eq_true rfl) dL_law_576 ⟨Nat.le_of_ble_eq_true rfl, Nat.le_of_ble_eq_true rfl⟩ (fun H locs hP hD hS => ?_)
  have hP : va_P D vwCl (MW cI hm am (kX6_seed M (xs (v3 + 1).toNatClampNeg)).2 ++ (LW cI h a f ++ KR cI cZ cQ h b r5.2)) H := hP
  have hD : va_D (fun q : Nat => s.heap.size ≤ q) (MW cI hm am (kX6_seed M (xs (v3 + 1).toNatClampNeg)).2 ++ (LW cI h a f ++ KR cI cZ cQ h b r5.2)) := hD
  generalize kX6_seed M (xs (v3 + 1).toNatClampNeg) = r6 at z hP hD ⊢
  obtain ⟨ez, pp', k', hR'⟩ := z
  refine lv_icmp_eq (tgt := 630) hx hb dL_law_579 (by decide) (fun _ => ?_) (fun q => absurd ez q)
  exact kk f r5.2 r6.2 pp' k' H locs hR' ⟨rotP' hP, rotD' hD, hS⟩
set_option maxHeartbeats 4000000 in
set_option maxRecDepth 100000 in
theorem cs_keep (C0 : lw_C p s m c bs L xs D cI cZ cQ) (hR : Rel f g M B pp k) (hB : B < 900000) (V : lw_V s D cI cZ cQ h a b f g hm am M H locs) (h1 : vp_in (v3 + 1) L) (h2 : vp_in (v3 + 2) L) (h3 : vp_in (v3 + 3) L) (hl : lv_has ls 4 [(0, .ref bs), (1, .ref (b 0)), (2, .ref hm), (3, .int v3)])
    (kk : ∀ (f' g' M' : Nat → Nat → Int32) (pp' k' : Nat) (H' : Heap) (locs' : List Loc), Rel f' g' M' (B + 48) pp' k' → lw_V s D cI cZ cQ h a b f' g' hm am M' H' locs' → W p l e room_1 s m #[Value.ref bs] below meth c H' locs' 47 3476 Q (F0 m 630 ls [])) : W p l e room_1 s m #[Value.ref bs] below meth c H locs 47 3476 Q (F0 m 584 ls []) := by
  obtain ⟨S, hX, hbl, hK, t, hPT⟩ := C0
  have hx := S.1
  have hb := S.2.1
  have hA : ∀ q : Nat, s.heap.size ≤ q → (fun q : Nat => s.heap.size ≤ q) q := fun _ h => h
  have hbA : ¬ (fun q : Nat => s.heap.size ≤ q) bs := Nat.not_le.mpr hbl
  obtain ⟨hP, hD, hS⟩ := V
  refine lv_aload_n hx hb dL_law_584 rfl (lv_at hl 1 rfl) ?_
  refine lv_aload_n hx hb dL_law_585 rfl (lv_at hl 0 rfl) ?_
  refine lv_iload_n hx hb dL_law_586 rfl (lv_at hl 3 rfl) ?_
  refine lv_iconst (v := 1) hx hb dL_law_587 (by decide) ?_
  refine lv_iadd hx hb dL_law_588 ?_
  refine va_sld hx hb hX hbl hbA hS h1 dL_law_589 ?_
  refine k_wi (As := [.int (xs (v3 + 1).toNatClampNeg)]) (rest := []) (bytes := cX5_keep) (C := RX5) S (okX5_keep l D cI cZ cQ h a b (MW cI hm am M) f g (xs (v3 + 1).toNatClampNeg) _ ) gL_law_X5_keep rfl ⟨rfl, rfl⟩ ndX5_keep ⟨Nat.le_of_ble_eq_true rfl, Nat.le_of_ble_eq_true rfl⟩ hK hP hD hS hA 13 rfl rfl rfl hl rfl (Nat.le_of_ble_eq_true rfl) dL_law_590 ⟨Nat.le_of_ble_eq_true rfl, Nat.le_of_ble_eq_true rfl⟩ (fun H locs hP hD hS => ?_)
  have z := z_keep hR (xs (v3 + 1).toNatClampNeg)
  have hP : va_P D vwCl (LW cI h a f ++ (KR cI cZ cQ h b (kX5_keep f g (xs (v3 + 1).toNatClampNeg)).2 ++ MW cI hm am M)) H := hP
  have hD : va_D (fun q : Nat => s.heap.size ≤ q) (LW cI h a f ++ (KR cI cZ cQ h b (kX5_keep f g (xs (v3 + 1).toNatClampNeg)).2 ++ MW cI hm am M)) := hD
  generalize kX5_keep f g (xs (v3 + 1).toNatClampNeg) = r5 at z hP hD ⊢
  have hP := rotP hP
  have hD := rotD hD
  refine lv_aload_n hx hb dL_law_593 rfl (lv_at hl 2 rfl) ?_
  refine lv_aload_n hx hb dL_law_594 rfl (lv_at hl 0 rfl) ?_
  refine lv_iload_n hx hb dL_law_595 rfl (lv_at hl 3 rfl) ?_
  refine lv_iconst (v := 1) hx hb dL_law_596 (by decide) ?_
  refine lv_iadd hx hb dL_law_597 ?_
  refine va_sld hx hb hX hbl hbA hS h1 dL_law_598 ?_
  refine k_wi (As := [.int (xs (v3 + 1).toNatClampNeg)]) (rest := [.int r5.1]) (bytes := cX6_keep) (C := RX6) S (okX6_keep l D cI cZ cQ hm am (LW cI h a f ++ KR cI cZ cQ h b r5.2) M (xs (v3 + 1).toNatClampNeg) _ ) gL_law_X6_keep rfl ⟨rfl, rfl⟩ ndX6_keep ⟨Nat.le_of_ble_eq_true rfl, Nat.le_of_ble_eq_true rfl⟩ hK hP hD hS hA 0 rfl rfl rfl hl rfl (Nat.le_of_ble_eq_true rfl) dL_law_599 ⟨Nat.le_of_ble_eq_true rfl, Nat.le_of_ble_eq_true rfl⟩ (fun H locs hP hD hS => ?_)
  have hP : va_P D vwCl (MW cI hm am (kX6_keep M (xs (v3 + 1).toNatClampNeg)).2 ++ (LW cI h a f ++ KR cI cZ cQ h b r5.2)) H := hP
  have hD : va_D (fun q : Nat => s.heap.size ≤ q) (MW cI hm am (kX6_keep M (xs (v3 + 1).toNatClampNeg)).2 ++ (LW cI h a f ++ KR cI cZ cQ h b r5.2)) := hD
  generalize kX6_keep M (xs (v3 + 1).toNatClampNeg) = r6 at z hP hD ⊢
  obtain ⟨ez, pp', k', hR'⟩ := z
  refine lv_icmp_eq (tgt := 630) hx hb dL_law_602 (by decide) (fun _ => ?_) (fun q => absurd ez q)
  exact kk f r5.2 r6.2 pp' k' H locs hR' ⟨rotP' hP, rotD' hD, hS⟩
set_option maxHeartbeats 4000000 in
set_option maxRecDepth 100000 in
theorem cs_goBack (C0 : lw_C p s m c bs L xs D cI cZ cQ) (hR : Rel f g M B pp k) (hB : B < 900000) (V : lw_V s D cI cZ cQ h a b f g hm am M H locs) (h1 : vp_in (v3 + 1) L) (h2 : vp_in (v3 + 2) L) (h3 : vp_in (v3 + 3) L) (hl : lv_has ls 4 [(0, .ref bs), (1, .ref (b 0)), (2, .ref hm), (3, .int v3)])
    (kk : ∀ (f' g' M' : Nat → Nat → Int32) (pp' k' : Nat) (H' : Heap) (locs' : List Loc), Rel f' g' M' (B + 48) pp' k' → lw_V s D cI cZ cQ h a b f' g' hm am M' H' locs' → W p l e room_1 s m #[Value.ref bs] below meth c H' locs' 47 3476 Q (F0 m 630 ls [])) : W p l e room_1 s m #[Value.ref bs] below meth c H locs 47 3476 Q (F0 m 607 ls []) := by
  obtain ⟨S, hX, hbl, hK, t, hPT⟩ := C0
  have hx := S.1
  have hb := S.2.1
  have hA : ∀ q : Nat, s.heap.size ≤ q → (fun q : Nat => s.heap.size ≤ q) q := fun _ h => h
  have hbA : ¬ (fun q : Nat => s.heap.size ≤ q) bs := Nat.not_le.mpr hbl
  obtain ⟨hP, hD, hS⟩ := V
  refine lv_aload_n hx hb dL_law_607 rfl (lv_at hl 1 rfl) ?_
  refine lv_aload_n hx hb dL_law_608 rfl (lv_at hl 0 rfl) ?_
  refine lv_iload_n hx hb dL_law_609 rfl (lv_at hl 3 rfl) ?_
  refine lv_iconst (v := 1) hx hb dL_law_610 (by decide) ?_
  refine lv_iadd hx hb dL_law_611 ?_
  refine va_sld hx hb hX hbl hbA hS h1 dL_law_612 ?_
  refine k_wi (As := [.int (xs (v3 + 1).toNatClampNeg)]) (rest := []) (bytes := cX5_goBack) (C := RX5) S (okX5_goBack l D cI cZ cQ h a b (MW cI hm am M) f g (xs (v3 + 1).toNatClampNeg) _ ) gL_law_X5_goBack rfl ⟨rfl, rfl⟩ ndX5_goBack ⟨Nat.le_of_ble_eq_true rfl, Nat.le_of_ble_eq_true rfl⟩ hK hP hD hS hA 13 rfl rfl rfl hl rfl (Nat.le_of_ble_eq_true rfl) dL_law_613 ⟨Nat.le_of_ble_eq_true rfl, Nat.le_of_ble_eq_true rfl⟩ (fun H locs hP hD hS => ?_)
  have z := z_goBack hR (xs (v3 + 1).toNatClampNeg)
  have hP : va_P D vwCl (LW cI h a (kX5_goBack f g (xs (v3 + 1).toNatClampNeg)).2.1 ++ (KR cI cZ cQ h b (kX5_goBack f g (xs (v3 + 1).toNatClampNeg)).2.2 ++ MW cI hm am M)) H := hP
  have hD : va_D (fun q : Nat => s.heap.size ≤ q) (LW cI h a (kX5_goBack f g (xs (v3 + 1).toNatClampNeg)).2.1 ++ (KR cI cZ cQ h b (kX5_goBack f g (xs (v3 + 1).toNatClampNeg)).2.2 ++ MW cI hm am M)) := hD
  generalize kX5_goBack f g (xs (v3 + 1).toNatClampNeg) = r5 at z hP hD ⊢
  have hP := rotP hP
  have hD := rotD hD
  refine lv_aload_n hx hb dL_law_616 rfl (lv_at hl 2 rfl) ?_
  refine lv_aload_n hx hb dL_law_617 rfl (lv_at hl 0 rfl) ?_
  refine lv_iload_n hx hb dL_law_618 rfl (lv_at hl 3 rfl) ?_
  refine lv_iconst (v := 1) hx hb dL_law_619 (by decide) ?_
  refine lv_iadd hx hb dL_law_620 ?_
  refine va_sld hx hb hX hbl hbA hS h1 dL_law_621 ?_
  refine k_wi (As := [.int (xs (v3 + 1).toNatClampNeg)]) (rest := [.int r5.1]) (bytes := cX6_goBack) (C := RX6) S (okX6_goBack l D cI cZ cQ hm am (LW cI h a r5.2.1 ++ KR cI cZ cQ h b r5.2.2) M (xs (v3 + 1).toNatClampNeg) _ ) gL_law_X6_goBack rfl ⟨rfl, rfl⟩ ndX6_goBack ⟨Nat.le_of_ble_eq_true rfl, Nat.le_of_ble_eq_true rfl⟩ hK hP hD hS hA 0 rfl rfl rfl hl rfl (Nat.le_of_ble_eq_true rfl) dL_law_622 ⟨Nat.le_of_ble_eq_true rfl, Nat.le_of_ble_eq_true rfl⟩ (fun H locs hP hD hS => ?_)
  have hP : va_P D vwCl (MW cI hm am (kX6_goBack M (xs (v3 + 1).toNatClampNeg)).2 ++ (LW cI h a r5.2.1 ++ KR cI cZ cQ h b r5.2.2)) H := hP
  have hD : va_D (fun q : Nat => s.heap.size ≤ q) (MW cI hm am (kX6_goBack M (xs (v3 + 1).toNatClampNeg)).2 ++ (LW cI h a r5.2.1 ++ KR cI cZ cQ h b r5.2.2)) := hD
  generalize kX6_goBack M (xs (v3 + 1).toNatClampNeg) = r6 at z hP hD ⊢
  obtain ⟨ez, pp', k', hR'⟩ := z
  refine lv_icmp_eq (tgt := 630) hx hb dL_law_625 (by decide) (fun _ => ?_) (fun q => absurd ez q)
  exact kk r5.2.1 r5.2.2 r6.2 pp' k' H locs hR' ⟨rotP' hP, rotD' hD, hS⟩
set_option maxHeartbeats 4000000 in
set_option maxRecDepth 100000 in
theorem cs_line250 (C0 : lw_C p s m c bs L xs D cI cZ cQ) (hR : Rel f g M B pp k) (hl : lv_has ls 4 [(0, .ref bs), (1, .ref (b 0)), (2, .ref hm), (3, .int v3)]) {x2 : Int32} {r5 : Int32 × (Nat → Nat → Int32) × (Nat → Nat → Int32)} (z : RQ r5 (kX6_line M (xs (v3 + 1).toNatClampNeg) x2) (B + 48)) (hP : va_P D vwCl (MW cI hm am M ++ (LW cI h a r5.2.1 ++ KR cI cZ cQ h b r5.2.2)) H) (hD : va_D (fun q : Nat => s.heap.size ≤ q) (MW cI hm am M ++ (LW cI h a r5.2.1 ++ KR cI cZ cQ h b r5.2.2))) (hS : va_S (fun q : Nat => s.heap.size ≤ q) s.heap H locs)
    (kk : ∀ (f' g' M' : Nat → Nat → Int32) (pp' k' : Nat) (H' : Heap) (locs' : List Loc), Rel f' g' M' (B + 48) pp' k' → lw_V s D cI cZ cQ h a b f' g' hm am M' H' locs' → W p l e room_1 s m #[Value.ref bs] below meth c H' locs' 47 3476 Q (F0 m 630 ls [])) : W p l e room_1 s m #[Value.ref bs] below meth c H locs 47 3476 Q (F0 m 250 ls [.int x2, .int (xs (v3 + 1).toNatClampNeg), .ref hm, .int r5.1]) := by
  obtain ⟨S, hX, hbl, hK, t, hPT⟩ := C0
  have hx := S.1
  have hb := S.2.1
  have hA : ∀ q : Nat, s.heap.size ≤ q → (fun q : Nat => s.heap.size ≤ q) q := fun _ h => h
  have hbA : ¬ (fun q : Nat => s.heap.size ≤ q) bs := Nat.not_le.mpr hbl
  refine k_wi (As := [.int (xs (v3 + 1).toNatClampNeg), .int x2]) (rest := [.int r5.1]) (bytes := cX6_line) (C := RX6) S (okX6_line l D cI cZ cQ hm am (LW cI h a r5.2.1 ++ KR cI cZ cQ h b r5.2.2) M (xs (v3 + 1).toNatClampNeg) x2 _ (rel_kn hR)) gL_law_X6_line rfl ⟨rfl, rfl⟩ ndX6_line ⟨Nat.le_of_ble_eq_true rfl, Nat.le_of_ble_eq_true rfl⟩ hK hP hD hS hA 0 rfl rfl rfl hl rfl (Nat.le_of_ble_eq_true rfl) dL_law_250 ⟨Nat.le_of_ble_eq_true rfl, Nat.le_of_ble_eq_true rfl⟩ (fun H locs hP hD hS => ?_)
  have hP : va_P D vwCl (MW cI hm am (kX6_line M (xs (v3 + 1).toNatClampNeg) x2).2 ++ (LW cI h a r5.2.1 ++ KR cI cZ cQ h b r5.2.2)) H := hP
  have hD : va_D (fun q : Nat => s.heap.size ≤ q) (MW cI hm am (kX6_line M (xs (v3 + 1).toNatClampNeg) x2).2 ++ (LW cI h a r5.2.1 ++ KR cI cZ cQ h b r5.2.2)) := hD
  generalize kX6_line M (xs (v3 + 1).toNatClampNeg) x2 = r6 at z hP hD ⊢
  obtain ⟨ez, pp', k', hR'⟩ := z
  refine lv_icmp_eq (tgt := 630) hx hb dL_law_253 (by decide) (fun _ => ?_) (fun q => absurd ez q)
  exact kk r5.2.1 r5.2.2 r6.2 pp' k' H locs hR' ⟨rotP' hP, rotD' hD, hS⟩
set_option maxHeartbeats 4000000 in
set_option maxRecDepth 100000 in
theorem cs_line228 (C0 : lw_C p s m c bs L xs D cI cZ cQ) (hR : Rel f g M B pp k) (hB : B < 900000) (V : lw_V s D cI cZ cQ h a b f g hm am M H locs) (h1 : vp_in (v3 + 1) L) (h2 : vp_in (v3 + 2) L) (h3 : vp_in (v3 + 3) L) (hl : lv_has ls 4 [(0, .ref bs), (1, .ref (b 0)), (2, .ref hm), (3, .int v3)]) {x2 : Int32} (hz : x2 = 0 ∨ x2 = 1) (e2 : x2 = if (xs (v3 + 2).toNatClampNeg) = 0 then 0 else 1)
    (kk : ∀ (f' g' M' : Nat → Nat → Int32) (pp' k' : Nat) (H' : Heap) (locs' : List Loc), Rel f' g' M' (B + 48) pp' k' → lw_V s D cI cZ cQ h a b f' g' hm am M' H' locs' → W p l e room_1 s m #[Value.ref bs] below meth c H' locs' 47 3476 Q (F0 m 630 ls [])) : W p l e room_1 s m #[Value.ref bs] below meth c H locs 47 3476 Q (F0 m 228 ls [.int x2, .int (xs (v3 + 1).toNatClampNeg), .ref (b 0)]) := by
  have C1 := C0
  obtain ⟨S, hX, hbl, hK, t, hPT⟩ := C0
  have hx := S.1
  have hb := S.2.1
  have hA : ∀ q : Nat, s.heap.size ≤ q → (fun q : Nat => s.heap.size ≤ q) q := fun _ h => h
  have hbA : ¬ (fun q : Nat => s.heap.size ≤ q) bs := Nat.not_le.mpr hbl
  obtain ⟨hP, hD, hS⟩ := V
  refine k_wi (As := [.int (xs (v3 + 1).toNatClampNeg), .int x2]) (rest := []) (bytes := cX5_line) (C := RX5) S (okX5_line l D cI cZ cQ h a b (MW cI hm am M) f g (xs (v3 + 1).toNatClampNeg) x2 _ (rel_nx hR) hz) gL_law_X5_line rfl ⟨rfl, rfl⟩ ndX5_line ⟨Nat.le_of_ble_eq_true rfl, Nat.le_of_ble_eq_true rfl⟩ hK hP hD hS hA 13 rfl rfl rfl hl rfl (Nat.le_of_ble_eq_true rfl) dL_law_228 ⟨Nat.le_of_ble_eq_true rfl, Nat.le_of_ble_eq_true rfl⟩ (fun H locs hP hD hS => ?_)
  have z := z_line hR (xs (v3 + 1).toNatClampNeg) x2 hz
  have hP : va_P D vwCl (LW cI h a (kX5_line f g (xs (v3 + 1).toNatClampNeg) x2).2.1 ++ (KR cI cZ cQ h b (kX5_line f g (xs (v3 + 1).toNatClampNeg) x2).2.2 ++ MW cI hm am M)) H := hP
  have hD : va_D (fun q : Nat => s.heap.size ≤ q) (LW cI h a (kX5_line f g (xs (v3 + 1).toNatClampNeg) x2).2.1 ++ (KR cI cZ cQ h b (kX5_line f g (xs (v3 + 1).toNatClampNeg) x2).2.2 ++ MW cI hm am M)) := hD
  generalize kX5_line f g (xs (v3 + 1).toNatClampNeg) x2 = r5 at z hP hD ⊢
  have hP2 := rotP hP
  have hD2 := rotD hD
  clear hP hD
  refine lv_aload_n hx hb dL_law_231 rfl (lv_at hl 2 rfl) ?_
  refine lv_aload_n hx hb dL_law_232 rfl (lv_at hl 0 rfl) ?_
  refine lv_iload_n hx hb dL_law_233 rfl (lv_at hl 3 rfl) ?_
  refine lv_iconst (v := 1) hx hb dL_law_234 (by decide) ?_
  refine lv_iadd hx hb dL_law_235 ?_
  refine va_sld hx hb hX hbl hbA hS h1 dL_law_236 ?_
  refine lv_aload_n hx hb dL_law_237 rfl (lv_at hl 0 rfl) ?_
  refine lv_iload_n hx hb dL_law_238 rfl (lv_at hl 3 rfl) ?_
  refine lv_iconst (v := 2) hx hb dL_law_239 (by decide) ?_
  refine lv_iadd hx hb dL_law_240 ?_
  refine va_sld hx hb hX hbl hbA hS h2 dL_law_241 ?_
  refine lv_if_eq (tgt := 249) hx hb dL_law_242 (by decide) (fun q => ?_) (fun q => ?_)
  · rw [if_pos q] at e2
    subst e2
    refine lv_iconst (v := 0) hx hb dL_law_249 (by decide) ?_
    exact cs_line250 C1 hR hl z hP2 hD2 hS kk
  · rw [if_neg q] at e2
    subst e2
    refine lv_iconst (v := 1) hx hb dL_law_245 (by decide) ?_
    refine lv_goto (tgt := 250) hx hb dL_law_246 (by decide) ?_
    exact cs_line250 C1 hR hl z hP2 hD2 hS kk
set_option maxHeartbeats 4000000 in
set_option maxRecDepth 100000 in
theorem cs_line (C0 : lw_C p s m c bs L xs D cI cZ cQ) (hR : Rel f g M B pp k) (hB : B < 900000) (V : lw_V s D cI cZ cQ h a b f g hm am M H locs) (h1 : vp_in (v3 + 1) L) (h2 : vp_in (v3 + 2) L) (h3 : vp_in (v3 + 3) L) (hl : lv_has ls 4 [(0, .ref bs), (1, .ref (b 0)), (2, .ref hm), (3, .int v3)])
    (kk : ∀ (f' g' M' : Nat → Nat → Int32) (pp' k' : Nat) (H' : Heap) (locs' : List Loc), Rel f' g' M' (B + 48) pp' k' → lw_V s D cI cZ cQ h a b f' g' hm am M' H' locs' → W p l e room_1 s m #[Value.ref bs] below meth c H' locs' 47 3476 Q (F0 m 630 ls [])) : W p l e room_1 s m #[Value.ref bs] below meth c H locs 47 3476 Q (F0 m 209 ls []) := by
  have C1 := C0
  have V1 := V
  obtain ⟨S, hX, hbl, hK, t, hPT⟩ := C0
  have hx := S.1
  have hb := S.2.1
  have hA : ∀ q : Nat, s.heap.size ≤ q → (fun q : Nat => s.heap.size ≤ q) q := fun _ h => h
  have hbA : ¬ (fun q : Nat => s.heap.size ≤ q) bs := Nat.not_le.mpr hbl
  obtain ⟨hP, hD, hS⟩ := V
  refine lv_aload_n hx hb dL_law_209 rfl (lv_at hl 1 rfl) ?_
  refine lv_aload_n hx hb dL_law_210 rfl (lv_at hl 0 rfl) ?_
  refine lv_iload_n hx hb dL_law_211 rfl (lv_at hl 3 rfl) ?_
  refine lv_iconst (v := 1) hx hb dL_law_212 (by decide) ?_
  refine lv_iadd hx hb dL_law_213 ?_
  refine va_sld hx hb hX hbl hbA hS h1 dL_law_214 ?_
  refine lv_aload_n hx hb dL_law_215 rfl (lv_at hl 0 rfl) ?_
  refine lv_iload_n hx hb dL_law_216 rfl (lv_at hl 3 rfl) ?_
  refine lv_iconst (v := 2) hx hb dL_law_217 (by decide) ?_
  refine lv_iadd hx hb dL_law_218 ?_
  refine va_sld hx hb hX hbl hbA hS h2 dL_law_219 ?_
  refine lv_if_eq (tgt := 227) hx hb dL_law_220 (by decide) (fun q => ?_) (fun q => ?_)
  · refine lv_iconst (v := 0) hx hb dL_law_227 (by decide) ?_
    exact cs_line228 C1 hR hB V1 h1 h2 h3 hl (Or.inl rfl) (if_pos q).symm kk
  · refine lv_iconst (v := 1) hx hb dL_law_223 (by decide) ?_
    refine lv_goto (tgt := 228) hx hb dL_law_224 (by decide) ?_
    exact cs_line228 C1 hR hB V1 h1 h2 h3 hl (Or.inr rfl) (if_neg q).symm kk
end LC
