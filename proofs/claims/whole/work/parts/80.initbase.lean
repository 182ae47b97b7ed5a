/-! constructors: new T[n][m] (over part 79); array classes are known once; beginnings, ends, calls -/
section NMN
variable {p : Program} {l : Launch} {e : Env} {R : Room} {s : State} {m : MethodId} {args : Array Value} {below : List Frame} {meth : Method} {c : Code} {H : Heap} {locs : List Loc} {cells slots : Nat} {Q : State → Prop}
variable {cc : ByteArray} {pc : Nat} {ls : Array Slot} {rest : List Value} {D : va_G} {cl : List vw_C} {A : Nat → Prop} {a : Nat} {tys : List (ClassId × FieldType)} {ws : va_W} {H0 : Heap}
theorem n_mna (hexec : p.tables.exec = Jvm.exec) (hb : c.code = cc) {own : String} {index : Nat} {ty : FieldType} {cy : ClassId} (hown : s.vm.findClass own = some m.cls) (hclink : (Cond.classLink own index ("[" ++ (FieldType.array ty).toString)).before args s = true) (hover : mz_over ty s) (harr : (Cond.arrayClass ty).before args s = true) (hcy : s.vm.findClass (FieldType.array ty).toString = some cy)
    (hP : va_P D cl ws H) (hD : va_D A ws) (hS : va_S A H0 H locs) (hA : ∀ q, H0.size ≤ q → A q) {n k : Int32} {N' K' : Nat} {z : vp_A} (hn : ¬ n < 0) (hk : ¬ k < 0) (hN : n.toNatClampNeg = N') (hM : k.toNatClampNeg = K')
    (hb1 : N' * 4 ≤ 536870912) (hb2 : K' * componentBytes ty ≤ 536870912) (hb3 : K' ≤ 536870912) (hdf : fits ty (defaultValue ty) = true) (hcells : cells + (1 + N') ≤ R.cells) (hslots : slots + (N' + N' * K') ≤ R.slots) (hz : ∀ c : ClassId, ({ cls := c, slots := Array.replicate K' (defaultValue ty), vm := .none } : Cell) = vp_cell c z) (hdg : decode cc pc = .ok (.multianewarray index 2, 4))
    (kk : ∀ (q : Nat) (r : Nat → Nat) (cA : ClassId) (H1 : Heap), s.vm.findClass ("[" ++ (FieldType.array ty).toString) = some cA →
      va_P D cl ((ws ++ [(q, .inl (cA, N', .inr (.inr (.inr (.inr (fun i => if i < N' then some (r i) else none))))))]) ++ (List.range N').map (fun i => (r i, .inl (cy, z)))) H1 → va_D A ((ws ++ [(q, .inl (cA, N', .inr (.inr (.inr (.inr (fun i => if i < N' then some (r i) else none))))))]) ++ (List.range N').map (fun i => (r i, .inl (cy, z)))) → va_S A H0 H1 locs →
      W p l e R s m args below meth c H1 locs (cells + 1 + N') (slots + N' + N' * K') Q (F0 m (pc + 4) ls (.ref q :: rest))) : W p l e R s m args below meth c H locs cells slots Q (F0 m pc ls (.int k :: .int n :: rest)) := by
  subst hN
  subst hM
  intro T hT Xs
  obtain ⟨F, cA, comp, fA, fC, hSt, step⟩ := mz_multi Xs hexec hown hclink hover harr (g := F0 m pc ls (.int k :: .int n :: rest)) rfl (by rw [hb]; exact hdg) rfl hn hk hb1 hb2 hb3 hdf hcells hslots
  have ec : some cy = some comp := hcy.symm.trans fC
  cases ec
  rw [hT] at hSt
  obtain ⟨X', f1, f2, hold, hrow0⟩ := hSt
  have hrow : ∀ j : Nat, j < n.toNatClampNeg → F.heap[H.size + 1 + j]? = some (vp_cell cy z) := fun j hj => by
    rw [hrow0 j hj, hz]
  rw [← vp_cell_q cA n.toNatClampNeg (fun i => if i < n.toNatClampNeg then some (H.size + 1 + i) else none)] at f2
  have hP0 : va_P D cl ws F.heap := hP.kept (fun k9 x hx => hold x.1 ((hP k9 x hx).lt))
  have hP1 : va_P D cl (ws ++ [(H.size, .inl (cA, n.toNatClampNeg, .inr (.inr (.inr (.inr (fun i => if i < n.toNatClampNeg then some (H.size + 1 + i) else none))))))]) F.heap := hP0.app (fun k9 x hx => by
    have h0 : k9 < 1 := (List.getElem?_eq_some_iff.mp hx).1
    rw [show k9 = 0 by omega] at hx
    cases hx
    exact f2)
  have hP2 : va_P D cl ((ws ++ [(H.size, .inl (cA, n.toNatClampNeg, .inr (.inr (.inr (.inr (fun i => if i < n.toNatClampNeg then some (H.size + 1 + i) else none))))))]) ++ (List.range n.toNatClampNeg).map (fun i => (H.size + 1 + i, .inl (cy, z)))) F.heap := hP1.app (fun k9 x hx => by
    obtain ⟨i, hi, rfl⟩ := List.mem_map.mp (List.mem_of_getElem? hx)
    exact hrow i (List.mem_range.mp hi))
  have hD2 : va_D A ((ws ++ [(H.size, .inl (cA, n.toNatClampNeg, .inr (.inr (.inr (.inr (fun i => if i < n.toNatClampNeg then some (H.size + 1 + i) else none))))))]) ++ (List.range n.toNatClampNeg).map (fun i => (H.size + 1 + i, .inl (cy, z)))) := by
    have hD1 := hD.push (e := .inl (cA, n.toNatClampNeg, .inr (.inr (.inr (.inr (fun i => if i < n.toNatClampNeg then some (H.size + 1 + i) else none)))))) hP rfl (hA _ hS.1)
    generalize hW1 : ws ++ [(H.size, .inl (cA, n.toNatClampNeg, .inr (.inr (.inr (.inr (fun i => if i < n.toNatClampNeg then some (H.size + 1 + i) else none))))))] = W1 at hD1 hP1 ⊢
    have hle : ∀ (k9 : Nat) (x : Nat × va_E), W1[k9]? = some x → x.1 ≤ H.size := fun k9 x hx => by
      rw [← hW1] at hx
      by_cases hl : k9 < ws.length
      · rw [List.getElem?_append_left hl] at hx
        exact Nat.le_of_lt ((hP k9 x hx).lt)
      · rw [List.getElem?_append_right (by omega)] at hx
        have h0 : k9 - ws.length < 1 := (List.getElem?_eq_some_iff.mp hx).1
        rw [show k9 - ws.length = 0 by omega] at hx
        cases hx
        exact Nat.le_refl _
    have hr : ∀ (k9 : Nat) (x : Nat × va_E), ((List.range n.toNatClampNeg).map (fun i => ((H.size + 1 + i, .inl (cy, z)) : Nat × va_E)))[k9]? = some x → x.1 = H.size + 1 + k9 := fun k9 x hx => by
      rw [List.getElem?_map] at hx
      by_cases h9 : k9 < n.toNatClampNeg
      · rw [List.getElem?_range h9] at hx
        cases hx
        rfl
      · have hn0 : (List.range n.toNatClampNeg)[k9]? = none := List.getElem?_eq_none (by rw [List.length_range]; omega)
        rw [hn0] at hx
        cases hx
    refine ⟨fun i j x y hi hj hxy => ?_, fun k9 x hx => ?_⟩
    · by_cases h1 : i < W1.length <;> by_cases h2 : j < W1.length
      · rw [List.getElem?_append_left h1] at hi
        rw [List.getElem?_append_left h2] at hj
        exact hD1.1 i j x y hi hj hxy
      · rw [List.getElem?_append_left h1] at hi
        rw [List.getElem?_append_right (by omega)] at hj
        have := hle _ _ hi
        have := hr _ _ hj
        omega
      · rw [List.getElem?_append_right (by omega)] at hi
        rw [List.getElem?_append_left h2] at hj
        have := hle _ _ hj
        have := hr _ _ hi
        omega
      · rw [List.getElem?_append_right (by omega)] at hi hj
        have := hr _ _ hi
        have := hr _ _ hj
        omega
    · by_cases h1 : k9 < W1.length
      · rw [List.getElem?_append_left h1] at hx
        exact hD1.2 k9 x hx
      · rw [List.getElem?_append_right (by omega)] at hx
        have := hr _ _ hx
        exact hA _ (by have := hS.1; omega)
  obtain ⟨t, a1, b1⟩ := kk H.size (fun i => H.size + 1 + i) cA F.heap fA hP2 hD2 ⟨by rw [f1]; have := hS.1; omega, fun x h1 h2 => (hold x (Nat.lt_of_lt_of_le h1 hS.1)).trans (hS.2.1 x h1 h2), hS.2.2⟩ F rfl X'
  refine ⟨t, step t ?_, b1⟩
  have e : T.heap.size = H.size := by rw [hT]
  rw [e]
  exact a1
end NMN
/-- the array classes, once and for all -/
theorem TY_of {D : va_G} {s : State} {args : Array Value} (h1 : (Cond.arrayClass .int).before args s = true) (h2 : (Cond.arrayClass .boolean).before args s = true) (h3 : mz_over .int s) (hK : va_K D vwCl [] s) : ∃ cI cZ cQ, va_K D vwCl (TY cI cZ cQ) s := by
  obtain ⟨cI, kI, pI, fI, gI, hI⟩ := Cond.arrayClass_spec h1
  obtain ⟨cZ, kZ, pZ, fZ, gZ, hZ⟩ := Cond.arrayClass_spec h2
  obtain ⟨pQ, cQ, kQ, -, fQ, gQ, hQ⟩ := h3
  refine ⟨cI, cZ, cQ, hK.1, fun k q hk => ?_⟩
  have hm := List.mem_of_getElem? hk
  rcases List.mem_cons.mp hm with rfl | hm
  · exact ⟨fun n z => ⟨fun k h => (by cases h), kI, gI, pI, hI⟩, fI⟩
  · rcases List.mem_cons.mp hm with rfl | hm
    · exact ⟨fun n z => ⟨fun k h => (by cases h), kZ, gZ, pZ, hZ⟩, fZ⟩
    · rcases List.mem_cons.mp hm with rfl | hm
      · exact ⟨fun n z => ⟨fun k h => (by cases h), kQ, gQ, pQ, hQ⟩, fQ⟩
      · cases hm
section NI
variable {p : Program} {l : Launch} {e : Env} {R : Room} {s : State} {m : MethodId} {args : Array Value} {below : List Frame} {meth : Method} {c : Code} {H : Heap} {locs : List Loc} {cells slots : Nat} {Q : State → Prop}
variable {cc : ByteArray} {pc : Nat} {ls : Array Slot} {rest : List Value} {D : va_G} {A : Nat → Prop} {ws : va_W} {H0 : Heap} {cI cZ cQ : ClassId}
theorem K_I (hK : va_K D vwCl (TY cI cZ cQ) s) {cA : ClassId} (h : s.vm.findClass "[I" = some cA) : cA = cI := Option.some.inj (h.symm.trans (va_nm_int (hK.2 0 _ rfl).2))
theorem K_Z (hK : va_K D vwCl (TY cI cZ cQ) s) {cA : ClassId} (h : s.vm.findClass "[Z" = some cA) : cA = cZ := Option.some.inj (h.symm.trans (va_nm_boolean (hK.2 1 _ rfl).2))
theorem K_Q (hK : va_K D vwCl (TY cI cZ cQ) s) {cA : ClassId} (h : s.vm.findClass ("[" ++ (FieldType.array .int).toString) = some cA) : cA = cQ := Option.some.inj (h.symm.trans (hK.2 2 _ rfl).2)
theorem n_newi (hx : p.tables.exec = Jvm.exec) (hb : c.code = cc) (harr : (Cond.arrayClass .int).before args s = true) (hK : va_K D vwCl (TY cI cZ cQ) s) (hP : va_P D vwCl ws H) (hD : va_D A ws) (hS : va_S A H0 H locs) (hA : ∀ q, H0.size ≤ q → A q) {n : Int32} (N' : Nat) (hn : ¬ n < 0) (hN : n.toNatClampNeg = N') (hB : N' * 4 ≤ 536870912) (hcells : cells + 1 ≤ R.cells) (hslots : slots + N' ≤ R.slots) (hdg : decode cc pc = .ok (.newarray .int, 2))
    (kk : ∀ (q : Nat) (H1 : Heap), va_P D vwCl (ws ++ [(q, .inl (cI, N', .inl (fun _ => 0)))]) H1 → va_D A (ws ++ [(q, .inl (cI, N', .inl (fun _ => 0)))]) → va_S A H0 H1 locs → W p l e R s m args below meth c H1 locs (cells + 1) (slots + N') Q (F0 m (pc + 2) ls (.ref q :: rest))) : W p l e R s m args below meth c H locs cells slots Q (F0 m pc ls (.int n :: rest)) := by
  refine va_newa (atype := .int) (ty := .int) (a0 := (N', .inl (fun _ => 0))) hx hb harr rfl hK hP hD hS hA (fun _ => rfl) hn hN hB hcells hslots hdg (fun q cA H1 hK1 hP1 hD1 hS1 => ?_)
  have e : cA = cI := K_I hK (va_nm_int (hK1.2 3 _ rfl).2)
  subst e
  exact kk q H1 hP1 hD1 hS1
theorem n_newz (hx : p.tables.exec = Jvm.exec) (hb : c.code = cc) (harr : (Cond.arrayClass .boolean).before args s = true) (hK : va_K D vwCl (TY cI cZ cQ) s) (hP : va_P D vwCl ws H) (hD : va_D A ws) (hS : va_S A H0 H locs) (hA : ∀ q, H0.size ≤ q → A q) {n : Int32} (N' : Nat) (hn : ¬ n < 0) (hN : n.toNatClampNeg = N') (hB : N' * 1 ≤ 536870912) (hcells : cells + 1 ≤ R.cells) (hslots : slots + N' ≤ R.slots) (hdg : decode cc pc = .ok (.newarray .boolean, 2))
    (kk : ∀ (q : Nat) (H1 : Heap), va_P D vwCl (ws ++ [(q, .inl (cZ, N', .inl (fun _ => 0)))]) H1 → va_D A (ws ++ [(q, .inl (cZ, N', .inl (fun _ => 0)))]) → va_S A H0 H1 locs → W p l e R s m args below meth c H1 locs (cells + 1) (slots + N') Q (F0 m (pc + 2) ls (.ref q :: rest))) : W p l e R s m args below meth c H locs cells slots Q (F0 m pc ls (.int n :: rest)) := by
  refine va_newa (atype := .boolean) (ty := .boolean) (a0 := (N', .inl (fun _ => 0))) hx hb harr rfl hK hP hD hS hA (fun _ => rfl) hn hN hB hcells hslots hdg (fun q cA H1 hK1 hP1 hD1 hS1 => ?_)
  have e : cA = cZ := K_Z hK (va_nm_boolean (hK1.2 3 _ rfl).2)
  subst e
  exact kk q H1 hP1 hD1 hS1
/-- new int[n][k] -/
theorem n_rows (hx : p.tables.exec = Jvm.exec) (hb : c.code = cc) {own : String} {index : Nat} (hown : s.vm.findClass own = some m.cls) (hclink : (Cond.classLink own index "[[I").before args s = true) (hover : mz_over .int s) (harr : (Cond.arrayClass .int).before args s = true) (hK : va_K D vwCl (TY cI cZ cQ) s) (hP : va_P D vwCl ws H) (hD : va_D A ws) (hS : va_S A H0 H locs) (hA : ∀ q, H0.size ≤ q → A q) {n k : Int32} (N' K' : Nat) (hn : ¬ n < 0) (hk : ¬ k < 0) (hN : n.toNatClampNeg = N') (hM : k.toNatClampNeg = K') (hb1 : N' * 4 ≤ 536870912) (hb2 : K' * 4 ≤ 536870912) (hb3 : K' ≤ 536870912) (hcells : cells + (1 + N') ≤ R.cells) (hslots : slots + (N' + N' * K') ≤ R.slots) (hdg : decode cc pc = .ok (.multianewarray index 2, 4))
    (kk : ∀ (q : Nat) (r : Nat → Nat) (H1 : Heap), va_P D vwCl ((ws ++ [(q, .inl (cQ, N', .inr (.inr (.inr (.inr (fun i => if i < N' then some (r i) else none))))))]) ++ (List.range N').map (fun i => (r i, .inl (cI, K', .inl (fun _ => 0))))) H1 → va_D A ((ws ++ [(q, .inl (cQ, N', .inr (.inr (.inr (.inr (fun i => if i < N' then some (r i) else none))))))]) ++ (List.range N').map (fun i => (r i, .inl (cI, K', .inl (fun _ => 0))))) → va_S A H0 H1 locs →
      W p l e R s m args below meth c H1 locs (cells + 1 + N') (slots + N' + N' * K') Q (F0 m (pc + 4) ls (.ref q :: rest))) : W p l e R s m args below meth c H locs cells slots Q (F0 m pc ls (.int k :: .int n :: rest)) := by
  have e1 : ("[" ++ (FieldType.array .int).toString) = "[[I" := by decide +kernel
  have e2 : (FieldType.array .int).toString = "[I" := by decide +kernel
  refine n_mna (ty := .int) (cy := cI) (z := (K', .inl (fun _ => 0))) hx hb hown (by rw [e1]; exact hclink) hover harr (by rw [e2]; exact va_nm_int (hK.2 0 _ rfl).2) hP hD hS hA hn hk hN hM hb1 hb2 hb3 (by decide) hcells hslots (fun c => ?_) hdg (fun q r cA H1 hf hP1 hD1 hS1 => ?_)
  · show ({ cls := c, slots := Array.replicate K' (.int 0), vm := .none } : Cell) = _
    rw [arrV_new]
    rfl
  · have e : cA = cQ := K_Q hK hf
    subst e
    exact kk q r H1 hP1 hD1 hS1
end NI
