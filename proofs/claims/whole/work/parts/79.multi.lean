/-! new T[n][k] out of the machine's own words (what the instruction does, an array made, a slot written, one step): nothing of the shelf that the guide bars -/
/-- the class of T[][] stands, over that of T[] -/
def mz_over (ty : FieldType) (U : State) : Prop := ∃ (comp cA : ClassId) (kA : Class), U.vm.findClass (FieldType.array ty).toString = some comp ∧ U.vm.findClass ("[" ++ (FieldType.array ty).toString) = some cA ∧ U.vm.classes[cA]? = some kA ∧ kA.kind = .array comp (.array ty)
theorem mz_over.moved {ty : FieldType} {u U : State} (hvm : u.vm.Alike U.vm) (h : mz_over ty u) : mz_over ty U := by
  obtain ⟨comp, cA, kA, h1, h2, h3, h4⟩ := h
  obtain ⟨k2, h5, h6⟩ := hvm.2.2 _ _ h3
  exact ⟨comp, cA, k2, (hvm.findClass _ _).trans h1, (hvm.findClass _ _).trans h2, h5, by rw [h6]; exact h4⟩
theorem mz_over_of {ty : FieldType} {A : Array Value} {U : State} (h : (Cond.arrayOver (.array ty)).before A U = true) : mz_over ty U := by
  simp only [Cond.before, Cond.holds, Cond.value, beq_iff_eq, Option.bind_eq_some_iff, Option.map_eq_some_iff] at h
  obtain ⟨comp, h1, cA, hi, kA, h3, hb⟩ := h
  obtain ⟨hlt, hp, -⟩ := Array.findIdx?_eq_some_iff_getElem.mp hi
  rw [(Array.getElem?_eq_some_iff.mp h3).2] at hp
  cases hq : kA.kind with
  | array q t2 =>
    rw [hq] at hb hp
    simp only [Bool.and_eq_true, decide_eq_true_eq, beq_iff_eq] at hb hp
    exact ⟨comp, cA, kA, h1, hb.2, h3, by rw [hq, hp, hb.1]⟩
  | _ =>
    rw [hq] at hb
    cases hb
section MZ1
variable {E : CtlPost} {e : Env} {d : Bool} {acts : List Action} {U : State}
/-- one row -/
theorem mz_row {comp pC : ClassId} {kC : Class} {ty : FieldType} {k : Int32} {Q : Addr → Pre} (hk : ¬ k < 0) (hkC : U.vm.classes[comp]? = some kC) (hkind : kC.kind = .array pC ty) (hlimit : ¬ k.toNatClampNeg > e.platform.arrayLengthLimit) (hheap : ¬ k.toNatClampNeg * componentBytes ty > e.platform.maxHeapBytes)
    (hcells : U.heap.size < e.platform.maxCells) (hslots : U.slotsUsed + k.toNatClampNeg ≤ e.platform.maxSlots) (hfit : fits ty (defaultValue ty) = true)
    (hq : ∀ acts', Q U.heap.size d acts' (U.pushCell { cls := comp, slots := Array.replicate k.toNatClampNeg (defaultValue ty), vm := .none })) : wp (Jvm.Op.multianewarray.make comp [k]) Q E e d acts U := by
  simp only [Jvm.Op.multianewarray.make, wp_bind', Jvm.W.ite, hk, if_false, wp_pure', Jvm.W.theClass, hkC, Option.some.injEq, exists_eq_left', hkind]
  exact Jvm.W.newArray_of hkC hkind hlimit hheap hcells hslots hfit hq
end MZ1
section MZ2
variable {p : Program} {l : Launch} {e : Env} {R : Room} {s : State} {m : MethodId} {args : Array Value} {below : List Frame} {meth : Method} {c : Code} {H : Heap} {T : State} {locs : List Loc} {cells slots : Nat}
/-- the outer array and i rows stand -/
def mz_St (p : Program) (l : Launch) (e : Env) (R : Room) (s : State) (m : MethodId) (args : Array Value) (below : List Frame) (meth : Method) (c : Code) (H : Heap) (locs : List Loc) (cells slots : Nat) (cA comp : ClassId) (N K : Nat) (dv : Value) (i : Nat) (V : State) : Prop :=
  Stand p l e R s m args below meth c V locs (cells + 1 + i) (slots + N + i * K) ∧ V.heap.size = H.size + 1 + i ∧ V.heap[H.size]? = some (arrV cA N (fun j => va_rf (if j < i then some (H.size + 1 + j) else none))) ∧ (∀ x : Nat, x < H.size → V.heap[x]? = H[x]?) ∧
    ∀ j : Nat, j < i → V.heap[H.size + 1 + j]? = some { cls := comp, slots := Array.replicate K dv, vm := .none }
variable {cA comp : ClassId} {N K : Nat} {dv : Value} {i : Nat} {V : State}
theorem mz_next (h : mz_St p l e R s m args below meth c H locs cells slots cA comp N K dv i V) (hs : s.heap.size ≤ H.size) :
    mz_St p l e R s m args below meth c H locs cells slots cA comp N K dv (i + 1) ((V.pushCell { cls := comp, slots := Array.replicate K dv, vm := .none }).setCell H.size ((arrV cA N (fun j => va_rf (if j < i then some (H.size + 1 + j) else none))).setSlot i (.ref V.heap.size))) := by
  obtain ⟨X, h1, h2, h3, h4⟩ := h
  have hc : (V.pushCell { cls := comp, slots := Array.replicate K dv, vm := .none }).heap[H.size]? = some (arrV cA N (fun j => va_rf (if j < i then some (H.size + 1 + j) else none))) := by
    rw [State.heap_pushCell, Array.getElem?_push_lt (by omega)]
    rw [← h2, Array.getElem?_eq_getElem]
  have X1 := X.pushed { cls := comp, slots := Array.replicate K dv, vm := .none }
  have X2 := (X1.stored hc i (.ref V.heap.size)).dropFresh (fun x hx => by
    rw [List.mem_singleton.mp hx]
    exact hs)
  have e1 : slots + N + i * K + (Array.replicate K dv).size = slots + N + (i + 1) * K := by
    rw [Array.size_replicate, Nat.add_mul, Nat.one_mul]
    omega
  refine ⟨e1 ▸ X2, ?_, ?_, fun x hx => ?_, fun j hj => ?_⟩
  · rw [State.heap_setCell, State.heap_pushCell, Array.size_setIfInBounds, Array.size_push, h1]
    omega
  · rw [State.heap_setCell, State.heap_pushCell, Array.getElem?_setIfInBounds_self_of_lt (by rw [Array.size_push]; omega), arrV_store, h1]
    refine congrArg (fun f => some (arrV cA N f)) (funext fun j => ?_)
    by_cases e : j = i
    · subst e
      simp [updV, va_rf]
    · by_cases h : j < i
      · simp [updV, e, h, Nat.lt_succ_of_lt h]
      · simp [updV, e, h, show ¬ j < i + 1 by omega]
  · rw [State.heap_setCell, State.heap_pushCell, Array.getElem?_setIfInBounds_ne (by omega), ← h3 x hx, Array.getElem?_push, if_neg (by omega)]
  · rw [State.heap_setCell, State.heap_pushCell, Array.getElem?_setIfInBounds_ne (by omega), Array.getElem?_push]
    by_cases e : j = i
    · rw [if_pos (by omega)]
    · rw [if_neg (by omega)]
      exact h4 j (by omega)
/-- the loop over what is left -/
theorem mz_loop {g : JFrame} {kC kA : Class} {pC : ClassId} {ty : FieldType} {k : Int32} {f : Nat → PUnit → Sem (ForInStep PUnit)}
    (hf : ∀ (i : Nat) (u : PUnit), f i u = (do let x ← Jvm.Op.multianewarray.make comp [k]; Jvm.writeLoc H.size i (.ref x); Pure.pure (ForInStep.yield PUnit.unit)))
    (hkA : s.vm.classes[cA]? = some kA) (hkindA : kA.kind = .array comp (.array ty)) (hkC : s.vm.classes[comp]? = some kC) (hkind : kC.kind = .array pC ty) (hk : ¬ k < 0)
    (hb2 : k.toNatClampNeg * componentBytes ty ≤ 536870912) (hb3 : k.toNatClampNeg ≤ 536870912) (hfit : fits ty (defaultValue ty) = true) (hs : s.heap.size ≤ H.size)
    (hcells : cells + (1 + N) ≤ R.cells) (hslots : slots + (N + N * k.toNatClampNeg) ≤ R.slots) :
    ∀ (r i : Nat) (V : State), i + r = N → mz_St p l e R s m args below meth c H locs cells slots cA comp N k.toNatClampNeg (defaultValue ty) i V →
      ∃ V2, mz_St p l e R s m args below meth c H locs cells slots cA comp N k.toNatClampNeg (defaultValue ty) N V2 ∧
        ∀ (E : CtlPost) (Q : PUnit → Pre) (d : Bool) (acts : List Action), (∀ (d2 : Bool) (acts2 : List Action), Q PUnit.unit d2 acts2 (V2.setTop g)) → wp (forIn (List.range' i r 1) PUnit.unit f) Q E e d acts (V.setTop g)
  | 0, i, V, hi, hV => by
    have e0 : i = N := hi
    subst e0
    refine ⟨V, hV, fun E Q d acts hq => ?_⟩
    simp only [List.range'_zero, List.forIn_nil, wp_pure']
    exact hq d acts
  | r + 1, i, V, hi, hV => by
    obtain ⟨V2, h2, hw⟩ := mz_loop (g := g) hf hkA hkindA hkC hkind hk hb2 hb3 hfit hs hcells hslots r (i + 1) _ (by omega) (mz_next hV hs)
    refine ⟨V2, h2, fun E Q d acts hq => ?_⟩
    have hX := hV.1
    have hal : s.vm.Alike V.vm := hX.warmed.alike
    obtain ⟨kC2, hkC2, heC⟩ := hal.2.2 _ _ hkC
    have hkind2 : kC2.kind = .array pC ty := by rw [heC]; exact hkind
    obtain ⟨kA2, hkA2, heA⟩ := hal.2.2 _ _ hkA
    have hkindA2 : kA2.kind = .array comp (.array ty) := by rw [heA]; exact hkindA
    have hle : (i + 1) * k.toNatClampNeg ≤ N * k.toNatClampNeg := Nat.mul_le_mul_right _ (by omega)
    rw [Nat.add_mul, Nat.one_mul] at hle
    obtain ⟨hr1, hr2⟩ := hX.roomAbove (a := 1) (b := k.toNatClampNeg) (by omega) (by omega)
    rw [List.range'_succ, List.forIn_cons, wp_bind', hf, wp_bind']
    refine mz_row (U := V.setTop g) hk hkC2 hkind2 (by rw [Launch.admits_arrayLengthLimit hX.admits]; omega) (by rw [Launch.admits_maxHeapBytes hX.admits]; omega) (by show V.heap.size < _; omega) (by show V.slotsUsed + _ ≤ _; exact hr2) hfit (fun acts1 => ?_)
    rw [wp_bind', Jvm.W.writeLoc]
    refine ⟨arrV cA N (fun j => va_rf (if j < i then some (H.size + 1 + j) else none)), ?_, ?_, ?_, ?_, ?_⟩
    · show (V.heap.push _)[H.size]? = _
      rw [Array.getElem?_push, if_neg (by have := hV.2.1; omega)]
      exact hV.2.2.1
    · intro h
      cases h
    · rw [arrV_size]
      omega
    · show V.fitsSlot cA .none i (.ref _) = true
      simp [State.fitsSlot, State.slotType?, hkA2, hkindA2, fits]
    · simp only [wp_pure']
      exact hw E Q _ _ hq
/-- the instruction -/
theorem mz_multi (X : Stand p l e R s m args below meth c T locs cells slots) (hexec : p.tables.exec = Jvm.exec) {own : String} {index : Nat} {ty : FieldType} (hown : s.vm.findClass own = some m.cls) (hclink : (Cond.classLink own index ("[" ++ (FieldType.array ty).toString)).before args s = true) (hover : mz_over ty s) (harr : (Cond.arrayClass ty).before args s = true)
    {g : JFrame} (hg : g.method = m) (hdg : decode c.code g.pc = .ok (.multianewarray index 2, 4)) {n k : Int32} {rest : List Value} (hstack : g.stack = .int k :: .int n :: rest) (hn : ¬ n < 0) (hk : ¬ k < 0)
    (hb1 : n.toNatClampNeg * 4 ≤ 536870912) (hb2 : k.toNatClampNeg * componentBytes ty ≤ 536870912) (hb3 : k.toNatClampNeg ≤ 536870912) (hfit : fits ty (defaultValue ty) = true) (hcells : cells + (1 + n.toNatClampNeg) ≤ R.cells) (hslots : slots + (n.toNatClampNeg + n.toNatClampNeg * k.toNatClampNeg) ≤ R.slots) :
    ∃ (V : State) (cA comp : ClassId), s.vm.findClass ("[" ++ (FieldType.array ty).toString) = some cA ∧ s.vm.findClass (FieldType.array ty).toString = some comp ∧
      mz_St p l e R s m args below meth c T.heap locs cells slots cA comp n.toNatClampNeg k.toNatClampNeg (defaultValue ty) n.toNatClampNeg V ∧
      ∀ target, Steps p.tables e below (V.setTop { g with pc := g.pc + 4, stack := .ref T.heap.size :: rest }) target → Steps p.tables e below (T.setTop g) target := by
  subst hg
  obtain ⟨comp, cA, kA, fC, fA, hkA, hkindA⟩ := hover
  obtain ⟨c2, kC, pC, fC2, hkC, hkind⟩ := Cond.arrayClass_spec harr
  cases fC.symm.trans fC2
  obtain ⟨c3, fA3, hcl⟩ := Cond.classLink_spec hown hclink e.platform (by rw [X.admits.platform])
  cases fA.symm.trans fA3
  obtain ⟨hg1, hwarm, hready⟩ := State.classEntry (e := e) X.warmed hcl
  generalize T.vm.noted g.method.cls index (.cls cA) = vm1 at hg1 hwarm hready
  have X1 := X.noted hwarm
  obtain ⟨kA2, hkA2, heA⟩ := hwarm.alike.2.2 _ _ hkA
  have hkindA2 : kA2.kind = .array comp (.array ty) := by rw [heA]; exact hkindA
  have h0 : mz_St p l e R s g.method args below meth c T.heap locs cells slots cA comp n.toNatClampNeg k.toNatClampNeg (defaultValue ty) 0 ((T.setVm vm1).pushCell { cls := cA, slots := Array.replicate n.toNatClampNeg .null, vm := .none }) := by
    refine ⟨?_, ?_, ?_, fun x hx => ?_, fun j hj => absurd hj (Nat.not_lt_zero j)⟩
    · have X2 := X1.pushed { cls := cA, slots := Array.replicate n.toNatClampNeg .null, vm := .none }
      rw [Array.size_replicate] at X2
      rw [Nat.zero_mul]
      exact X2
    · show (T.heap.push _).size = _
      rw [Array.size_push]
    · show (T.heap.push _)[T.heap.size]? = _
      rw [Array.getElem?_push_size, arrV_new]
      refine congrArg (fun f => some (arrV cA n.toNatClampNeg f)) (funext fun j => ?_)
      simp [va_rf]
    · show (T.heap.push _)[x]? = _
      rw [Array.getElem?_push, if_neg (by omega)]
  obtain ⟨hr1, hr2⟩ := X.roomAbove (a := 1) (b := n.toNatClampNeg) (by omega) (by omega)
  obtain ⟨V, hV, hw⟩ := mz_loop (p := p) (l := l) (e := e) (R := R) (s := s) (m := g.method) (args := args) (below := below) (meth := meth) (c := c) (H := T.heap) (locs := locs) (cells := cells) (slots := slots) (cA := cA) (comp := comp) (N := n.toNatClampNeg)
    (g := { g with stack := rest }) (k := k) (f := fun i _ => (do let x ← Jvm.Op.multianewarray.make comp [k]; Jvm.writeLoc T.heap.size i (.ref x); Pure.pure (ForInStep.yield PUnit.unit))) (fun _ _ => rfl) hkA hkindA hkC hkind hk hb2 hb3 hfit X.heapGrown hcells hslots n.toNatClampNeg 0 _ (Nat.zero_add _) h0
  refine ⟨V, cA, comp, fA, fC, hV, fun target hrest => ?_⟩
  refine Steps.instr (c := c) X.here ?_
  rw [hdg]
  show wp (p.tables.exec _) _ _ e false [] (T.setTop g)
  rw [hexec]
  show wp (Jvm.Op.multianewarray.sem index 2) _ _ e false [] (T.setTop g)
  have ht : ((T.setVm vm1).setTop g).topJava? = some g := State.topJava?_setTop' g X.here.top
  simp only [Jvm.Op.multianewarray.sem, wp_bind']
  rw [Jvm.W.resolveClassAt_transfer (s := T.setTop g) (State.method?_setTop g X.here.top) hg1 hready, Jvm.W.resolveClassAt_ready (s := (T.setTop g).setVm vm1) (State.method?_setTop g X.here.top) hready]
  rw [State.setVm_setTop]
  simp only [Jvm.popN, wp_bind', Jvm.W.pop, wp_pure']
  refine ⟨g, ht, .int k, .int n :: rest, hstack, { g with stack := .int n :: rest }, State.topJava?_setTop' _ (by rw [ht]; rfl), .int n, rest, rfl, ?_⟩
  rw [State.setTop_setTop, State.setTop_setTop]
  simp only [List.nil_append, List.cons_append, List.mapM_cons, List.mapM_nil, wp_bind', wp_pure']
  have hfind : List.find? (fun x : Int32 => decide (x < 0)) [k] = none := by simp [hk]
  rw [Jvm.Op.multianewarray.make]
  simp only [wp_bind', Jvm.W.ite, hn, if_false, wp_pure', Jvm.W.theClass, State.vm_setTop, State.vm_setVm, hkA2, Option.some.injEq, exists_eq_left', hkindA2]
  refine Jvm.W.newArray_of (s := (T.setVm vm1).setTop { g with stack := rest }) hkA2 hkindA2 (by rw [Launch.admits_arrayLengthLimit X.admits]; omega) (by rw [Launch.admits_maxHeapBytes X.admits]; show ¬ n.toNatClampNeg * 4 > _; omega) (by show T.heap.size < _; omega) (by show T.slotsUsed + _ ≤ _; exact hr2) rfl (fun acts1 => ?_)
  simp only [hfind, wp_pure', ite_self]
  rw [wp_bind', Std.Legacy.Range.forIn_eq_forIn_range', show ([0:n.toNatClampNeg] : Std.Legacy.Range).size = n.toNatClampNeg by simp [Std.Legacy.Range.size]]
  refine hw _ _ _ _ (fun d2 acts2 => ?_)
  simp only [wp_pure', Jvm.W.mark, Jvm.W.pushRef]
  refine ⟨{ g with stack := rest }, State.topJava?_setTop' _ hV.1.here.top, fun acts3 => ?_⟩
  rw [State.setTop_setTop, afterInstr_ok]
  exact hrest
end MZ2
