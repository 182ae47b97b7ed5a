/-! constructors: beginnings, ends, calls -/
def PN (av : List Value) (sz : Nat) (D : va_G) (ty : List (ClassId × FieldType)) (ws : va_W) (F : State → Prop) : Array Value → State → Prop := va_Pc av (fun U => U.heap.size = sz ∧ va_P D vwCl ws U.heap ∧ va_K D vwCl ty U ∧ va_D (fun _ => True) ws ∧ F U)
def QN {S : Type} (post : S → Prop) (D : va_G) (ty : List (ClassId × FieldType)) (ws : S → va_W) (A : Nat → Prop) : Array Value → State → Outcome → State → Prop := va_Qv post (fun u t => va_P D vwCl (ws u) t.heap ∧ va_K D vwCl ty t ∧ va_D A (ws u)) A
def sameF (F : State → Prop) : Prop := ∀ u U : State, u.vm = U.vm → F u → F U
theorem PN.blind {av : List Value} {sz : Nat} {D : va_G} {ty : List (ClassId × FieldType)} {ws : va_W} {F : State → Prop} (hF : sameF F) : FrameBlind (PN av sz D ty ws F) := fun a U g mk q => by
  obtain ⟨q0, q1, qP, qK, qD, qF⟩ := q
  exact ⟨q0, q1, qP, va_K.moved (u := U) (U := U.calling g mk a) (Vm.Alike.refl U.vm) qK, qD, hF U (U.calling g mk a) rfl qF⟩
section NB
variable {p : Program} {l : Launch} {e : Env} {R : Room} {s : State} {m : MethodId} {args : Array Value} {below : List Frame} {meth : Method} {c : Code} {H : Heap} {locs : List Loc} {cells slots : Nat} {Q : State → Prop}
variable {pc : Nat} {ls : Array Slot} {rest st0 : List Value} {Ts ws ws' : List Cond} {cc bytes : ByteArray} {nL maxL index n mc ms : Nat} {own host C : String} {y : MethodName} {rm : Room} {D : va_G} {ty : List (ClassId × FieldType)} {wd wc wr : va_W} {b : Nat} {A0 A : Nat → Prop} {H0 : Heap} {lv : List (Nat × Value)} {F : State → Prop} {S9 : Type} {post : S9 → Prop} {wsf : S9 → va_W}
theorem m_in {Qc : Array Value → State → Outcome → State → Prop} {sz : Nat} (hy : plainName y.cls = true) (hyn : y.name = "<init>") (hw : ws = Cond.code y cc 1 none :: ws')
    (body : ∀ (p : Program) (e : Env) (s : State) (m : MethodId) (below : List Frame) (meth : Method) (c : Code) (ls : Array Slot) (A : Nat → Prop), A = va_A wd sz → CallFix p m c cc 1 s [Value.ref b].toArray ws y.cls → meth.sig.returnType = none → meth.locks = false → meth.name = "<init>" → va_P D vwCl wd s.heap → va_K D vwCl ty s → va_D A wd → va_S A s.heap s.heap [] → (∀ q, s.heap.size ≤ q → A q) → F s → lv_has ls 1 [(0, Value.ref b)] →
      W p l e rm s m [Value.ref b].toArray below meth c s.heap [] 0 0 (MQ below Qc [Value.ref b].toArray s mc ms A) (F0 m 0 ls [])) : Met l y ws rm (PN [.ref b] sz D ty wd F) Qc mc ms (va_A wd sz) := by
  refine Met.ofW (cc := cc) (maxL := 1) (ret := none) hy hw ?_
  intro p e s m args below meth c s₁ B hml hv
  obtain ⟨rfl, hsz, hP, hK, hD0, hF⟩ := hv
  subst hsz
  have hl := lv_entry [Value.ref b] (n := 1) (Nat.le_of_ble_eq_true rfl)
  rw [lg_entry_eq]
  exact body p e s m below meth c _ _ rfl ⟨B.exec, B.bytes, hml, findClass_of_methodNamed B.named, atoms_spec (ws := ws) B.pre⟩ B.returns B.notSynchronized ((name_of_methodNamed B.named B.method).1.trans hyn) hP hK hD0.self va_S.rf (fun q h => Or.inr h) hF hl
theorem e_vn (u : S9) (hx : p.tables.exec = Jvm.exec) (hb : c.code = cc) (hr : meth.sig.returnType = none) (hlk : meth.locks = false) (hp : post u) (hK : va_K D vwCl ty s) (hP : va_P D vwCl (wsf u) H) (hD : va_D A (wsf u)) (hS : va_S A s.heap H locs) (hdg : decode cc pc = .ok (.return_, 1)) : W p l e R s m args below meth c H locs cells slots (MQ below (QN post D ty wsf A) args s cells slots A) (F0 m pc ls []) :=
  W.vret hx hb hr (fun t ht hW => ⟨⟨u, rfl, hp, by rw [ht]; exact hP, va_K.moved hW.alike hK, hD⟩, hS.F ht⟩) hS.2.2 hdg hlk
/-- a call of a nest mate's constructor -/
theorem k_in (S : CallFix p m c cc nL s args Ts own) (hM : Met l y ws rm (PN [.ref b] H.size D ty wc F) (QN post D ty wsf (va_A wc H.size)) mc ms (va_A wc H.size)) (hG : GoodIn Ts ws) (hw : ws = Cond.code y bytes maxL none :: ws') (hrc : rm.cells = mc) (hrs : rm.slots = ms) (hl : va_Nw (.methodLinkNest own index y host) s) (hini : (Cond.initialized y.cls).before args s = true) (hinst : (Cond.instanceMethod y).before args s = true) (hyn : y.name = "<init>")
    (hd : y.cls ≠ "java/lang/invoke/MethodHandle" ∧ y.cls ≠ "java/lang/invoke/VarHandle" ∧ (parseMethodDescriptor y.desc).map (fun d => d.parameters.length) = some 0) (hR : rm.frames + 1 ≤ R.frames ∧ 8 + (maxL + 11) + rm.locals ≤ R.locals)
    (hK : va_K D vwCl ty s) (hP : va_P D vwCl wd H) (hD : va_D A0 wd) (hS : va_S A0 H0 H locs) (hA : ∀ q, H0.size ≤ q → A0 q) (isC isR : List Nat) (hC : isC.map (fun i => wd[i]?) = wc.map some) (hCf : isC.filterMap (fun i => wd[i]?) = wc) (hRr : isR.map (fun i => wd[i]?) = wr.map some) (hnR : va_nd isR = true) (hnC : va_nd isC = true) (hdis : ∀ i ∈ isR, i ∉ isC) (hFs : sameF F) (hFw : ∀ U : State, s.WarmedH U.vm → F U) (hlv : lv_has ls nL lv) (hst : st0 = .ref b :: rest) (hW : (rest.map fun v => v.category).sum ≤ 8)
    (hdg : decode cc pc = .ok (.invokespecial index, 3)) (hf : cells + mc ≤ R.cells ∧ slots + ms ≤ R.slots)
    (kk : ∀ (u : S9) (H1 : Heap) (locs1 : List Loc), post u → va_P D vwCl (wr ++ wsf u) H1 → va_D A0 (wr ++ wsf u) → va_S A0 H0 H1 locs1 → W p l e R s m args below meth c H1 locs1 (cells + mc) (slots + ms) Q (F0 m (pc + 3) ls rest)) : W p l e R s m args below meth c H locs cells slots Q (F0 m pc ls st0) := by
  have hPc := hP.sub (ws' := wc) isC hCf
  have hDc := hD.sub (ws' := wc) isC hnC hC
  have hFc := va_free (wc := wc) hD hS hA isC hC
  refine va_callv (va_runIN (As := []) S hM ⟨va_cnB 0 S.2.2.2.2 hG hw hrc hrs hl hini hd hR, hyn, hinst⟩ ⟨PN.blind hFs, fun U hU hW => ⟨rfl, by rw [hU], by rw [hU]; exact hPc, va_K.moved hW.alike hK, hDc.weaken (fun _ _ _ _ => trivial), hFw U hW⟩⟩ rfl rfl hlv.1 hst (lv_room hW) hdg hf) hS (fun q _ h => hFc q h) hFc (fun u t H1 locs1 ht hvm hp hB hz1 hk1 hS1 => ?_)
  obtain ⟨hP1, hK1, hD1⟩ := hB
  rw [ht] at hP1
  obtain ⟨hP2, hD2⟩ := va_join (wr := wr) (w1 := wsf u) hP hD isC isR hC hRr hnR hdis hk1 hFc hP1 hD1
  exact kk u H1 locs1 hp hP2 hD2 hS1
/-- a call of a constructor that anyone may call -/
theorem k_ip (S : CallFix p m c cc nL s args Ts own) (hM : Met l y ws rm (PN [.ref b] H.size D ty wc F) (QN post D ty wsf (va_A wc H.size)) mc ms (va_A wc H.size)) (hG : GoodIn Ts ws) (hw : ws = Cond.code y bytes maxL none :: ws') (hrc : rm.cells = mc) (hrs : rm.slots = ms) (hl : (Cond.methodLink own index y).before args s = true) (hini : (Cond.initialized y.cls).before args s = true) (hinst : (Cond.instanceMethod y).before args s = true) (hyn : y.name = "<init>")
    (hd : y.cls ≠ "java/lang/invoke/MethodHandle" ∧ y.cls ≠ "java/lang/invoke/VarHandle" ∧ (parseMethodDescriptor y.desc).map (fun d => d.parameters.length) = some 0) (hR : rm.frames + 1 ≤ R.frames ∧ 8 + (maxL + 11) + rm.locals ≤ R.locals)
    (hK : va_K D vwCl ty s) (hP : va_P D vwCl wd H) (hD : va_D A0 wd) (hS : va_S A0 H0 H locs) (hA : ∀ q, H0.size ≤ q → A0 q) (isC isR : List Nat) (hC : isC.map (fun i => wd[i]?) = wc.map some) (hCf : isC.filterMap (fun i => wd[i]?) = wc) (hRr : isR.map (fun i => wd[i]?) = wr.map some) (hnR : va_nd isR = true) (hnC : va_nd isC = true) (hdis : ∀ i ∈ isR, i ∉ isC) (hFs : sameF F) (hFw : ∀ U : State, s.WarmedH U.vm → F U) (hlv : lv_has ls nL lv) (hst : st0 = .ref b :: rest) (hW : (rest.map fun v => v.category).sum ≤ 8)
    (hdg : decode cc pc = .ok (.invokespecial index, 3)) (hf : cells + mc ≤ R.cells ∧ slots + ms ≤ R.slots)
    (kk : ∀ (u : S9) (H1 : Heap) (locs1 : List Loc), post u → va_P D vwCl (wr ++ wsf u) H1 → va_D A0 (wr ++ wsf u) → va_S A0 H0 H1 locs1 → W p l e R s m args below meth c H1 locs1 (cells + mc) (slots + ms) Q (F0 m (pc + 3) ls rest)) : W p l e R s m args below meth c H locs cells slots Q (F0 m pc ls st0) := by
  have hPc := hP.sub (ws' := wc) isC hCf
  have hDc := hD.sub (ws' := wc) isC hnC hC
  have hFc := va_free (wc := wc) hD hS hA isC hC
  refine va_callv (va_runI (As := []) S hM (cwI 0 S.2.2.2.2 hG hw hrc hrs hini hl hinst hyn hd hR) ⟨PN.blind hFs, fun U hU hW => ⟨rfl, by rw [hU], by rw [hU]; exact hPc, va_K.moved hW.alike hK, hDc.weaken (fun _ _ _ _ => trivial), hFw U hW⟩⟩ rfl rfl hlv.1 hst (lv_room hW) hdg hf) hS (fun q _ h => hFc q h) hFc (fun u t H1 locs1 ht hvm hp hB hz1 hk1 hS1 => ?_)
  obtain ⟨hP1, hK1, hD1⟩ := hB
  rw [ht] at hP1
  obtain ⟨hP2, hD2⟩ := va_join (wr := wr) (w1 := wsf u) hP hD isC isR hC hRr hnR hdis hk1 hFc hP1 hD1
  exact kk u H1 locs1 hp hP2 hD2 hS1
end NB
/-- what a keeper's constructor needs of the tables beside its words -/
def FX (U : State) : Prop := mz_over .int U ∧ va_Nw (.methodLinkNest RX5 9 yX3_init RX5) U ∧ va_Nw (.methodLinkNest RX5 18 yX4_init RX5) U ∧ va_Nw (.methodLinkNest RX5 25 yX0_init RX5) U ∧ va_Nw (.methodLinkNest RX5 32 yX1_init RX5) U ∧ va_Nw (.methodLinkNest RX5 39 yX2_init RX5) U
theorem FX.same : sameF FX := fun u U h q => ⟨mz_over.moved (by rw [h]; exact Vm.Alike.refl _) q.1, va_Nw.same rfl h q.2.1, va_Nw.same rfl h q.2.2.1, va_Nw.same rfl h q.2.2.2.1, va_Nw.same rfl h q.2.2.2.2.1, va_Nw.same rfl h q.2.2.2.2.2⟩
theorem FX.warm {s U : State} (hW : s.WarmedH U.vm) (q : FX s) : FX U := ⟨mz_over.moved hW.alike q.1, va_Nw.warmM hW q.2.1, va_Nw.warmM hW q.2.2.1, va_Nw.warmM hW q.2.2.2.1, va_Nw.warmM hW q.2.2.2.2.1, va_Nw.warmM hW q.2.2.2.2.2⟩
def FA (U : State) : Prop := mz_over .int U
theorem FA.same : sameF FA := fun u U h q => mz_over.moved (by rw [h]; exact Vm.Alike.refl _) q
def FT (_ : State) : Prop := True
theorem FT.same : sameF FT := fun _ _ _ _ => trivial
