/-! rows that are replaced whole; the keeper's other cells; a row among them; the table PLACE -/
def rp (f : Nat → Nat → Int32) (K : Nat) (q : Nat → Int32) : Nat → Nat → Int32 := fun k => bif Nat.beq k K then q else f k
def rw16 (b : Nat → Nat) : Nat → Option Nat := fun i => if i < 16 then some (b (14 + i)) else none
def rw2 (b : Nat → Nat) : Nat → Option Nat := fun i => if i < 2 then some (b (12 + i)) else none
/-- the keeper's cells beside the Line's: its own, rows to be undone, book, draws, images -/
abbrev KR (cI cZ cQ : ClassId) (h : Nat) (b : Nat → Nat) (g : Nat → Nat → Int32) : va_W :=
  [(b 0, .inr (5, [.ref h, .ref (b 2), .ref (b 4), .ref (b 7), .ref (b 8), .ref (b 1)])),
   (b 1, .inl (cI, 83, .inl (g 1))),
   (b 2, .inr (4, [.ref (b 3), .int (g 2 0), .int (g 3 0)])),
   (b 3, .inl (cQ, 16, .inr (.inr (.inr (.inr (rw16 b)))))),
   (b 4, .inr (0, [.ref (b 5), .ref (b 6), .int (g 4 0)])),
   (b 5, .inl (cI, 20, .inl (g 5))),
   (b 6, .inl (cI, 20, .inl (g 6))),
   (b 7, .inr (1, [.int (g 7 0)])),
   (b 8, .inr (2, [.ref (b 9), .ref (b 10), .ref (b 11)])),
   (b 9, .inl (cQ, 2, .inr (.inr (.inr (.inr (rw2 b)))))),
   (b 10, .inl (cI, 2, .inl (g 10))),
   (b 11, .inl (cZ, 2, .inl (g 11))),
   (b 12, .inl (cI, 83, .inl (g 12))),
   (b 13, .inl (cI, 83, .inl (g 13))),
   (b 14, .inl (cI, 83, .inl (g 14))),
   (b 15, .inl (cI, 83, .inl (g 15))),
   (b 16, .inl (cI, 83, .inl (g 16))),
   (b 17, .inl (cI, 83, .inl (g 17))),
   (b 18, .inl (cI, 83, .inl (g 18))),
   (b 19, .inl (cI, 83, .inl (g 19))),
   (b 20, .inl (cI, 83, .inl (g 20))),
   (b 21, .inl (cI, 83, .inl (g 21))),
   (b 22, .inl (cI, 83, .inl (g 22))),
   (b 23, .inl (cI, 83, .inl (g 23))),
   (b 24, .inl (cI, 83, .inl (g 24))),
   (b 25, .inl (cI, 83, .inl (g 25))),
   (b 26, .inl (cI, 83, .inl (g 26))),
   (b 27, .inl (cI, 83, .inl (g 27))),
   (b 28, .inl (cI, 83, .inl (g 28))),
   (b 29, .inl (cI, 83, .inl (g 29)))]
/-- a row of 83 numbers among the cells -/
def isRow (k : Nat) : Prop := k = 1 ∨ (12 ≤ k ∧ k < 30)
theorem KR_at {cI cZ cQ : ClassId} {h : Nat} {b : Nat → Nat} {g : Nat → Nat → Int32} {X : va_W} {k : Nat} (hk : isRow k) : (KR cI cZ cQ h b g ++ X)[k]? = some (b k, .inl (cI, 83, .inl (g k))) := by
  rcases hk with rfl | ⟨h1, h2⟩
  · rfl
  · rcases (show k = 12 ∨ k = 13 ∨ k = 14 ∨ k = 15 ∨ k = 16 ∨ k = 17 ∨ k = 18 ∨ k = 19 ∨ k = 20 ∨ k = 21 ∨ k = 22 ∨ k = 23 ∨ k = 24 ∨ k = 25 ∨ k = 26 ∨ k = 27 ∨ k = 28 ∨ k = 29 by omega) with rfl | rfl | rfl | rfl | rfl | rfl | rfl | rfl | rfl | rfl | rfl | rfl | rfl | rfl | rfl | rfl | rfl | rfl <;> rfl
theorem KR_set {cI cZ cQ : ClassId} {h : Nat} {b : Nat → Nat} {g : Nat → Nat → Int32} {X : va_W} {k : Nat} {q : Nat → Int32} (hk : isRow k) : (KR cI cZ cQ h b g ++ X).set k (b k, .inl (cI, 83, .inl q)) = KR cI cZ cQ h b (rp g k q) ++ X := by
  rcases hk with rfl | ⟨h1, h2⟩
  · rfl
  · rcases (show k = 12 ∨ k = 13 ∨ k = 14 ∨ k = 15 ∨ k = 16 ∨ k = 17 ∨ k = 18 ∨ k = 19 ∨ k = 20 ∨ k = 21 ∨ k = 22 ∨ k = 23 ∨ k = 24 ∨ k = 25 ∨ k = 26 ∨ k = 27 ∨ k = 28 ∨ k = 29 by omega) with rfl | rfl | rfl | rfl | rfl | rfl | rfl | rfl | rfl | rfl | rfl | rfl | rfl | rfl | rfl | rfl | rfl | rfl <;> rfl
theorem KR_self {cI cZ cQ : ClassId} {h : Nat} {b : Nat → Nat} {g : Nat → Nat → Int32} {X : va_W} {k : Nat} (hk : isRow k) : (KR cI cZ cQ h b g ++ X).set k (b k, .inl (cI, 83, .inl (g k))) = KR cI cZ cQ h b g ++ X := by
  rcases hk with rfl | ⟨h1, h2⟩
  · rfl
  · rcases (show k = 12 ∨ k = 13 ∨ k = 14 ∨ k = 15 ∨ k = 16 ∨ k = 17 ∨ k = 18 ∨ k = 19 ∨ k = 20 ∨ k = 21 ∨ k = 22 ∨ k = 23 ∨ k = 24 ∨ k = 25 ∨ k = 26 ∨ k = 27 ∨ k = 28 ∨ k = 29 by omega) with rfl | rfl | rfl | rfl | rfl | rfl | rfl | rfl | rfl | rfl | rfl | rfl | rfl | rfl | rfl | rfl | rfl | rfl <;> rfl
theorem KR_len {cI cZ cQ : ClassId} {h : Nat} {b : Nat → Nat} {g : Nat → Nat → Int32} {X : va_W} {k : Nat} (hk : isRow k) : k < (KR cI cZ cQ h b g ++ X).length := by
  have e : (KR cI cZ cQ h b g ++ X).length = 30 + X.length := by
    rw [List.length_append]
    rfl
  rw [e]
  rcases hk with rfl | ⟨h1, h2⟩ <;> omega
theorem LX_at {cI : ClassId} {h : Nat} {a : Nat → Nat} {f : Nat → Nat → Int32} {X : va_W} {j ar : Nat} {r : Nat → Int32} (hj : j < X.length) : (LW cI h a f ++ X.set j (ar, .inl (cI, 83, .inl r)))[13 + j]? = some (ar, .inl (cI, 83, .inl r)) := by
  rw [List.getElem?_append_right (by show 13 ≤ 13 + j; omega)]
  rw [show 13 + j - (LW cI h a f).length = j from by show 13 + j - 13 = j; omega]
  exact List.getElem?_set_self hj
theorem LX_set {cI : ClassId} {h : Nat} {a : Nat → Nat} {f : Nat → Nat → Int32} {X : va_W} {j ar : Nat} {r q : Nat → Int32} : (LW cI h a f ++ X.set j (ar, .inl (cI, 83, .inl r))).set (13 + j) (ar, .inl (cI, 83, .inl q)) = LW cI h a f ++ X.set j (ar, .inl (cI, 83, .inl q)) := by
  rw [List.set_append_right _ _ (by show 13 ≤ 13 + j; omega)]
  rw [show 13 + j - (LW cI h a f).length = j from by show 13 + j - 13 = j; omega]
  rw [List.set_set]
theorem LW_rp3 {cI : ClassId} {h : Nat} {a : Nat → Nat} {f : Nat → Nat → Int32} {X : va_W} {q : Nat → Int32} : (LW cI h a f ++ X).set 1 (a 3, .inl (cI, 7, .inl q)) = LW cI h a (rp f 3 q) ++ X := rfl
theorem LW_rp4 {cI : ClassId} {h : Nat} {a : Nat → Nat} {f : Nat → Nat → Int32} {X : va_W} {q : Nat → Int32} : (LW cI h a f ++ X).set 2 (a 4, .inl (cI, 7, .inl q)) = LW cI h a (rp f 4 q) ++ X := rfl
theorem LW_rp5 {cI : ClassId} {h : Nat} {a : Nat → Nat} {f : Nat → Nat → Int32} {X : va_W} {q : Nat → Int32} : (LW cI h a f ++ X).set 3 (a 5, .inl (cI, 7, .inl q)) = LW cI h a (rp f 5 q) ++ X := rfl
theorem LW_rp6 {cI : ClassId} {h : Nat} {a : Nat → Nat} {f : Nat → Nat → Int32} {X : va_W} {q : Nat → Int32} : (LW cI h a f ++ X).set 4 (a 6, .inl (cI, 7, .inl q)) = LW cI h a (rp f 6 q) ++ X := rfl
theorem LW_rp7 {cI : ClassId} {h : Nat} {a : Nat → Nat} {f : Nat → Nat → Int32} {X : va_W} {q : Nat → Int32} : (LW cI h a f ++ X).set 5 (a 7, .inl (cI, 7, .inl q)) = LW cI h a (rp f 7 q) ++ X := rfl
theorem LW_rp8 {cI : ClassId} {h : Nat} {a : Nat → Nat} {f : Nat → Nat → Int32} {X : va_W} {q : Nat → Int32} : (LW cI h a f ++ X).set 6 (a 8, .inl (cI, 7, .inl q)) = LW cI h a (rp f 8 q) ++ X := rfl
theorem LW_rp9 {cI : ClassId} {h : Nat} {a : Nat → Nat} {f : Nat → Nat → Int32} {X : va_W} {q : Nat → Int32} : (LW cI h a f ++ X).set 7 (a 9, .inl (cI, 7, .inl q)) = LW cI h a (rp f 9 q) ++ X := rfl
theorem LW_rp10 {cI : ClassId} {h : Nat} {a : Nat → Nat} {f : Nat → Nat → Int32} {X : va_W} {q : Nat → Int32} : (LW cI h a f ++ X).set 8 (a 10, .inl (cI, 7, .inl q)) = LW cI h a (rp f 10 q) ++ X := rfl
theorem LW_rp11 {cI : ClassId} {h : Nat} {a : Nat → Nat} {f : Nat → Nat → Int32} {X : va_W} {q : Nat → Int32} : (LW cI h a f ++ X).set 9 (a 11, .inl (cI, 6, .inl q)) = LW cI h a (rp f 11 q) ++ X := rfl
theorem LW_rp12 {cI : ClassId} {h : Nat} {a : Nat → Nat} {f : Nat → Nat → Int32} {X : va_W} {q : Nat → Int32} : (LW cI h a f ++ X).set 10 (a 12, .inl (cI, 6, .inl q)) = LW cI h a (rp f 12 q) ++ X := rfl
theorem LW_rp13 {cI : ClassId} {h : Nat} {a : Nat → Nat} {f : Nat → Nat → Int32} {X : va_W} {q : Nat → Int32} : (LW cI h a f ++ X).set 11 (a 13, .inl (cI, 6, .inl q)) = LW cI h a (rp f 13 q) ++ X := rfl
theorem LW_rp14 {cI : ClassId} {h : Nat} {a : Nat → Nat} {f : Nat → Nat → Int32} {X : va_W} {q : Nat → Int32} : (LW cI h a f ++ X).set 12 (a 14, .inl (cI, 6, .inl q)) = LW cI h a (rp f 14 q) ++ X := rfl
def plcV : Nat → Value := fun j => .int (if j = 1 then 3 else if j = 2 then 1 else if j = 3 then 2 else 0)
def PT (t : Nat) (A : Nat → Prop) (U : State) : Prop := va_Z "AxleKeeper$Line" "PLACE" "[I" (.ref t) A U U.heap ∧ va_T .int t 4 plcV A U U.heap
def PWt (av : List Value) (sz : Nat) (D : va_G) (ty : List (ClassId × FieldType)) (ws : va_W) (t : Nat) : Array Value → State → Prop := va_Pc av (fun U => U.heap.size = sz ∧ va_P D vwCl ws U.heap ∧ va_K D vwCl ty U ∧ va_D (fun _ => True) ws ∧ PT t (va_A ws sz) U)
theorem PWt.blind {av : List Value} {sz t : Nat} {D : va_G} {ty : List (ClassId × FieldType)} {ws : va_W} : FrameBlind (PWt av sz D ty ws t) := fun a U g mk q => by
  obtain ⟨q0, q1, qP, qK, qD, qZ, qT⟩ := q
  exact ⟨q0, q1, qP, va_K.moved (u := U) (U := U.calling g mk a) (Vm.Alike.refl U.vm) qK, qD, va_Z.moved (u := U) (U := U.calling g mk a) (Vm.Alike.refl U.vm) qZ, va_T.moved (u := U) (U := U.calling g mk a) (Vm.Alike.refl U.vm) qT⟩
section K2B
variable {p : Program} {l : Launch} {e : Env} {R : Room} {s : State} {m : MethodId} {args : Array Value} {below : List Frame} {meth : Method} {c : Code} {H : Heap} {locs : List Loc} {cells slots : Nat} {Q : State → Prop}
variable {pc : Nat} {ls : Array Slot} {rest st0 : List Value} {Ts ws ws' : List Cond} {cc bytes : ByteArray} {nL maxL index n : Nat} {own C : String} {y : MethodName} {ret : Option FieldType} {rm : Room} {D : va_G} {ty : List (ClassId × FieldType)} {wd wd' : va_W} {b0 t : Nat} {As : List Value} {A0 A : Nat → Prop} {H0 : Heap} {lv : List (Nat × Value)} {ρ v : Int32} {ci : Nat} {fs : List Value} {T : u_T} {N : Nat}
/-- a call of a writer that reads PLACE -/
theorem k_wt (S : CallFix p m c cc nL s args Ts own) (hM : Met l y ws rm (PWt (.ref b0 :: As) H.size D ty wd t) (QI ρ D ty wd' (va_A wd H.size)) 0 0 (va_A wd H.size)) (hT : GoodIn Ts (wsV own index C y ws)) (hw : ws = Cond.code y bytes maxL ret :: ws') (hrm : rm.cells = 0 ∧ rm.slots = 0)
    (hd : y.cls = C ∧ y.cls ≠ "java/lang/invoke/MethodHandle" ∧ y.cls ≠ "java/lang/invoke/VarHandle" ∧ (parseMethodDescriptor y.desc).map (fun d => d.parameters.length) = some n) (hR : rm.frames + 1 ≤ R.frames ∧ 8 + (maxL + 11) + rm.locals ≤ R.locals)
    (hK : va_K D vwCl ty s) (hP : va_P D vwCl wd H) (hD : va_D A0 wd) (hS : va_S A0 s.heap H locs) (hA : ∀ q, s.heap.size ≤ q → A0 q) (hPT : PT t A0 s) (q0 : Nat) (he : wd[q0]? = some (b0, .inr (ci, fs))) (hc : vwCl[ci]? = some (C, T, N)) (hn : As.length = n) (hl : lv_has ls nL lv) (hst : st0 = As.reverse ++ .ref b0 :: rest) (hW : (rest.map fun v => v.category).sum ≤ 8)
    (hdg : decode cc pc = .ok (.invokevirtual index, 3)) (hf : cells ≤ R.cells ∧ slots ≤ R.slots)
    (kk : ∀ (H1 : Heap) (locs1 : List Loc), va_P D vwCl wd' H1 → va_D A0 wd' → va_S A0 s.heap H1 locs1 → W p l e R s m args below meth c H1 locs1 cells slots Q (F0 m (pc + 3) ls (.int ρ :: rest))) : W p l e R s m args below meth c H locs cells slots Q (F0 m pc ls st0) := by
  have hF := fr_in hD hS hA
  refine va_calli (va_runV S hM (cwV n S.2.2.2.2 hT hw hrm.1 hrm.2 hd hR) ⟨PWt.blind, va_recv hK hP hc he, fun U hU hW => ⟨rfl, by rw [hU], by rw [hU]; exact hP, va_K.moved hW.alike hK, hD.weaken (fun _ _ _ _ => trivial), ?_, ?_⟩⟩ rfl hn hl.1 hst (lv_room hW) hdg hf) hS (fun q _ h => hF q h) hF (fun r u t H1 locs1 ht hvm hr hB hz1 hk1 hS1 => ?_)
  · exact (va_Z.moved hW.alike ((hPT.1.kept (H1 := U.heap) (fun a h1 h2 => by rw [hU]; exact hS.2.1 a h1 h2)).narrow (fun q hq => hF q hq)))
  · exact (va_T.moved hW.alike ((hPT.2.kept (H1 := U.heap) (fun a h1 h2 => by rw [hU]; exact hS.2.1 a h1 h2)).narrow (fun q hq => hF q hq)))
  obtain ⟨hP1, hK1, hD1⟩ := hB
  rw [ht] at hP1
  subst hr
  exact kk H1 locs1 hP1 (hD1.weaken (fun _ q _ h => hF q.1 h)) hS1
theorem m_wt {Qc : Array Value → State → Outcome → State → Prop} {av : List Value} {lv0 : List (Nat × Value)} {sz : Nat} (hy : plainName y.cls = true) (hw : ws = Cond.code y cc maxL ret :: ws') (hav : (lg_sl av).length ≤ maxL) (hlv : lv_args 0 av = lv0)
    (body : ∀ (p : Program) (e : Env) (s : State) (m : MethodId) (below : List Frame) (meth : Method) (c : Code) (ls : Array Slot) (A : Nat → Prop), A = va_A wd sz → CallFix p m c cc maxL s av.toArray ws y.cls → meth.sig.returnType = ret → meth.locks = false → va_P D vwCl wd s.heap → va_K D vwCl ty s → va_D A wd → va_S A s.heap s.heap [] → (∀ q, s.heap.size ≤ q → A q) → PT t A s → lv_has ls maxL lv0 →
      W p l e rm s m av.toArray below meth c s.heap [] 0 0 (MQ below Qc av.toArray s 0 0 A) (F0 m 0 ls [])) : Met l y ws rm (PWt av sz D ty wd t) Qc 0 0 (va_A wd sz) := by
  refine Met.ofW (cc := cc) (maxL := maxL) (ret := ret) hy hw ?_
  intro p e s m args below meth c s₁ B hml hv
  obtain ⟨rfl, hsz, hP, hK, hD0, hPT⟩ := hv
  subst hsz
  have hl := lv_entry av (n := maxL) hav
  rw [hlv] at hl
  rw [lg_entry_eq]
  exact body p e s m below meth c _ _ rfl ⟨B.exec, B.bytes, hml, findClass_of_methodNamed B.named, atoms_spec (ws := ws) B.pre⟩ B.returns B.notSynchronized hP hK hD0.self va_S.rf (fun q h => Or.inr h) hPT hl
/-- a row out of an array of rows -/
theorem ld_row (hx : p.tables.exec = Jvm.exec) (hb : c.code = cc) (hK : va_K D vwCl ty s) (hP : va_P D vwCl wd H) (q0 t0 : Nat) {a cA : Nat} {k : Nat} {f : Nat → Option Nat} (ha : wd[q0]? = some (a, .inl (cA, k, .inr (.inr (.inr (.inr f)))))) (ht : ty[t0]? = some (cA, .array .int)) {i : Int32} (hin : vp_in i k) {r : Nat} (hr : f i.toNatClampNeg = some r) (hdg : decode cc pc = .ok (.aaload, 1))
    (kk : W p l e R s m args below meth c H locs cells slots Q (F0 m (pc + 1) ls (.ref r :: rest))) : W p l e R s m args below meth c H locs cells slots Q (F0 m pc ls (.int i :: .ref a :: rest)) := by
  have hlt : i.toNatClampNeg < k := Nat.not_le.mp fun q => hin (Or.inr q)
  have e : va_rf (f i.toNatClampNeg) = .ref r := by rw [hr]; rfl
  exact W.aald (v := .ref r) (ty := .array .int) hx hb (hP q0 _ ha) ((hK.2 t0 _ ht).1 k (fun j => va_rf (f j))) rfl (fun q => by cases q) (by show ¬ (i < 0 ∨ (arrV _ _ _).slots.size ≤ _); rw [arrV_size]; exact hin) (by show (arrV _ _ _).slots[_]? = _; rw [arrV_read _ _ hlt, e]) rfl rfl hdg kk
end K2B
section ST
variable {p : Program} {l : Launch} {e : Env} {R : Room} {s : State} {m : MethodId} {args : Array Value} {below : List Frame} {meth : Method} {c : Code} {H : Heap} {locs : List Loc} {cells slots : Nat} {Q : State → Prop}
variable {pc : Nat} {ls : Array Slot} {rest : List Value} {Ts : List Cond} {cc : ByteArray} {nL index : Nat} {own : String} {D : va_G} {A : Nat → Prop} {H0 : Heap} {cI cZ cQ : ClassId} {h : Nat} {a b : Nat → Nat} {X : va_W} {f g : Nat → Nat → Int32} {i x : Int32}
theorem st_K5 (hx : p.tables.exec = Jvm.exec) (hb : c.code = cc) (hK : va_K D vwCl (TY cI cZ cQ) s) (hP : va_P D vwCl (LW cI h a f ++ (KR cI cZ cQ h b g ++ X)) H) (hD : va_D A (LW cI h a f ++ (KR cI cZ cQ h b g ++ X))) (hS : va_S A H0 H locs) (hin : vp_in i 20) (hdg : decode cc pc = .ok (.iastore, 1)) (kk : ∀ (H1 : Heap) (locs1 : List Loc), va_P D vwCl (LW cI h a f ++ (KR cI cZ cQ h b (up2 g 5 (ix i) x) ++ X)) H1 → va_D A (LW cI h a f ++ (KR cI cZ cQ h b (up2 g 5 (ix i) x) ++ X)) → va_S A H0 H1 locs1 → W p l e R s m args below meth c H1 locs1 cells slots Q (F0 m (pc + 1) ls rest)) : W p l e R s m args below meth c H locs cells slots Q (F0 m pc ls (.int x :: .int i :: .ref (b 5) :: rest)) :=
  va_iast hx hb hK hP hD hS 18 0 rfl rfl hin hdg kk
theorem st_K6 (hx : p.tables.exec = Jvm.exec) (hb : c.code = cc) (hK : va_K D vwCl (TY cI cZ cQ) s) (hP : va_P D vwCl (LW cI h a f ++ (KR cI cZ cQ h b g ++ X)) H) (hD : va_D A (LW cI h a f ++ (KR cI cZ cQ h b g ++ X))) (hS : va_S A H0 H locs) (hin : vp_in i 20) (hdg : decode cc pc = .ok (.iastore, 1)) (kk : ∀ (H1 : Heap) (locs1 : List Loc), va_P D vwCl (LW cI h a f ++ (KR cI cZ cQ h b (up2 g 6 (ix i) x) ++ X)) H1 → va_D A (LW cI h a f ++ (KR cI cZ cQ h b (up2 g 6 (ix i) x) ++ X)) → va_S A H0 H1 locs1 → W p l e R s m args below meth c H1 locs1 cells slots Q (F0 m (pc + 1) ls rest)) : W p l e R s m args below meth c H locs cells slots Q (F0 m pc ls (.int x :: .int i :: .ref (b 6) :: rest)) :=
  va_iast hx hb hK hP hD hS 19 0 rfl rfl hin hdg kk
theorem st_K10 (hx : p.tables.exec = Jvm.exec) (hb : c.code = cc) (hK : va_K D vwCl (TY cI cZ cQ) s) (hP : va_P D vwCl (LW cI h a f ++ (KR cI cZ cQ h b g ++ X)) H) (hD : va_D A (LW cI h a f ++ (KR cI cZ cQ h b g ++ X))) (hS : va_S A H0 H locs) (hin : vp_in i 2) (hdg : decode cc pc = .ok (.iastore, 1)) (kk : ∀ (H1 : Heap) (locs1 : List Loc), va_P D vwCl (LW cI h a f ++ (KR cI cZ cQ h b (up2 g 10 (ix i) x) ++ X)) H1 → va_D A (LW cI h a f ++ (KR cI cZ cQ h b (up2 g 10 (ix i) x) ++ X)) → va_S A H0 H1 locs1 → W p l e R s m args below meth c H1 locs1 cells slots Q (F0 m (pc + 1) ls rest)) : W p l e R s m args below meth c H locs cells slots Q (F0 m pc ls (.int x :: .int i :: .ref (b 10) :: rest)) :=
  va_iast hx hb hK hP hD hS 23 0 rfl rfl hin hdg kk
theorem st_K11 (hx : p.tables.exec = Jvm.exec) (hb : c.code = cc) (hK : va_K D vwCl (TY cI cZ cQ) s) (hP : va_P D vwCl (LW cI h a f ++ (KR cI cZ cQ h b g ++ X)) H) (hD : va_D A (LW cI h a f ++ (KR cI cZ cQ h b g ++ X))) (hS : va_S A H0 H locs) (hin : vp_in i 2) (hdg : decode cc pc = .ok (.bastore, 1)) (kk : ∀ (H1 : Heap) (locs1 : List Loc), va_P D vwCl (LW cI h a f ++ (KR cI cZ cQ h b (up2 g 11 (ix i) (vp_nar .boolean x)) ++ X)) H1 → va_D A (LW cI h a f ++ (KR cI cZ cQ h b (up2 g 11 (ix i) (vp_nar .boolean x)) ++ X)) → va_S A H0 H1 locs1 → W p l e R s m args below meth c H1 locs1 cells slots Q (F0 m (pc + 1) ls rest)) : W p l e R s m args below meth c H locs cells slots Q (F0 m pc ls (.int x :: .int i :: .ref (b 11) :: rest)) :=
  va_zast hx hb hK hP hD hS 24 1 rfl rfl hin hdg kk
theorem pf_K2 (S : CallFix p m c cc nL s args Ts own) (hin : ∀ w ∈ wsX40, w ∈ Ts) (hK : va_K D vwCl (TY cI cZ cQ) s) (hP : va_P D vwCl (LW cI h a f ++ (KR cI cZ cQ h b g ++ X)) H) (hD : va_D A (LW cI h a f ++ (KR cI cZ cQ h b g ++ X))) (hS : va_S A H0 H locs) (hlink : (Cond.fieldLink own index "AxleKeeper$Past" "next" "I").before args s = true) (hdg : decode cc pc = .ok (.putfield index, 3)) (kk : ∀ (H1 : Heap) (locs1 : List Loc), va_P D vwCl (LW cI h a f ++ (KR cI cZ cQ h b (up2 g 2 0 x) ++ X)) H1 → va_D A (LW cI h a f ++ (KR cI cZ cQ h b (up2 g 2 0 x) ++ X)) → va_S A H0 H1 locs1 → W p l e R s m args below meth c H1 locs1 cells slots Q (F0 m (pc + 3) ls rest)) : W p l e R s m args below meth c H locs cells slots Q (F0 m pc ls (.int x :: .ref (b 2) :: rest)) :=
  va_put (v := .int x) (ty := .int) (C := RX4) (T := TX4) (N := 3) (ci := 4) S.1 S.2.1 S.2.2.2.2 hin tyX4 tyX4_ok nmX4 S.2.2.2.1 hK hP hD hS 15 rfl rfl 1 (by decide) hlink (fun _ h9 => h9) rfl (by decide +kernel) rfl rfl (Nat.le_of_ble_eq_true rfl) hdg kk
theorem pf_K3 (S : CallFix p m c cc nL s args Ts own) (hin : ∀ w ∈ wsX40, w ∈ Ts) (hK : va_K D vwCl (TY cI cZ cQ) s) (hP : va_P D vwCl (LW cI h a f ++ (KR cI cZ cQ h b g ++ X)) H) (hD : va_D A (LW cI h a f ++ (KR cI cZ cQ h b g ++ X))) (hS : va_S A H0 H locs) (hlink : (Cond.fieldLink own index "AxleKeeper$Past" "size" "I").before args s = true) (hdg : decode cc pc = .ok (.putfield index, 3)) (kk : ∀ (H1 : Heap) (locs1 : List Loc), va_P D vwCl (LW cI h a f ++ (KR cI cZ cQ h b (up2 g 3 0 x) ++ X)) H1 → va_D A (LW cI h a f ++ (KR cI cZ cQ h b (up2 g 3 0 x) ++ X)) → va_S A H0 H1 locs1 → W p l e R s m args below meth c H1 locs1 cells slots Q (F0 m (pc + 3) ls rest)) : W p l e R s m args below meth c H locs cells slots Q (F0 m pc ls (.int x :: .ref (b 2) :: rest)) :=
  va_put (v := .int x) (ty := .int) (C := RX4) (T := TX4) (N := 3) (ci := 4) S.1 S.2.1 S.2.2.2.2 hin tyX4 tyX4_ok nmX4 S.2.2.2.1 hK hP hD hS 15 rfl rfl 2 (by decide) hlink (fun _ h9 => h9) rfl (by decide +kernel) rfl rfl (Nat.le_of_ble_eq_true rfl) hdg kk
theorem pf_K4 (S : CallFix p m c cc nL s args Ts own) (hin : ∀ w ∈ wsX00, w ∈ Ts) (hK : va_K D vwCl (TY cI cZ cQ) s) (hP : va_P D vwCl (LW cI h a f ++ (KR cI cZ cQ h b g ++ X)) H) (hD : va_D A (LW cI h a f ++ (KR cI cZ cQ h b g ++ X))) (hS : va_S A H0 H locs) (hlink : (Cond.fieldLink own index "AxleKeeper$Book" "size" "I").before args s = true) (hdg : decode cc pc = .ok (.putfield index, 3)) (kk : ∀ (H1 : Heap) (locs1 : List Loc), va_P D vwCl (LW cI h a f ++ (KR cI cZ cQ h b (up2 g 4 0 x) ++ X)) H1 → va_D A (LW cI h a f ++ (KR cI cZ cQ h b (up2 g 4 0 x) ++ X)) → va_S A H0 H1 locs1 → W p l e R s m args below meth c H1 locs1 cells slots Q (F0 m (pc + 3) ls rest)) : W p l e R s m args below meth c H locs cells slots Q (F0 m pc ls (.int x :: .ref (b 4) :: rest)) :=
  va_put (v := .int x) (ty := .int) (C := RX0) (T := TX0) (N := 3) (ci := 0) S.1 S.2.1 S.2.2.2.2 hin tyX0 tyX0_ok nmX0 S.2.2.2.1 hK hP hD hS 17 rfl rfl 2 (by decide) hlink (fun _ h9 => h9) rfl (by decide +kernel) rfl rfl (Nat.le_of_ble_eq_true rfl) hdg kk
theorem pf_K7 (S : CallFix p m c cc nL s args Ts own) (hin : ∀ w ∈ wsX10, w ∈ Ts) (hK : va_K D vwCl (TY cI cZ cQ) s) (hP : va_P D vwCl (LW cI h a f ++ (KR cI cZ cQ h b g ++ X)) H) (hD : va_D A (LW cI h a f ++ (KR cI cZ cQ h b g ++ X))) (hS : va_S A H0 H locs) (hlink : (Cond.fieldLink own index "AxleKeeper$Draws" "latest" "I").before args s = true) (hdg : decode cc pc = .ok (.putfield index, 3)) (kk : ∀ (H1 : Heap) (locs1 : List Loc), va_P D vwCl (LW cI h a f ++ (KR cI cZ cQ h b (up2 g 7 0 x) ++ X)) H1 → va_D A (LW cI h a f ++ (KR cI cZ cQ h b (up2 g 7 0 x) ++ X)) → va_S A H0 H1 locs1 → W p l e R s m args below meth c H1 locs1 cells slots Q (F0 m (pc + 3) ls rest)) : W p l e R s m args below meth c H locs cells slots Q (F0 m pc ls (.int x :: .ref (b 7) :: rest)) :=
  va_put (v := .int x) (ty := .int) (C := RX1) (T := TX1) (N := 1) (ci := 1) S.1 S.2.1 S.2.2.2.2 hin tyX1 tyX1_ok nmX1 S.2.2.2.1 hK hP hD hS 20 rfl rfl 0 (by decide) hlink (fun _ h9 => h9) rfl (by decide +kernel) rfl rfl (Nat.le_of_ble_eq_true rfl) hdg kk
end ST
