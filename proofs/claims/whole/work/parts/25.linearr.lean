theorem nr_at {ws : va_W} {q : Nat} {x y : Nat × va_E} (h : ws[q]? = some x) : (ws.set q y)[q]? = some y := List.getElem?_set_self (List.getElem?_eq_some_iff.mp h).1
theorem nr_ne {ws : va_W} {q k : Nat} {x y : Nat × va_E} (h : ws[q]? = some x) (hne : k ≠ q) : (ws.set k y)[q]? = some x := by
  rw [List.getElem?_set_ne hne]
  exact h
theorem ndX3_put : yX3_put.cls ≠ "java/lang/invoke/MethodHandle" ∧ yX3_put.cls ≠ "java/lang/invoke/VarHandle" ∧ (parseMethodDescriptor yX3_put.desc).map (fun d => d.parameters.length) = some 3 := by decide +kernel
theorem ndX3_get : yX3_get.cls ≠ "java/lang/invoke/MethodHandle" ∧ yX3_get.cls ≠ "java/lang/invoke/VarHandle" ∧ (parseMethodDescriptor yX3_get.desc).map (fun d => d.parameters.length) = some 3 := by decide +kernel
theorem ndJ7_fill : yJ7_fill_53178.cls ≠ "java/lang/invoke/MethodHandle" ∧ yJ7_fill_53178.cls ≠ "java/lang/invoke/VarHandle" ∧ (parseMethodDescriptor yJ7_fill_53178.desc).map (fun d => d.parameters.length) = some 2 := by decide +kernel
set_option maxHeartbeats 4000000 in
set_option maxRecDepth 100000 in
theorem okX3_put (l : Launch) (D : va_G) (cI cZ cQ : ClassId) (ws : va_W) (qa qb a1 a2 n1 n2 : Nat) (f1 f2 : Nat → Int32) (t sz : Nat) (ha : ws[qa]? = some (a1, .inl (cI, n1, .inl f1))) (hb2 : ws[qb]? = some (a2, .inl (cI, n2, .inl f2))) (hne : qa ≠ qb) (ht : t + n1 ≤ n2) (hn2 : n2 < 1000) : Met l yX3_put wsX3_put ({ frames := 1, cells := 0, slots := 0, locals := 18 }) (PW [.ref a1, .ref a2, .int (nI t)] sz D (TY cI cZ cQ) ws) (QI (nI (t + n1)) D (TY cI cZ cQ) (ws.set qb (a2, .inl (cI, n2, .inl (va_cpy f1 f2 0 t n1)))) (va_A ws sz)) 0 0 (va_A ws sz) := by
  refine m_wr (cc := cX3_put) (maxL := 3) (ret := (some .int)) (by decide) rfl (Nat.le_of_ble_eq_true rfl) (lv0 := [(0, .ref a1), (1, .ref a2), (2, .int (nI t))]) rfl ?_
  intro p e s m below meth c ls A hAe S hr hlk hP hK hD hS hA hl
  rw [← hAe]
  have hx := S.1
  have hb := S.2.1
  have hown : s.vm.findClass RX3 = some m.cls := S.2.2.2.1
  have hts := S.2.2.2.2
  refine lv_iload_n hx hb dX3_put_0 rfl (lv_at hl 2 rfl) ?_
  refine lv_if_lt (tgt := 13) hx hb dX3_put_1 (by decide) (fun c_1 => absurd c_1 (nI_pos (by omega))) (fun c_1 => ?_)
  refine lv_iload_n hx hb dX3_put_4 rfl (lv_at hl 2 rfl) ?_
  refine lv_aload_n hx hb dX3_put_5 rfl (lv_at hl 1 rfl) ?_
  refine va_alen (v := nI n2) hx hb hK hP qb 0 hb2 rfl rfl dX3_put_6 ?_
  refine lv_aload_n hx hb dX3_put_7 rfl (lv_at hl 0 rfl) ?_
  refine va_alen (v := nI n1) hx hb hK hP qa 0 ha rfl rfl dX3_put_8 ?_
  refine lv_isub hx hb dX3_put_9 ?_
  refine lv_icmp_le (tgt := 15) hx hb dX3_put_10 (by decide) (fun c_10 => ?_) (fun c_10 => absurd (by rw [pk_sub (by omega)]; exact nI_le (by omega) (by omega)) c_10)
  refine lv_aload_n hx hb dX3_put_15 rfl (lv_at hl 0 rfl) ?_
  refine lv_iconst (v := 0) hx hb dX3_put_16 (by decide) ?_
  refine lv_aload_n hx hb dX3_put_17 rfl (lv_at hl 1 rfl) ?_
  refine lv_iload_n hx hb dX3_put_18 rfl (lv_at hl 2 rfl) ?_
  refine lv_aload_n hx hb dX3_put_19 rfl (lv_at hl 0 rfl) ?_
  refine va_alen (v := nI n1) hx hb hK hP qa 0 ha rfl rfl dX3_put_20 ?_
  refine va_copyi hx hb (by rw [S.2.2.1]; exact hl.1.symm) hown (hts (.methodLink RX3 158 arraycopyName) (by decide +kernel)) (hts (.native arraycopyName) (by decide +kernel)) (hts (.static arraycopyName) (by decide +kernel)) (hts (.initialized "java/lang/System") (by decide +kernel)) hK hP hD hS qa qb 0 0 (sp := 0) (dp := nI t) (n := nI n1) (ty := .int) ha hb2 rfl rfl rfl (show ¬ (0 : Int32) < 0 by decide) (nI_pos (by omega)) (nI_pos (by omega)) (by rw [nI_clamp (by omega)]; show 0 + n1 ≤ n1; omega) (by rw [nI_clamp (by omega), nI_clamp (by omega)]; exact ht) (fun i _ => rfl) (Nat.le_of_ble_eq_true rfl) (Nat.le_of_ble_eq_true rfl) dX3_put_21 (fun H locs hP hD hS => ?_)
  rw [nI_clamp (show t < 2 ^ 31 by omega), nI_clamp (show n1 < 2 ^ 31 by omega), show (0 : Int32).toNatClampNeg = 0 from rfl] at hP hD
  refine lv_iload_n hx hb dX3_put_24 rfl (lv_at hl 2 rfl) ?_
  refine lv_aload_n hx hb dX3_put_25 rfl (lv_at hl 0 rfl) ?_
  refine va_alen (v := nI n1) hx hb hK hP qa 0 (nr_ne ha (Ne.symm hne)) rfl rfl dX3_put_26 ?_
  refine lv_iadd hx hb dX3_put_27 ?_
  exact e_wi hx hb hr hlk hK hP hD hS dX3_put_28 (nI_add t n1) rfl
set_option maxHeartbeats 4000000 in
set_option maxRecDepth 100000 in
theorem okX3_get (l : Launch) (D : va_G) (cI cZ cQ : ClassId) (ws : va_W) (qa qb a1 a2 n1 n2 : Nat) (f1 f2 : Nat → Int32) (t sz : Nat) (ha : ws[qa]? = some (a1, .inl (cI, n1, .inl f1))) (hb2 : ws[qb]? = some (a2, .inl (cI, n2, .inl f2))) (hne : qa ≠ qb) (ht : t + n1 ≤ n2) (hn2 : n2 < 1000) : Met l yX3_get wsX3_get ({ frames := 1, cells := 0, slots := 0, locals := 18 }) (PW [.ref a1, .ref a2, .int (nI t)] sz D (TY cI cZ cQ) ws) (QI (nI (t + n1)) D (TY cI cZ cQ) (ws.set qa (a1, .inl (cI, n1, .inl (va_cpy f2 f1 t 0 n1)))) (va_A ws sz)) 0 0 (va_A ws sz) := by
  refine m_wr (cc := cX3_get) (maxL := 3) (ret := (some .int)) (by decide) rfl (Nat.le_of_ble_eq_true rfl) (lv0 := [(0, .ref a1), (1, .ref a2), (2, .int (nI t))]) rfl ?_
  intro p e s m below meth c ls A hAe S hr hlk hP hK hD hS hA hl
  rw [← hAe]
  have hx := S.1
  have hb := S.2.1
  have hown : s.vm.findClass RX3 = some m.cls := S.2.2.2.1
  have hts := S.2.2.2.2
  refine lv_iload_n hx hb dX3_get_0 rfl (lv_at hl 2 rfl) ?_
  refine lv_if_lt (tgt := 13) hx hb dX3_get_1 (by decide) (fun c_1 => absurd c_1 (nI_pos (by omega))) (fun c_1 => ?_)
  refine lv_iload_n hx hb dX3_get_4 rfl (lv_at hl 2 rfl) ?_
  refine lv_aload_n hx hb dX3_get_5 rfl (lv_at hl 1 rfl) ?_
  refine va_alen (v := nI n2) hx hb hK hP qb 0 hb2 rfl rfl dX3_get_6 ?_
  refine lv_aload_n hx hb dX3_get_7 rfl (lv_at hl 0 rfl) ?_
  refine va_alen (v := nI n1) hx hb hK hP qa 0 ha rfl rfl dX3_get_8 ?_
  refine lv_isub hx hb dX3_get_9 ?_
  refine lv_icmp_le (tgt := 15) hx hb dX3_get_10 (by decide) (fun c_10 => ?_) (fun c_10 => absurd (by rw [pk_sub (by omega)]; exact nI_le (by omega) (by omega)) c_10)
  refine lv_aload_n hx hb dX3_get_15 rfl (lv_at hl 1 rfl) ?_
  refine lv_iload_n hx hb dX3_get_16 rfl (lv_at hl 2 rfl) ?_
  refine lv_aload_n hx hb dX3_get_17 rfl (lv_at hl 0 rfl) ?_
  refine lv_iconst (v := 0) hx hb dX3_get_18 (by decide) ?_
  refine lv_aload_n hx hb dX3_get_19 rfl (lv_at hl 0 rfl) ?_
  refine va_alen (v := nI n1) hx hb hK hP qa 0 ha rfl rfl dX3_get_20 ?_
  refine va_copyi hx hb (by rw [S.2.2.1]; exact hl.1.symm) hown (hts (.methodLink RX3 158 arraycopyName) (by decide +kernel)) (hts (.native arraycopyName) (by decide +kernel)) (hts (.static arraycopyName) (by decide +kernel)) (hts (.initialized "java/lang/System") (by decide +kernel)) hK hP hD hS qb qa 0 0 (sp := nI t) (dp := 0) (n := nI n1) (ty := .int) hb2 ha rfl rfl rfl (nI_pos (by omega)) (show ¬ (0 : Int32) < 0 by decide) (nI_pos (by omega)) (by rw [nI_clamp (by omega), nI_clamp (by omega)]; exact ht) (by rw [nI_clamp (by omega)]; show 0 + n1 ≤ n1; omega) (fun i _ => rfl) (Nat.le_of_ble_eq_true rfl) (Nat.le_of_ble_eq_true rfl) dX3_get_21 (fun H locs hP hD hS => ?_)
  rw [nI_clamp (show t < 2 ^ 31 by omega), nI_clamp (show n1 < 2 ^ 31 by omega), show (0 : Int32).toNatClampNeg = 0 from rfl] at hP hD
  refine lv_iload_n hx hb dX3_get_24 rfl (lv_at hl 2 rfl) ?_
  refine lv_aload_n hx hb dX3_get_25 rfl (lv_at hl 0 rfl) ?_
  refine va_alen (v := nI n1) hx hb hK hP qa 0 (nr_at ha) rfl rfl dX3_get_26 ?_
  refine lv_iadd hx hb dX3_get_27 ?_
  exact e_wi hx hb hr hlk hK hP hD hS dX3_get_28 (nI_add t n1) rfl
def flI (v : Int32) (f : Nat → Int32) (i : Nat) : Nat → Int32 := fun j => if j < i then v else f j
theorem flI_0 (v : Int32) (f : Nat → Int32) : flI v f 0 = f := rfl
theorem flI_s (v : Int32) (f : Nat → Int32) (i : Nat) : upd (flI v f i) i v = flI v f (i + 1) := by
  funext j
  unfold upd flI
  by_cases h : j = i
  · rw [if_pos h, if_pos (by omega)]
  · rw [if_neg h]
    by_cases h2 : j < i
    · rw [if_pos h2, if_pos (by omega)]
    · rw [if_neg h2, if_neg (by omega)]
set_option maxHeartbeats 4000000 in
set_option maxRecDepth 100000 in
theorem lpJ7_fill {p : Program} {e : Env} {s : State} {m : MethodId} {below : List Frame} {meth : Method} {c : Code} (l : Launch) (D : va_G) (cI cZ cQ : ClassId) (ws : va_W) (q a1 n1 : Nat) (f1 : Nat → Int32) (v : Int32) (ha : ws[q]? = some (a1, .inl (cI, n1, .inl f1))) (hn1 : n1 < 1000) (A : Nat → Prop) (S : CallFix p m c cJ7_fill_53178 4 s ([.ref a1, .int v] : List Value).toArray wsJ7_fill_53178 RJ7) (hr : meth.sig.returnType = none) (hlk : meth.locks = false) (hK : va_K D vwCl (TY cI cZ cQ) s) : ∀ (n i : Nat) (H : Heap) (locs : List Loc), i ≤ n1 → n1 - i < n → va_P D vwCl (ws.set q (a1, .inl (cI, n1, .inl (flI v f1 i)))) H → va_D A (ws.set q (a1, .inl (cI, n1, .inl (flI v f1 i)))) → va_S A s.heap H locs → ∀ {ls : Array Slot}, lv_has ls 4 [(0, .ref a1), (1, .int v), (2, .int (nI i)), (3, .int (nI n1))] → W p l e { frames := 0, cells := 0, slots := 0, locals := 0 } s m ([.ref a1, .int v] : List Value).toArray below meth c H locs 0 0 (MQ below (QV D (TY cI cZ cQ) (ws.set q (a1, .inl (cI, n1, .inl (flI v f1 n1)))) A) ([.ref a1, .int v] : List Value).toArray s 0 0 A) (F0 m 5 ls []) := by
  have hx := S.1
  have hb := S.2.1
  intro n
  induction n with
  | zero =>
    intro i _ _ hi hn
    exact absurd hn (Nat.not_lt_zero _)
  | succ n ih =>
    intro i H locs hi hn hP hD hS ls hl
    refine lv_iload_n hx hb dJ7_fill_53178_5 rfl (lv_at hl 2 rfl) ?_
    refine lv_iload_n hx hb dJ7_fill_53178_6 rfl (lv_at hl 3 rfl) ?_
    refine lv_icmp_ge (tgt := 20) hx hb dJ7_fill_53178_7 (by decide) (fun c_7 => ?_) (fun c_7 => ?_)
    · have e : i = n1 := by
        rw [nI_leI (by omega) (by omega)] at c_7
        omega
      subst e
      exact e_wv hx hb hr hlk hK hP hD hS dJ7_fill_53178_20 rfl
    · have hlt : i < n1 := by
        rw [nI_leI (by omega) (by omega)] at c_7
        omega
      refine lv_aload_n hx hb dJ7_fill_53178_10 rfl (lv_at hl 0 rfl) ?_
      refine lv_iload_n hx hb dJ7_fill_53178_11 rfl (lv_at hl 2 rfl) ?_
      refine lv_iload_n hx hb dJ7_fill_53178_12 rfl (lv_at hl 1 rfl) ?_
      refine va_iast hx hb hK hP hD hS q 0 (nr_at ha) rfl (vp_in_nI hlt (by omega)) dJ7_fill_53178_13 (fun H locs hP hD hS => ?_)
      rw [List.set_set, nI_clamp (by omega), flI_s] at hP hD
      refine lv_iinc (v := (nI (i + 1))) (lv' := [(2, .int (nI (i + 1))), (0, .ref a1), (1, .int v), (3, .int (nI n1))]) hx hb dJ7_fill_53178_14 hl (k := 2) rfl (nI_1 i) (by decide) rfl (fun ls hl => ?_)
      refine lv_goto (tgt := 5) hx hb dJ7_fill_53178_17 (by decide) ?_
      exact ih (i + 1) _ _ hlt (by omega) hP hD hS (lv_sub hl [1, 2, 0, 3] rfl)
set_option maxHeartbeats 4000000 in
set_option maxRecDepth 100000 in
theorem okJ7_fill (l : Launch) (D : va_G) (cI cZ cQ : ClassId) (ws : va_W) (q a1 n1 : Nat) (f1 : Nat → Int32) (v : Int32) (sz : Nat) (ha : ws[q]? = some (a1, .inl (cI, n1, .inl f1))) (hn1 : n1 < 1000) : Met l yJ7_fill_53178 wsJ7_fill_53178 ({ frames := 0, cells := 0, slots := 0, locals := 0 }) (PW [.ref a1, .int v] sz D (TY cI cZ cQ) ws) (QV D (TY cI cZ cQ) (ws.set q (a1, .inl (cI, n1, .inl (flI v f1 n1)))) (va_A ws sz)) 0 0 (va_A ws sz) := by
  refine m_wr (cc := cJ7_fill_53178) (maxL := 4) (ret := none) (by decide) rfl (Nat.le_of_ble_eq_true rfl) (lv0 := [(0, .ref a1), (1, .int v)]) rfl ?_
  intro p e s m below meth c ls A hAe S hr hlk hP hK hD hS hA hl
  rw [← hAe]
  have S : CallFix p m c cJ7_fill_53178 4 s ([.ref a1, .int v] : List Value).toArray wsJ7_fill_53178 RJ7 := S
  have hx := S.1
  have hb := S.2.1
  refine lv_iconst (v := 0) hx hb dJ7_fill_53178_0 (by decide) ?_
  refine lv_istore_n (lv' := [(2, .int 0), (0, .ref a1), (1, .int v)]) hx hb dJ7_fill_53178_1 rfl hl (by decide) rfl (fun ls hl => ?_)
  refine lv_aload_n hx hb dJ7_fill_53178_2 rfl (lv_at hl 1 rfl) ?_
  refine va_alen (v := nI n1) hx hb hK hP q 0 ha rfl rfl dJ7_fill_53178_3 ?_
  refine lv_istore_n (lv' := [(3, .int (nI n1)), (2, .int 0), (0, .ref a1), (1, .int v)]) hx hb dJ7_fill_53178_4 rfl hl (by decide) rfl (fun ls hl => ?_)
  have e0 : ws.set q (a1, .inl (cI, n1, .inl (flI v f1 0))) = ws := by
    rw [flI_0]
    exact List.ext_getElem? (fun k => by
      by_cases hk : q = k
      · subst hk
        rw [nr_at ha, ha]
      · rw [List.getElem?_set_ne hk])
  exact lpJ7_fill l D cI cZ cQ ws q a1 n1 f1 v ha hn1 A S hr hlk hK (n1 + 1) 0 _ _ (by omega) (by omega) (by rw [e0]; exact hP) (by rw [e0]; exact hD) hS (lv_sub hl [2, 3, 1, 0] rfl)
/-- a Line put into a row -/
def pkL (f : Nat → Nat → Int32) (r : Nat → Int32) : Nat → Int32 := (va_cpy (f 14) (va_cpy (f 13) (va_cpy (f 12) (va_cpy (f 11) (va_cpy (f 10) (va_cpy (f 9) (va_cpy (f 8) (va_cpy (f 7) (va_cpy (f 6) (va_cpy (f 5) (va_cpy (f 4) (va_cpy (f 3) (upd (upd (upd r 0 (f 0 0)) 1 (if f 1 0 = 0 then 0 else 1)) 2 (f 2 0)) 0 3 7) 0 10 7) 0 17 7) 0 24 7) 0 31 7) 0 38 7) 0 45 7) 0 52 7) 0 59 6) 0 65 6) 0 71 6) 0 77 6)
def unK (F : Nat → Nat → Int32) (r : Nat → Int32) (K t n : Nat) : Nat → Nat → Int32 := rp F K (va_cpy r (F K) t 0 n)
/-- a Line out of a row -/
def unL (f : Nat → Nat → Int32) (r : Nat → Int32) : Nat → Nat → Int32 := (unK (unK (unK (unK (unK (unK (unK (unK (unK (unK (unK (unK (up2 (up2 (up2 f 0 0 (r 0)) 1 0 (if r 1 = 1 then 1 else 0)) 2 0 (r 2)) r 3 3 7) r 4 10 7) r 5 17 7) r 6 24 7) r 7 31 7) r 8 38 7) r 9 45 7) r 10 52 7) r 11 59 6) r 12 65 6) r 13 71 6) r 14 77 6)
def fz (F : Nat → Nat → Int32) (K n : Nat) : Nat → Nat → Int32 := rp F K (flI 0 (F K) n)
def kX3_begin (f : Nat → Nat → Int32) (x1 x2 : Int32) : Nat → Nat → Int32 := (fz (fz (fz (fz (fz (fz (fz (fz (fz (fz (fz (fz (up2 (up2 (up2 f 0 0 x1) 1 0 x2) 2 0 0) 3 7) 4 7) 5 7) 6 7) 7 7) 8 7) 9 7) 10 7) 11 6) 12 6) 13 6) 14 6)
theorem LW_un3 {cI : ClassId} {h : Nat} {a : Nat → Nat} {F : Nat → Nat → Int32} {X : va_W} {r : Nat → Int32} : (LW cI h a F ++ X).set 1 (a 3, .inl (cI, 7, .inl (va_cpy r (F 3) 3 0 7))) = LW cI h a (unK F r 3 3 7) ++ X := rfl
theorem LW_fz3 {cI : ClassId} {h : Nat} {a : Nat → Nat} {F : Nat → Nat → Int32} {X : va_W} : (LW cI h a F ++ X).set 1 (a 3, .inl (cI, 7, .inl (flI 0 (F 3) 7))) = LW cI h a (fz F 3 7) ++ X := rfl
theorem LW_un4 {cI : ClassId} {h : Nat} {a : Nat → Nat} {F : Nat → Nat → Int32} {X : va_W} {r : Nat → Int32} : (LW cI h a F ++ X).set 2 (a 4, .inl (cI, 7, .inl (va_cpy r (F 4) 10 0 7))) = LW cI h a (unK F r 4 10 7) ++ X := rfl
theorem LW_fz4 {cI : ClassId} {h : Nat} {a : Nat → Nat} {F : Nat → Nat → Int32} {X : va_W} : (LW cI h a F ++ X).set 2 (a 4, .inl (cI, 7, .inl (flI 0 (F 4) 7))) = LW cI h a (fz F 4 7) ++ X := rfl
theorem LW_un5 {cI : ClassId} {h : Nat} {a : Nat → Nat} {F : Nat → Nat → Int32} {X : va_W} {r : Nat → Int32} : (LW cI h a F ++ X).set 3 (a 5, .inl (cI, 7, .inl (va_cpy r (F 5) 17 0 7))) = LW cI h a (unK F r 5 17 7) ++ X := rfl
theorem LW_fz5 {cI : ClassId} {h : Nat} {a : Nat → Nat} {F : Nat → Nat → Int32} {X : va_W} : (LW cI h a F ++ X).set 3 (a 5, .inl (cI, 7, .inl (flI 0 (F 5) 7))) = LW cI h a (fz F 5 7) ++ X := rfl
theorem LW_un6 {cI : ClassId} {h : Nat} {a : Nat → Nat} {F : Nat → Nat → Int32} {X : va_W} {r : Nat → Int32} : (LW cI h a F ++ X).set 4 (a 6, .inl (cI, 7, .inl (va_cpy r (F 6) 24 0 7))) = LW cI h a (unK F r 6 24 7) ++ X := rfl
theorem LW_fz6 {cI : ClassId} {h : Nat} {a : Nat → Nat} {F : Nat → Nat → Int32} {X : va_W} : (LW cI h a F ++ X).set 4 (a 6, .inl (cI, 7, .inl (flI 0 (F 6) 7))) = LW cI h a (fz F 6 7) ++ X := rfl
theorem LW_un7 {cI : ClassId} {h : Nat} {a : Nat → Nat} {F : Nat → Nat → Int32} {X : va_W} {r : Nat → Int32} : (LW cI h a F ++ X).set 5 (a 7, .inl (cI, 7, .inl (va_cpy r (F 7) 31 0 7))) = LW cI h a (unK F r 7 31 7) ++ X := rfl
theorem LW_fz7 {cI : ClassId} {h : Nat} {a : Nat → Nat} {F : Nat → Nat → Int32} {X : va_W} : (LW cI h a F ++ X).set 5 (a 7, .inl (cI, 7, .inl (flI 0 (F 7) 7))) = LW cI h a (fz F 7 7) ++ X := rfl
theorem LW_un8 {cI : ClassId} {h : Nat} {a : Nat → Nat} {F : Nat → Nat → Int32} {X : va_W} {r : Nat → Int32} : (LW cI h a F ++ X).set 6 (a 8, .inl (cI, 7, .inl (va_cpy r (F 8) 38 0 7))) = LW cI h a (unK F r 8 38 7) ++ X := rfl
theorem LW_fz8 {cI : ClassId} {h : Nat} {a : Nat → Nat} {F : Nat → Nat → Int32} {X : va_W} : (LW cI h a F ++ X).set 6 (a 8, .inl (cI, 7, .inl (flI 0 (F 8) 7))) = LW cI h a (fz F 8 7) ++ X := rfl
theorem LW_un9 {cI : ClassId} {h : Nat} {a : Nat → Nat} {F : Nat → Nat → Int32} {X : va_W} {r : Nat → Int32} : (LW cI h a F ++ X).set 7 (a 9, .inl (cI, 7, .inl (va_cpy r (F 9) 45 0 7))) = LW cI h a (unK F r 9 45 7) ++ X := rfl
theorem LW_fz9 {cI : ClassId} {h : Nat} {a : Nat → Nat} {F : Nat → Nat → Int32} {X : va_W} : (LW cI h a F ++ X).set 7 (a 9, .inl (cI, 7, .inl (flI 0 (F 9) 7))) = LW cI h a (fz F 9 7) ++ X := rfl
theorem LW_un10 {cI : ClassId} {h : Nat} {a : Nat → Nat} {F : Nat → Nat → Int32} {X : va_W} {r : Nat → Int32} : (LW cI h a F ++ X).set 8 (a 10, .inl (cI, 7, .inl (va_cpy r (F 10) 52 0 7))) = LW cI h a (unK F r 10 52 7) ++ X := rfl
theorem LW_fz10 {cI : ClassId} {h : Nat} {a : Nat → Nat} {F : Nat → Nat → Int32} {X : va_W} : (LW cI h a F ++ X).set 8 (a 10, .inl (cI, 7, .inl (flI 0 (F 10) 7))) = LW cI h a (fz F 10 7) ++ X := rfl
theorem LW_un11 {cI : ClassId} {h : Nat} {a : Nat → Nat} {F : Nat → Nat → Int32} {X : va_W} {r : Nat → Int32} : (LW cI h a F ++ X).set 9 (a 11, .inl (cI, 6, .inl (va_cpy r (F 11) 59 0 6))) = LW cI h a (unK F r 11 59 6) ++ X := rfl
theorem LW_fz11 {cI : ClassId} {h : Nat} {a : Nat → Nat} {F : Nat → Nat → Int32} {X : va_W} : (LW cI h a F ++ X).set 9 (a 11, .inl (cI, 6, .inl (flI 0 (F 11) 6))) = LW cI h a (fz F 11 6) ++ X := rfl
theorem LW_un12 {cI : ClassId} {h : Nat} {a : Nat → Nat} {F : Nat → Nat → Int32} {X : va_W} {r : Nat → Int32} : (LW cI h a F ++ X).set 10 (a 12, .inl (cI, 6, .inl (va_cpy r (F 12) 65 0 6))) = LW cI h a (unK F r 12 65 6) ++ X := rfl
theorem LW_fz12 {cI : ClassId} {h : Nat} {a : Nat → Nat} {F : Nat → Nat → Int32} {X : va_W} : (LW cI h a F ++ X).set 10 (a 12, .inl (cI, 6, .inl (flI 0 (F 12) 6))) = LW cI h a (fz F 12 6) ++ X := rfl
theorem LW_un13 {cI : ClassId} {h : Nat} {a : Nat → Nat} {F : Nat → Nat → Int32} {X : va_W} {r : Nat → Int32} : (LW cI h a F ++ X).set 11 (a 13, .inl (cI, 6, .inl (va_cpy r (F 13) 71 0 6))) = LW cI h a (unK F r 13 71 6) ++ X := rfl
theorem LW_fz13 {cI : ClassId} {h : Nat} {a : Nat → Nat} {F : Nat → Nat → Int32} {X : va_W} : (LW cI h a F ++ X).set 11 (a 13, .inl (cI, 6, .inl (flI 0 (F 13) 6))) = LW cI h a (fz F 13 6) ++ X := rfl
theorem LW_un14 {cI : ClassId} {h : Nat} {a : Nat → Nat} {F : Nat → Nat → Int32} {X : va_W} {r : Nat → Int32} : (LW cI h a F ++ X).set 12 (a 14, .inl (cI, 6, .inl (va_cpy r (F 14) 77 0 6))) = LW cI h a (unK F r 14 77 6) ++ X := rfl
theorem LW_fz14 {cI : ClassId} {h : Nat} {a : Nat → Nat} {F : Nat → Nat → Int32} {X : va_W} : (LW cI h a F ++ X).set 12 (a 14, .inl (cI, 6, .inl (flI 0 (F 14) 6))) = LW cI h a (fz F 14 6) ++ X := rfl
theorem st_S {p : Program} {l : Launch} {e : Env} {R : Room} {s : State} {m : MethodId} {args : Array Value} {below : List Frame} {meth : Method} {c : Code} {H : Heap} {locs : List Loc} {cells slots : Nat} {Q : State → Prop} {pc : Nat} {ls : Array Slot} {rest : List Value} {cc : ByteArray} {D : va_G} {A : Nat → Prop} {H0 : Heap} {cI cZ cQ : ClassId} {h : Nat} {a : Nat → Nat} {X : va_W} {f : Nat → Nat → Int32} {i x : Int32} {j ar : Nat} {r : Nat → Int32} (hj : j < X.length) (hx : p.tables.exec = Jvm.exec) (hb : c.code = cc) (hK : va_K D vwCl (TY cI cZ cQ) s) (hP : va_P D vwCl (LW cI h a f ++ X.set j (ar, .inl (cI, 83, .inl r))) H) (hD : va_D A (LW cI h a f ++ X.set j (ar, .inl (cI, 83, .inl r)))) (hS : va_S A H0 H locs) (hin : vp_in i 83) (hdg : decode cc pc = .ok (.iastore, 1)) (kk : ∀ (H1 : Heap) (locs1 : List Loc), va_P D vwCl (LW cI h a f ++ X.set j (ar, .inl (cI, 83, .inl (upd r (ix i) x)))) H1 → va_D A (LW cI h a f ++ X.set j (ar, .inl (cI, 83, .inl (upd r (ix i) x)))) → va_S A H0 H1 locs1 → W p l e R s m args below meth c H1 locs1 cells slots Q (F0 m (pc + 1) ls rest)) : W p l e R s m args below meth c H locs cells slots Q (F0 m pc ls (.int x :: .int i :: .ref ar :: rest)) :=
  va_iast hx hb hK hP hD hS (13 + j) 0 (LX_at hj) rfl hin hdg (fun H1 l1 hP hD hS => by
    rw [LX_set] at hP hD
    exact kk H1 l1 hP hD hS)
theorem vin_c' {i : Int32} {n : Nat} (h : ¬ (i < 0 ∨ n ≤ i.toNatClampNeg)) : vp_in i n := h
set_option maxHeartbeats 4000000 in
set_option maxRecDepth 100000 in
theorem okX3_save (l : Launch) (D : va_G) (cI cZ cQ : ClassId) (h : Nat) (a : Nat → Nat) (X : va_W) (j ar : Nat) (f : Nat → Nat → Int32) (r : Nat → Int32) (sz : Nat) (hj : j < X.length) : Met l yX3_save wsX3_save ({ frames := 2, cells := 0, slots := 0, locals := 40 }) (PW [.ref h, .ref ar] sz D (TY cI cZ cQ) (LW cI h a f ++ X.set j (ar, .inl (cI, 83, .inl r)))) (QV D (TY cI cZ cQ) (LW cI h a f ++ X.set j (ar, .inl (cI, 83, .inl (pkL f r)))) (va_A (LW cI h a f ++ X.set j (ar, .inl (cI, 83, .inl r))) sz)) 0 0 (va_A (LW cI h a f ++ X.set j (ar, .inl (cI, 83, .inl r))) sz) := by
  refine m_wr (cc := cX3_save) (maxL := 3) (ret := none) (by decide) rfl (Nat.le_of_ble_eq_true rfl) (lv0 := [(0, .ref h), (1, .ref ar)]) rfl ?_
  intro p e s m below meth c ls A hAe S hr hlk hP hK hD hS hA hl
  rw [← hAe]
  have S : CallFix p m c cX3_save 3 s ([.ref h, .ref ar] : List Value).toArray wsX3_save RX3 := S
  have hx := S.1
  have hb := S.2.1
  have hown : s.vm.findClass RX3 = some m.cls := S.2.2.2.1
  have hts := S.2.2.2.2
  have hinX3 : ∀ w ∈ wsX30, w ∈ wsX3_save := by decide +kernel
  refine lv_aload_n hx hb dX3_save_0 rfl (lv_at hl 1 rfl) ?_
  refine va_alen (v := 83) hx hb hK hP (13 + j) 0 (LX_at hj) rfl rfl dX3_save_1 ?_
  refine lv_bipush (v := 83) hx hb dX3_save_2 (by decide) ?_
  refine lv_icmp_eq (tgt := 8) hx hb dX3_save_4 (by decide) (fun c_4 => ?_) (fun c_4 => absurd rfl c_4)
  refine lv_aload_n hx hb dX3_save_8 rfl (lv_at hl 1 rfl) ?_
  refine lv_iconst (v := 0) hx hb dX3_save_9 (by decide) ?_
  refine lv_aload_n hx hb dX3_save_10 rfl (lv_at hl 0 rfl) ?_
  refine va_get (v := .int (f 0 0)) (C := RX3) (T := TX3) (N := 15) (ci := 3) hx hb hts hinX3 hown hK hP 0 rfl rfl 0 (by decide) (hts (.fieldLink RX3 48 "AxleKeeper$Line" "sections" "I") (by decide +kernel)) (fun _ h9 => h9) rfl dX3_save_11 ?_
  refine st_S hj hx hb hK hP hD hS (vin_c' (by decide)) dX3_save_14 (fun H locs hP hD hS => ?_)
  refine lv_aload_n hx hb dX3_save_15 rfl (lv_at hl 1 rfl) ?_
  refine lv_iconst (v := 1) hx hb dX3_save_16 (by decide) ?_
  refine lv_aload_n hx hb dX3_save_17 rfl (lv_at hl 0 rfl) ?_
  refine va_get (v := .int (f 1 0)) (C := RX3) (T := TX3) (N := 15) (ci := 3) hx hb hts hinX3 hown hK hP 0 rfl rfl 1 (by decide) (hts (.fieldLink RX3 52 "AxleKeeper$Line" "ring" "Z") (by decide +kernel)) (fun _ h9 => h9) rfl dX3_save_18 ?_
  refine lv_if_eq (tgt := 28) hx hb dX3_save_21 (by decide) (fun c_21 => ?_) (fun c_21 => ?_)
  · refine lv_iconst (v := 0) hx hb dX3_save_28 (by decide) ?_
    refine st_S hj hx hb hK hP hD hS (vin_c' (by decide)) dX3_save_29 (fun H locs hP hD hS => ?_)
    refine lv_aload_n hx hb dX3_save_30 rfl (lv_at hl 1 rfl) ?_
    refine lv_iconst (v := 2) hx hb dX3_save_31 (by decide) ?_
    refine lv_aload_n hx hb dX3_save_32 rfl (lv_at hl 0 rfl) ?_
    refine va_get (v := .int (f 2 0)) (C := RX3) (T := TX3) (N := 15) (ci := 3) hx hb hts hinX3 hown hK hP 0 rfl rfl 2 (by decide) (hts (.fieldLink RX3 56 "AxleKeeper$Line" "ticks" "I") (by decide +kernel)) (fun _ h9 => h9) rfl dX3_save_33 ?_
    refine st_S hj hx hb hK hP hD hS (vin_c' (by decide)) dX3_save_36 (fun H locs hP hD hS => ?_)
    refine lv_iconst (v := 3) hx hb dX3_save_37 (by decide) ?_
    refine lv_istore_n (lv' := [(2, .int (nI 3)), (0, .ref h), (1, .ref ar)]) hx hb dX3_save_38 rfl hl (by decide) rfl (fun ls hl => ?_)
    refine lv_aload_n hx hb dX3_save_39 rfl (lv_at hl 1 rfl) ?_
    refine va_get (v := .ref (a 3)) (C := RX3) (T := TX3) (N := 15) (ci := 3) hx hb hts hinX3 hown hK hP 0 rfl rfl 3 (by decide) (hts (.fieldLink RX3 11 "AxleKeeper$Line" "state" "[I") (by decide +kernel)) (fun _ h9 => h9) rfl dX3_save_40 ?_
    refine lv_aload_n hx hb dX3_save_43 rfl (lv_at hl 2 rfl) ?_
    refine lv_iload_n hx hb dX3_save_44 rfl (lv_at hl 0 rfl) ?_
    refine k_si (As := [.ref (a 3), .ref ar, .int (nI 3)]) (rest := []) (bytes := cX3_put) S (okX3_put l D cI cZ cQ _ 1 (13 + j) (a 3) ar 7 83 (f 3) (upd (upd (upd r (ix 0) (f 0 0)) (ix 1) 0) (ix 2) (f 2 0)) 3 _ rfl (LX_at hj) (by omega) (by decide) (by decide)) gX3_save_X3_put rfl ⟨rfl, rfl⟩ ndX3_put ⟨Nat.le_of_ble_eq_true rfl, Nat.le_of_ble_eq_true rfl⟩ hK hP hD hS hA rfl hl rfl (Nat.le_of_ble_eq_true rfl) dX3_save_45 ⟨Nat.zero_le _, Nat.zero_le _⟩ (fun H locs hP hD hS => ?_)
    rw [LX_set] at hP hD
    refine lv_istore_n (lv' := [(2, .int (nI 10)), (0, .ref h), (1, .ref ar)]) hx hb dX3_save_48 rfl hl (by decide) rfl (fun ls hl => ?_)
    refine lv_aload_n hx hb dX3_save_49 rfl (lv_at hl 1 rfl) ?_
    refine va_get (v := .ref (a 4)) (C := RX3) (T := TX3) (N := 15) (ci := 3) hx hb hts hinX3 hown hK hP 0 rfl rfl 4 (by decide) (hts (.fieldLink RX3 15 "AxleKeeper$Line" "wheel" "[I") (by decide +kernel)) (fun _ h9 => h9) rfl dX3_save_50 ?_
    refine lv_aload_n hx hb dX3_save_53 rfl (lv_at hl 2 rfl) ?_
    refine lv_iload_n hx hb dX3_save_54 rfl (lv_at hl 0 rfl) ?_
    refine k_si (As := [.ref (a 4), .ref ar, .int (nI 10)]) (rest := []) (bytes := cX3_put) S (okX3_put l D cI cZ cQ _ 2 (13 + j) (a 4) ar 7 83 (f 4) (va_cpy (f 3) (upd (upd (upd r (ix 0) (f 0 0)) (ix 1) 0) (ix 2) (f 2 0)) 0 3 7) 10 _ rfl (LX_at hj) (by omega) (by decide) (by decide)) gX3_save_X3_put rfl ⟨rfl, rfl⟩ ndX3_put ⟨Nat.le_of_ble_eq_true rfl, Nat.le_of_ble_eq_true rfl⟩ hK hP hD hS hA rfl hl rfl (Nat.le_of_ble_eq_true rfl) dX3_save_55 ⟨Nat.zero_le _, Nat.zero_le _⟩ (fun H locs hP hD hS => ?_)
    rw [LX_set] at hP hD
    refine lv_istore_n (lv' := [(2, .int (nI 17)), (0, .ref h), (1, .ref ar)]) hx hb dX3_save_58 rfl hl (by decide) rfl (fun ls hl => ?_)
    refine lv_aload_n hx hb dX3_save_59 rfl (lv_at hl 1 rfl) ?_
    refine va_get (v := .ref (a 5)) (C := RX3) (T := TX3) (N := 15) (ci := 3) hx hb hts hinX3 hown hK hP 0 rfl rfl 5 (by decide) (hts (.fieldLink RX3 18 "AxleKeeper$Line" "count" "[I") (by decide +kernel)) (fun _ h9 => h9) rfl dX3_save_60 ?_
    refine lv_aload_n hx hb dX3_save_63 rfl (lv_at hl 2 rfl) ?_
    refine lv_iload_n hx hb dX3_save_64 rfl (lv_at hl 0 rfl) ?_
    refine k_si (As := [.ref (a 5), .ref ar, .int (nI 17)]) (rest := []) (bytes := cX3_put) S (okX3_put l D cI cZ cQ _ 3 (13 + j) (a 5) ar 7 83 (f 5) (va_cpy (f 4) (va_cpy (f 3) (upd (upd (upd r (ix 0) (f 0 0)) (ix 1) 0) (ix 2) (f 2 0)) 0 3 7) 0 10 7) 17 _ rfl (LX_at hj) (by omega) (by decide) (by decide)) gX3_save_X3_put rfl ⟨rfl, rfl⟩ ndX3_put ⟨Nat.le_of_ble_eq_true rfl, Nat.le_of_ble_eq_true rfl⟩ hK hP hD hS hA rfl hl rfl (Nat.le_of_ble_eq_true rfl) dX3_save_65 ⟨Nat.zero_le _, Nat.zero_le _⟩ (fun H locs hP hD hS => ?_)
    rw [LX_set] at hP hD
    refine lv_istore_n (lv' := [(2, .int (nI 24)), (0, .ref h), (1, .ref ar)]) hx hb dX3_save_68 rfl hl (by decide) rfl (fun ls hl => ?_)
    refine lv_aload_n hx hb dX3_save_69 rfl (lv_at hl 1 rfl) ?_
    refine va_get (v := .ref (a 6)) (C := RX3) (T := TX3) (N := 15) (ci := 3) hx hb hts hinX3 hown hK hP 0 rfl rfl 6 (by decide) (hts (.fieldLink RX3 21 "AxleKeeper$Line" "faulty" "[I") (by decide +kernel)) (fun _ h9 => h9) rfl dX3_save_70 ?_
    refine lv_aload_n hx hb dX3_save_73 rfl (lv_at hl 2 rfl) ?_
    refine lv_iload_n hx hb dX3_save_74 rfl (lv_at hl 0 rfl) ?_
    refine k_si (As := [.ref (a 6), .ref ar, .int (nI 24)]) (rest := []) (bytes := cX3_put) S (okX3_put l D cI cZ cQ _ 4 (13 + j) (a 6) ar 7 83 (f 6) (va_cpy (f 5) (va_cpy (f 4) (va_cpy (f 3) (upd (upd (upd r (ix 0) (f 0 0)) (ix 1) 0) (ix 2) (f 2 0)) 0 3 7) 0 10 7) 0 17 7) 24 _ rfl (LX_at hj) (by omega) (by decide) (by decide)) gX3_save_X3_put rfl ⟨rfl, rfl⟩ ndX3_put ⟨Nat.le_of_ble_eq_true rfl, Nat.le_of_ble_eq_true rfl⟩ hK hP hD hS hA rfl hl rfl (Nat.le_of_ble_eq_true rfl) dX3_save_75 ⟨Nat.zero_le _, Nat.zero_le _⟩ (fun H locs hP hD hS => ?_)
    rw [LX_set] at hP hD
    refine lv_istore_n (lv' := [(2, .int (nI 31)), (0, .ref h), (1, .ref ar)]) hx hb dX3_save_78 rfl hl (by decide) rfl (fun ls hl => ?_)
    refine lv_aload_n hx hb dX3_save_79 rfl (lv_at hl 1 rfl) ?_
    refine va_get (v := .ref (a 7)) (C := RX3) (T := TX3) (N := 15) (ci := 3) hx hb hts hinX3 hown hK hP 0 rfl rfl 7 (by decide) (hts (.fieldLink RX3 24 "AxleKeeper$Line" "heard" "[I") (by decide +kernel)) (fun _ h9 => h9) rfl dX3_save_80 ?_
    refine lv_aload_n hx hb dX3_save_83 rfl (lv_at hl 2 rfl) ?_
    refine lv_iload_n hx hb dX3_save_84 rfl (lv_at hl 0 rfl) ?_
    refine k_si (As := [.ref (a 7), .ref ar, .int (nI 31)]) (rest := []) (bytes := cX3_put) S (okX3_put l D cI cZ cQ _ 5 (13 + j) (a 7) ar 7 83 (f 7) (va_cpy (f 6) (va_cpy (f 5) (va_cpy (f 4) (va_cpy (f 3) (upd (upd (upd r (ix 0) (f 0 0)) (ix 1) 0) (ix 2) (f 2 0)) 0 3 7) 0 10 7) 0 17 7) 0 24 7) 31 _ rfl (LX_at hj) (by omega) (by decide) (by decide)) gX3_save_X3_put rfl ⟨rfl, rfl⟩ ndX3_put ⟨Nat.le_of_ble_eq_true rfl, Nat.le_of_ble_eq_true rfl⟩ hK hP hD hS hA rfl hl rfl (Nat.le_of_ble_eq_true rfl) dX3_save_85 ⟨Nat.zero_le _, Nat.zero_le _⟩ (fun H locs hP hD hS => ?_)
    rw [LX_set] at hP hD
    refine lv_istore_n (lv' := [(2, .int (nI 38)), (0, .ref h), (1, .ref ar)]) hx hb dX3_save_88 rfl hl (by decide) rfl (fun ls hl => ?_)
    refine lv_aload_n hx hb dX3_save_89 rfl (lv_at hl 1 rfl) ?_
    refine va_get (v := .ref (a 8)) (C := RX3) (T := TX3) (N := 15) (ci := 3) hx hb hts hinX3 hown hK hP 0 rfl rfl 8 (by decide) (hts (.fieldLink RX3 27 "AxleKeeper$Line" "heardFaulty" "[I") (by decide +kernel)) (fun _ h9 => h9) rfl dX3_save_90 ?_
    refine lv_aload_n hx hb dX3_save_93 rfl (lv_at hl 2 rfl) ?_
    refine lv_iload_n hx hb dX3_save_94 rfl (lv_at hl 0 rfl) ?_
    refine k_si (As := [.ref (a 8), .ref ar, .int (nI 38)]) (rest := []) (bytes := cX3_put) S (okX3_put l D cI cZ cQ _ 6 (13 + j) (a 8) ar 7 83 (f 8) (va_cpy (f 7) (va_cpy (f 6) (va_cpy (f 5) (va_cpy (f 4) (va_cpy (f 3) (upd (upd (upd r (ix 0) (f 0 0)) (ix 1) 0) (ix 2) (f 2 0)) 0 3 7) 0 10 7) 0 17 7) 0 24 7) 0 31 7) 38 _ rfl (LX_at hj) (by omega) (by decide) (by decide)) gX3_save_X3_put rfl ⟨rfl, rfl⟩ ndX3_put ⟨Nat.le_of_ble_eq_true rfl, Nat.le_of_ble_eq_true rfl⟩ hK hP hD hS hA rfl hl rfl (Nat.le_of_ble_eq_true rfl) dX3_save_95 ⟨Nat.zero_le _, Nat.zero_le _⟩ (fun H locs hP hD hS => ?_)
    rw [LX_set] at hP hD
    refine lv_istore_n (lv' := [(2, .int (nI 45)), (0, .ref h), (1, .ref ar)]) hx hb dX3_save_98 rfl hl (by decide) rfl (fun ls hl => ?_)
    refine lv_aload_n hx hb dX3_save_99 rfl (lv_at hl 1 rfl) ?_
    refine va_get (v := .ref (a 9)) (C := RX3) (T := TX3) (N := 15) (ci := 3) hx hb hts hinX3 hown hK hP 0 rfl rfl 9 (by decide) (hts (.fieldLink RX3 30 "AxleKeeper$Line" "age" "[I") (by decide +kernel)) (fun _ h9 => h9) rfl dX3_save_100 ?_
    refine lv_aload_n hx hb dX3_save_103 rfl (lv_at hl 2 rfl) ?_
    refine lv_iload_n hx hb dX3_save_104 rfl (lv_at hl 0 rfl) ?_
    refine k_si (As := [.ref (a 9), .ref ar, .int (nI 45)]) (rest := []) (bytes := cX3_put) S (okX3_put l D cI cZ cQ _ 7 (13 + j) (a 9) ar 7 83 (f 9) (va_cpy (f 8) (va_cpy (f 7) (va_cpy (f 6) (va_cpy (f 5) (va_cpy (f 4) (va_cpy (f 3) (upd (upd (upd r (ix 0) (f 0 0)) (ix 1) 0) (ix 2) (f 2 0)) 0 3 7) 0 10 7) 0 17 7) 0 24 7) 0 31 7) 0 38 7) 45 _ rfl (LX_at hj) (by omega) (by decide) (by decide)) gX3_save_X3_put rfl ⟨rfl, rfl⟩ ndX3_put ⟨Nat.le_of_ble_eq_true rfl, Nat.le_of_ble_eq_true rfl⟩ hK hP hD hS hA rfl hl rfl (Nat.le_of_ble_eq_true rfl) dX3_save_105 ⟨Nat.zero_le _, Nat.zero_le _⟩ (fun H locs hP hD hS => ?_)
    rw [LX_set] at hP hD
    refine lv_istore_n (lv' := [(2, .int (nI 52)), (0, .ref h), (1, .ref ar)]) hx hb dX3_save_108 rfl hl (by decide) rfl (fun ls hl => ?_)
    refine lv_aload_n hx hb dX3_save_109 rfl (lv_at hl 1 rfl) ?_
    refine va_get (v := .ref (a 10)) (C := RX3) (T := TX3) (N := 15) (ci := 3) hx hb hts hinX3 hown hK hP 0 rfl rfl 10 (by decide) (hts (.fieldLink RX3 33 "AxleKeeper$Line" "sweptOver" "[I") (by decide +kernel)) (fun _ h9 => h9) rfl dX3_save_110 ?_
    refine lv_aload_n hx hb dX3_save_113 rfl (lv_at hl 2 rfl) ?_
    refine lv_iload_n hx hb dX3_save_114 rfl (lv_at hl 0 rfl) ?_
    refine k_si (As := [.ref (a 10), .ref ar, .int (nI 52)]) (rest := []) (bytes := cX3_put) S (okX3_put l D cI cZ cQ _ 8 (13 + j) (a 10) ar 7 83 (f 10) (va_cpy (f 9) (va_cpy (f 8) (va_cpy (f 7) (va_cpy (f 6) (va_cpy (f 5) (va_cpy (f 4) (va_cpy (f 3) (upd (upd (upd r (ix 0) (f 0 0)) (ix 1) 0) (ix 2) (f 2 0)) 0 3 7) 0 10 7) 0 17 7) 0 24 7) 0 31 7) 0 38 7) 0 45 7) 52 _ rfl (LX_at hj) (by omega) (by decide) (by decide)) gX3_save_X3_put rfl ⟨rfl, rfl⟩ ndX3_put ⟨Nat.le_of_ble_eq_true rfl, Nat.le_of_ble_eq_true rfl⟩ hK hP hD hS hA rfl hl rfl (Nat.le_of_ble_eq_true rfl) dX3_save_115 ⟨Nat.zero_le _, Nat.zero_le _⟩ (fun H locs hP hD hS => ?_)
    rw [LX_set] at hP hD
    refine lv_istore_n (lv' := [(2, .int (nI 59)), (0, .ref h), (1, .ref ar)]) hx hb dX3_save_118 rfl hl (by decide) rfl (fun ls hl => ?_)
    refine lv_aload_n hx hb dX3_save_119 rfl (lv_at hl 1 rfl) ?_
    refine va_get (v := .ref (a 11)) (C := RX3) (T := TX3) (N := 15) (ci := 3) hx hb hts hinX3 hown hK hP 0 rfl rfl 11 (by decide) (hts (.fieldLink RX3 36 "AxleKeeper$Line" "sum" "[I") (by decide +kernel)) (fun _ h9 => h9) rfl dX3_save_120 ?_
    refine lv_aload_n hx hb dX3_save_123 rfl (lv_at hl 2 rfl) ?_
    refine lv_iload_n hx hb dX3_save_124 rfl (lv_at hl 0 rfl) ?_
    refine k_si (As := [.ref (a 11), .ref ar, .int (nI 59)]) (rest := []) (bytes := cX3_put) S (okX3_put l D cI cZ cQ _ 9 (13 + j) (a 11) ar 6 83 (f 11) (va_cpy (f 10) (va_cpy (f 9) (va_cpy (f 8) (va_cpy (f 7) (va_cpy (f 6) (va_cpy (f 5) (va_cpy (f 4) (va_cpy (f 3) (upd (upd (upd r (ix 0) (f 0 0)) (ix 1) 0) (ix 2) (f 2 0)) 0 3 7) 0 10 7) 0 17 7) 0 24 7) 0 31 7) 0 38 7) 0 45 7) 0 52 7) 59 _ rfl (LX_at hj) (by omega) (by decide) (by decide)) gX3_save_X3_put rfl ⟨rfl, rfl⟩ ndX3_put ⟨Nat.le_of_ble_eq_true rfl, Nat.le_of_ble_eq_true rfl⟩ hK hP hD hS hA rfl hl rfl (Nat.le_of_ble_eq_true rfl) dX3_save_125 ⟨Nat.zero_le _, Nat.zero_le _⟩ (fun H locs hP hD hS => ?_)
    rw [LX_set] at hP hD
    refine lv_istore_n (lv' := [(2, .int (nI 65)), (0, .ref h), (1, .ref ar)]) hx hb dX3_save_128 rfl hl (by decide) rfl (fun ls hl => ?_)
    refine lv_aload_n hx hb dX3_save_129 rfl (lv_at hl 1 rfl) ?_
    refine va_get (v := .ref (a 12)) (C := RX3) (T := TX3) (N := 15) (ci := 3) hx hb hts hinX3 hown hK hP 0 rfl rfl 12 (by decide) (hts (.fieldLink RX3 39 "AxleKeeper$Line" "call" "[I") (by decide +kernel)) (fun _ h9 => h9) rfl dX3_save_130 ?_
    refine lv_aload_n hx hb dX3_save_133 rfl (lv_at hl 2 rfl) ?_
    refine lv_iload_n hx hb dX3_save_134 rfl (lv_at hl 0 rfl) ?_
    refine k_si (As := [.ref (a 12), .ref ar, .int (nI 65)]) (rest := []) (bytes := cX3_put) S (okX3_put l D cI cZ cQ _ 10 (13 + j) (a 12) ar 6 83 (f 12) (va_cpy (f 11) (va_cpy (f 10) (va_cpy (f 9) (va_cpy (f 8) (va_cpy (f 7) (va_cpy (f 6) (va_cpy (f 5) (va_cpy (f 4) (va_cpy (f 3) (upd (upd (upd r (ix 0) (f 0 0)) (ix 1) 0) (ix 2) (f 2 0)) 0 3 7) 0 10 7) 0 17 7) 0 24 7) 0 31 7) 0 38 7) 0 45 7) 0 52 7) 0 59 6) 65 _ rfl (LX_at hj) (by omega) (by decide) (by decide)) gX3_save_X3_put rfl ⟨rfl, rfl⟩ ndX3_put ⟨Nat.le_of_ble_eq_true rfl, Nat.le_of_ble_eq_true rfl⟩ hK hP hD hS hA rfl hl rfl (Nat.le_of_ble_eq_true rfl) dX3_save_135 ⟨Nat.zero_le _, Nat.zero_le _⟩ (fun H locs hP hD hS => ?_)
    rw [LX_set] at hP hD
    refine lv_istore_n (lv' := [(2, .int (nI 71)), (0, .ref h), (1, .ref ar)]) hx hb dX3_save_138 rfl hl (by decide) rfl (fun ls hl => ?_)
    refine lv_aload_n hx hb dX3_save_139 rfl (lv_at hl 1 rfl) ?_
    refine va_get (v := .ref (a 13)) (C := RX3) (T := TX3) (N := 15) (ci := 3) hx hb hts hinX3 hown hK hP 0 rfl rfl 13 (by decide) (hts (.fieldLink RX3 42 "AxleKeeper$Line" "entered" "[I") (by decide +kernel)) (fun _ h9 => h9) rfl dX3_save_140 ?_
    refine lv_aload_n hx hb dX3_save_143 rfl (lv_at hl 2 rfl) ?_
    refine lv_iload_n hx hb dX3_save_144 rfl (lv_at hl 0 rfl) ?_
    refine k_si (As := [.ref (a 13), .ref ar, .int (nI 71)]) (rest := []) (bytes := cX3_put) S (okX3_put l D cI cZ cQ _ 11 (13 + j) (a 13) ar 6 83 (f 13) (va_cpy (f 12) (va_cpy (f 11) (va_cpy (f 10) (va_cpy (f 9) (va_cpy (f 8) (va_cpy (f 7) (va_cpy (f 6) (va_cpy (f 5) (va_cpy (f 4) (va_cpy (f 3) (upd (upd (upd r (ix 0) (f 0 0)) (ix 1) 0) (ix 2) (f 2 0)) 0 3 7) 0 10 7) 0 17 7) 0 24 7) 0 31 7) 0 38 7) 0 45 7) 0 52 7) 0 59 6) 0 65 6) 71 _ rfl (LX_at hj) (by omega) (by decide) (by decide)) gX3_save_X3_put rfl ⟨rfl, rfl⟩ ndX3_put ⟨Nat.le_of_ble_eq_true rfl, Nat.le_of_ble_eq_true rfl⟩ hK hP hD hS hA rfl hl rfl (Nat.le_of_ble_eq_true rfl) dX3_save_145 ⟨Nat.zero_le _, Nat.zero_le _⟩ (fun H locs hP hD hS => ?_)
    rw [LX_set] at hP hD
    refine lv_istore_n (lv' := [(2, .int (nI 77)), (0, .ref h), (1, .ref ar)]) hx hb dX3_save_148 rfl hl (by decide) rfl (fun ls hl => ?_)
    refine lv_aload_n hx hb dX3_save_149 rfl (lv_at hl 1 rfl) ?_
    refine va_get (v := .ref (a 14)) (C := RX3) (T := TX3) (N := 15) (ci := 3) hx hb hts hinX3 hown hK hP 0 rfl rfl 14 (by decide) (hts (.fieldLink RX3 45 "AxleKeeper$Line" "axles" "[I") (by decide +kernel)) (fun _ h9 => h9) rfl dX3_save_150 ?_
    refine lv_aload_n hx hb dX3_save_153 rfl (lv_at hl 2 rfl) ?_
    refine lv_iload_n hx hb dX3_save_154 rfl (lv_at hl 0 rfl) ?_
    refine k_si (As := [.ref (a 14), .ref ar, .int (nI 77)]) (rest := []) (bytes := cX3_put) S (okX3_put l D cI cZ cQ _ 12 (13 + j) (a 14) ar 6 83 (f 14) (va_cpy (f 13) (va_cpy (f 12) (va_cpy (f 11) (va_cpy (f 10) (va_cpy (f 9) (va_cpy (f 8) (va_cpy (f 7) (va_cpy (f 6) (va_cpy (f 5) (va_cpy (f 4) (va_cpy (f 3) (upd (upd (upd r (ix 0) (f 0 0)) (ix 1) 0) (ix 2) (f 2 0)) 0 3 7) 0 10 7) 0 17 7) 0 24 7) 0 31 7) 0 38 7) 0 45 7) 0 52 7) 0 59 6) 0 65 6) 0 71 6) 77 _ rfl (LX_at hj) (by omega) (by decide) (by decide)) gX3_save_X3_put rfl ⟨rfl, rfl⟩ ndX3_put ⟨Nat.le_of_ble_eq_true rfl, Nat.le_of_ble_eq_true rfl⟩ hK hP hD hS hA rfl hl rfl (Nat.le_of_ble_eq_true rfl) dX3_save_155 ⟨Nat.zero_le _, Nat.zero_le _⟩ (fun H locs hP hD hS => ?_)
    rw [LX_set] at hP hD
    refine lv_pop hx hb dX3_save_158 rfl ?_
    have hρ : pkL f r = (va_cpy (f 14) (va_cpy (f 13) (va_cpy (f 12) (va_cpy (f 11) (va_cpy (f 10) (va_cpy (f 9) (va_cpy (f 8) (va_cpy (f 7) (va_cpy (f 6) (va_cpy (f 5) (va_cpy (f 4) (va_cpy (f 3) (upd (upd (upd r (ix 0) (f 0 0)) (ix 1) 0) (ix 2) (f 2 0)) 0 3 7) 0 10 7) 0 17 7) 0 24 7) 0 31 7) 0 38 7) 0 45 7) 0 52 7) 0 59 6) 0 65 6) 0 71 6) 0 77 6) := by
      unfold pkL
      rw [if_pos c_21]
      rfl
    exact e_wv hx hb hr hlk hK hP hD hS dX3_save_159 (congrArg (fun q => LW cI h a f ++ X.set j (ar, .inl (cI, 83, .inl q))) hρ).symm
  · refine lv_iconst (v := 1) hx hb dX3_save_24 (by decide) ?_
    refine lv_goto (tgt := 29) hx hb dX3_save_25 (by decide) ?_
    refine st_S hj hx hb hK hP hD hS (vin_c' (by decide)) dX3_save_29 (fun H locs hP hD hS => ?_)
    refine lv_aload_n hx hb dX3_save_30 rfl (lv_at hl 1 rfl) ?_
    refine lv_iconst (v := 2) hx hb dX3_save_31 (by decide) ?_
    refine lv_aload_n hx hb dX3_save_32 rfl (lv_at hl 0 rfl) ?_
    refine va_get (v := .int (f 2 0)) (C := RX3) (T := TX3) (N := 15) (ci := 3) hx hb hts hinX3 hown hK hP 0 rfl rfl 2 (by decide) (hts (.fieldLink RX3 56 "AxleKeeper$Line" "ticks" "I") (by decide +kernel)) (fun _ h9 => h9) rfl dX3_save_33 ?_
    refine st_S hj hx hb hK hP hD hS (vin_c' (by decide)) dX3_save_36 (fun H locs hP hD hS => ?_)
    refine lv_iconst (v := 3) hx hb dX3_save_37 (by decide) ?_
    refine lv_istore_n (lv' := [(2, .int (nI 3)), (0, .ref h), (1, .ref ar)]) hx hb dX3_save_38 rfl hl (by decide) rfl (fun ls hl => ?_)
    refine lv_aload_n hx hb dX3_save_39 rfl (lv_at hl 1 rfl) ?_
    refine va_get (v := .ref (a 3)) (C := RX3) (T := TX3) (N := 15) (ci := 3) hx hb hts hinX3 hown hK hP 0 rfl rfl 3 (by decide) (hts (.fieldLink RX3 11 "AxleKeeper$Line" "state" "[I") (by decide +kernel)) (fun _ h9 => h9) rfl dX3_save_40 ?_
    refine lv_aload_n hx hb dX3_save_43 rfl (lv_at hl 2 rfl) ?_
    refine lv_iload_n hx hb dX3_save_44 rfl (lv_at hl 0 rfl) ?_
    refine k_si (As := [.ref (a 3), .ref ar, .int (nI 3)]) (rest := []) (bytes := cX3_put) S (okX3_put l D cI cZ cQ _ 1 (13 + j) (a 3) ar 7 83 (f 3) (upd (upd (upd r (ix 0) (f 0 0)) (ix 1) 1) (ix 2) (f 2 0)) 3 _ rfl (LX_at hj) (by omega) (by decide) (by decide)) gX3_save_X3_put rfl ⟨rfl, rfl⟩ ndX3_put ⟨Nat.le_of_ble_eq_true rfl, Nat.le_of_ble_eq_true rfl⟩ hK hP hD hS hA rfl hl rfl (Nat.le_of_ble_eq_true rfl) dX3_save_45 ⟨Nat.zero_le _, Nat.zero_le _⟩ (fun H locs hP hD hS => ?_)
    rw [LX_set] at hP hD
    refine lv_istore_n (lv' := [(2, .int (nI 10)), (0, .ref h), (1, .ref ar)]) hx hb dX3_save_48 rfl hl (by decide) rfl (fun ls hl => ?_)
    refine lv_aload_n hx hb dX3_save_49 rfl (lv_at hl 1 rfl) ?_
    refine va_get (v := .ref (a 4)) (C := RX3) (T := TX3) (N := 15) (ci := 3) hx hb hts hinX3 hown hK hP 0 rfl rfl 4 (by decide) (hts (.fieldLink RX3 15 "AxleKeeper$Line" "wheel" "[I") (by decide +kernel)) (fun _ h9 => h9) rfl dX3_save_50 ?_
    refine lv_aload_n hx hb dX3_save_53 rfl (lv_at hl 2 rfl) ?_
    refine lv_iload_n hx hb dX3_save_54 rfl (lv_at hl 0 rfl) ?_
    refine k_si (As := [.ref (a 4), .ref ar, .int (nI 10)]) (rest := []) (bytes := cX3_put) S (okX3_put l D cI cZ cQ _ 2 (13 + j) (a 4) ar 7 83 (f 4) (va_cpy (f 3) (upd (upd (upd r (ix 0) (f 0 0)) (ix 1) 1) (ix 2) (f 2 0)) 0 3 7) 10 _ rfl (LX_at hj) (by omega) (by decide) (by decide)) gX3_save_X3_put rfl ⟨rfl, rfl⟩ ndX3_put ⟨Nat.le_of_ble_eq_true rfl, Nat.le_of_ble_eq_true rfl⟩ hK hP hD hS hA rfl hl rfl (Nat.le_of_ble_eq_true rfl) dX3_save_55 ⟨Nat.zero_le _, Nat.zero_le _⟩ (fun H locs hP hD hS => ?_)
    rw [LX_set] at hP hD
    refine lv_istore_n (lv' := [(2, .int (nI 17)), (0, .ref h), (1, .ref ar)]) hx hb dX3_save_58 rfl hl (by decide) rfl (fun ls hl => ?_)
    refine lv_aload_n hx hb dX3_save_59 rfl (lv_at hl 1 rfl) ?_
    refine va_get (v := .ref (a 5)) (C := RX3) (T := TX3) (N := 15) (ci := 3) hx hb hts hinX3 hown hK hP 0 rfl rfl 5 (by decide) (hts (.fieldLink RX3 18 "AxleKeeper$Line" "count" "[I") (by decide +kernel)) (fun _ h9 => h9) rfl dX3_save_60 ?_
    refine lv_aload_n hx hb dX3_save_63 rfl (lv_at hl 2 rfl) ?_
    refine lv_iload_n hx hb dX3_save_64 rfl (lv_at hl 0 rfl) ?_
    refine k_si (As := [.ref (a 5), .ref ar, .int (nI 17)]) (rest := []) (bytes := cX3_put) S (okX3_put l D cI cZ cQ _ 3 (13 + j) (a 5) ar 7 83 (f 5) (va_cpy (f 4) (va_cpy (f 3) (upd (upd (upd r (ix 0) (f 0 0)) (ix 1) 1) (ix 2) (f 2 0)) 0 3 7) 0 10 7) 17 _ rfl (LX_at hj) (by omega) (by decide) (by decide)) gX3_save_X3_put rfl ⟨rfl, rfl⟩ ndX3_put ⟨Nat.le_of_ble_eq_true rfl, Nat.le_of_ble_eq_true rfl⟩ hK hP hD hS hA rfl hl rfl (Nat.le_of_ble_eq_true rfl) dX3_save_65 ⟨Nat.zero_le _, Nat.zero_le _⟩ (fun H locs hP hD hS => ?_)
    rw [LX_set] at hP hD
    refine lv_istore_n (lv' := [(2, .int (nI 24)), (0, .ref h), (1, .ref ar)]) hx hb dX3_save_68 rfl hl (by decide) rfl (fun ls hl => ?_)
    refine lv_aload_n hx hb dX3_save_69 rfl (lv_at hl 1 rfl) ?_
    refine va_get (v := .ref (a 6)) (C := RX3) (T := TX3) (N := 15) (ci := 3) hx hb hts hinX3 hown hK hP 0 rfl rfl 6 (by decide) (hts (.fieldLink RX3 21 "AxleKeeper$Line" "faulty" "[I") (by decide +kernel)) (fun _ h9 => h9) rfl dX3_save_70 ?_
    refine lv_aload_n hx hb dX3_save_73 rfl (lv_at hl 2 rfl) ?_
    refine lv_iload_n hx hb dX3_save_74 rfl (lv_at hl 0 rfl) ?_
    refine k_si (As := [.ref (a 6), .ref ar, .int (nI 24)]) (rest := []) (bytes := cX3_put) S (okX3_put l D cI cZ cQ _ 4 (13 + j) (a 6) ar 7 83 (f 6) (va_cpy (f 5) (va_cpy (f 4) (va_cpy (f 3) (upd (upd (upd r (ix 0) (f 0 0)) (ix 1) 1) (ix 2) (f 2 0)) 0 3 7) 0 10 7) 0 17 7) 24 _ rfl (LX_at hj) (by omega) (by decide) (by decide)) gX3_save_X3_put rfl ⟨rfl, rfl⟩ ndX3_put ⟨Nat.le_of_ble_eq_true rfl, Nat.le_of_ble_eq_true rfl⟩ hK hP hD hS hA rfl hl rfl (Nat.le_of_ble_eq_true rfl) dX3_save_75 ⟨Nat.zero_le _, Nat.zero_le _⟩ (fun H locs hP hD hS => ?_)
    rw [LX_set] at hP hD
    refine lv_istore_n (lv' := [(2, .int (nI 31)), (0, .ref h), (1, .ref ar)]) hx hb dX3_save_78 rfl hl (by decide) rfl (fun ls hl => ?_)
    refine lv_aload_n hx hb dX3_save_79 rfl (lv_at hl 1 rfl) ?_
    refine va_get (v := .ref (a 7)) (C := RX3) (T := TX3) (N := 15) (ci := 3) hx hb hts hinX3 hown hK hP 0 rfl rfl 7 (by decide) (hts (.fieldLink RX3 24 "AxleKeeper$Line" "heard" "[I") (by decide +kernel)) (fun _ h9 => h9) rfl dX3_save_80 ?_
    refine lv_aload_n hx hb dX3_save_83 rfl (lv_at hl 2 rfl) ?_
    refine lv_iload_n hx hb dX3_save_84 rfl (lv_at hl 0 rfl) ?_
    refine k_si (As := [.ref (a 7), .ref ar, .int (nI 31)]) (rest := []) (bytes := cX3_put) S (okX3_put l D cI cZ cQ _ 5 (13 + j) (a 7) ar 7 83 (f 7) (va_cpy (f 6) (va_cpy (f 5) (va_cpy (f 4) (va_cpy (f 3) (upd (upd (upd r (ix 0) (f 0 0)) (ix 1) 1) (ix 2) (f 2 0)) 0 3 7) 0 10 7) 0 17 7) 0 24 7) 31 _ rfl (LX_at hj) (by omega) (by decide) (by decide)) gX3_save_X3_put rfl ⟨rfl, rfl⟩ ndX3_put ⟨Nat.le_of_ble_eq_true rfl, Nat.le_of_ble_eq_true rfl⟩ hK hP hD hS hA rfl hl rfl (Nat.le_of_ble_eq_true rfl) dX3_save_85 ⟨Nat.zero_le _, Nat.zero_le _⟩ (fun H locs hP hD hS => ?_)
    rw [LX_set] at hP hD
    refine lv_istore_n (lv' := [(2, .int (nI 38)), (0, .ref h), (1, .ref ar)]) hx hb dX3_save_88 rfl hl (by decide) rfl (fun ls hl => ?_)
    refine lv_aload_n hx hb dX3_save_89 rfl (lv_at hl 1 rfl) ?_
    refine va_get (v := .ref (a 8)) (C := RX3) (T := TX3) (N := 15) (ci := 3) hx hb hts hinX3 hown hK hP 0 rfl rfl 8 (by decide) (hts (.fieldLink RX3 27 "AxleKeeper$Line" "heardFaulty" "[I") (by decide +kernel)) (fun _ h9 => h9) rfl dX3_save_90 ?_
    refine lv_aload_n hx hb dX3_save_93 rfl (lv_at hl 2 rfl) ?_
    refine lv_iload_n hx hb dX3_save_94 rfl (lv_at hl 0 rfl) ?_
    refine k_si (As := [.ref (a 8), .ref ar, .int (nI 38)]) (rest := []) (bytes := cX3_put) S (okX3_put l D cI cZ cQ _ 6 (13 + j) (a 8) ar 7 83 (f 8) (va_cpy (f 7) (va_cpy (f 6) (va_cpy (f 5) (va_cpy (f 4) (va_cpy (f 3) (upd (upd (upd r (ix 0) (f 0 0)) (ix 1) 1) (ix 2) (f 2 0)) 0 3 7) 0 10 7) 0 17 7) 0 24 7) 0 31 7) 38 _ rfl (LX_at hj) (by omega) (by decide) (by decide)) gX3_save_X3_put rfl ⟨rfl, rfl⟩ ndX3_put ⟨Nat.le_of_ble_eq_true rfl, Nat.le_of_ble_eq_true rfl⟩ hK hP hD hS hA rfl hl rfl (Nat.le_of_ble_eq_true rfl) dX3_save_95 ⟨Nat.zero_le _, Nat.zero_le _⟩ (fun H locs hP hD hS => ?_)
    rw [LX_set] at hP hD
    refine lv_istore_n (lv' := [(2, .int (nI 45)), (0, .ref h), (1, .ref ar)]) hx hb dX3_save_98 rfl hl (by decide) rfl (fun ls hl => ?_)
    refine lv_aload_n hx hb dX3_save_99 rfl (lv_at hl 1 rfl) ?_
    refine va_get (v := .ref (a 9)) (C := RX3) (T := TX3) (N := 15) (ci := 3) hx hb hts hinX3 hown hK hP 0 rfl rfl 9 (by decide) (hts (.fieldLink RX3 30 "AxleKeeper$Line" "age" "[I") (by decide +kernel)) (fun _ h9 => h9) rfl dX3_save_100 ?_
    refine lv_aload_n hx hb dX3_save_103 rfl (lv_at hl 2 rfl) ?_
    refine lv_iload_n hx hb dX3_save_104 rfl (lv_at hl 0 rfl) ?_
    refine k_si (As := [.ref (a 9), .ref ar, .int (nI 45)]) (rest := []) (bytes := cX3_put) S (okX3_put l D cI cZ cQ _ 7 (13 + j) (a 9) ar 7 83 (f 9) (va_cpy (f 8) (va_cpy (f 7) (va_cpy (f 6) (va_cpy (f 5) (va_cpy (f 4) (va_cpy (f 3) (upd (upd (upd r (ix 0) (f 0 0)) (ix 1) 1) (ix 2) (f 2 0)) 0 3 7) 0 10 7) 0 17 7) 0 24 7) 0 31 7) 0 38 7) 45 _ rfl (LX_at hj) (by omega) (by decide) (by decide)) gX3_save_X3_put rfl ⟨rfl, rfl⟩ ndX3_put ⟨Nat.le_of_ble_eq_true rfl, Nat.le_of_ble_eq_true rfl⟩ hK hP hD hS hA rfl hl rfl (Nat.le_of_ble_eq_true rfl) dX3_save_105 ⟨Nat.zero_le _, Nat.zero_le _⟩ (fun H locs hP hD hS => ?_)
    rw [LX_set] at hP hD
    refine lv_istore_n (lv' := [(2, .int (nI 52)), (0, .ref h), (1, .ref ar)]) hx hb dX3_save_108 rfl hl (by decide) rfl (fun ls hl => ?_)
    refine lv_aload_n hx hb dX3_save_109 rfl (lv_at hl 1 rfl) ?_
    refine va_get (v := .ref (a 10)) (C := RX3) (T := TX3) (N := 15) (ci := 3) hx hb hts hinX3 hown hK hP 0 rfl rfl 10 (by decide) (hts (.fieldLink RX3 33 "AxleKeeper$Line" "sweptOver" "[I") (by decide +kernel)) (fun _ h9 => h9) rfl dX3_save_110 ?_
    refine lv_aload_n hx hb dX3_save_113 rfl (lv_at hl 2 rfl) ?_
    refine lv_iload_n hx hb dX3_save_114 rfl (lv_at hl 0 rfl) ?_
    refine k_si (As := [.ref (a 10), .ref ar, .int (nI 52)]) (rest := []) (bytes := cX3_put) S (okX3_put l D cI cZ cQ _ 8 (13 + j) (a 10) ar 7 83 (f 10) (va_cpy (f 9) (va_cpy (f 8) (va_cpy (f 7) (va_cpy (f 6) (va_cpy (f 5) (va_cpy (f 4) (va_cpy (f 3) (upd (upd (upd r (ix 0) (f 0 0)) (ix 1) 1) (ix 2) (f 2 0)) 0 3 7) 0 10 7) 0 17 7) 0 24 7) 0 31 7) 0 38 7) 0 45 7) 52 _ rfl (LX_at hj) (by omega) (by decide) (by decide)) gX3_save_X3_put rfl ⟨rfl, rfl⟩ ndX3_put ⟨Nat.le_of_ble_eq_true rfl, Nat.le_of_ble_eq_true rfl⟩ hK hP hD hS hA rfl hl rfl (Nat.le_of_ble_eq_true rfl) dX3_save_115 ⟨Nat.zero_le _, Nat.zero_le _⟩ (fun H locs hP hD hS => ?_)
    rw [LX_set] at hP hD
    refine lv_istore_n (lv' := [(2, .int (nI 59)), (0, .ref h), (1, .ref ar)]) hx hb dX3_save_118 rfl hl (by decide) rfl (fun ls hl => ?_)
    refine lv_aload_n hx hb dX3_save_119 rfl (lv_at hl 1 rfl) ?_
    refine va_get (v := .ref (a 11)) (C := RX3) (T := TX3) (N := 15) (ci := 3) hx hb hts hinX3 hown hK hP 0 rfl rfl 11 (by decide) (hts (.fieldLink RX3 36 "AxleKeeper$Line" "sum" "[I") (by decide +kernel)) (fun _ h9 => h9) rfl dX3_save_120 ?_
    refine lv_aload_n hx hb dX3_save_123 rfl (lv_at hl 2 rfl) ?_
    refine lv_iload_n hx hb dX3_save_124 rfl (lv_at hl 0 rfl) ?_
    refine k_si (As := [.ref (a 11), .ref ar, .int (nI 59)]) (rest := []) (bytes := cX3_put) S (okX3_put l D cI cZ cQ _ 9 (13 + j) (a 11) ar 6 83 (f 11) (va_cpy (f 10) (va_cpy (f 9) (va_cpy (f 8) (va_cpy (f 7) (va_cpy (f 6) (va_cpy (f 5) (va_cpy (f 4) (va_cpy (f 3) (upd (upd (upd r (ix 0) (f 0 0)) (ix 1) 1) (ix 2) (f 2 0)) 0 3 7) 0 10 7) 0 17 7) 0 24 7) 0 31 7) 0 38 7) 0 45 7) 0 52 7) 59 _ rfl (LX_at hj) (by omega) (by decide) (by decide)) gX3_save_X3_put rfl ⟨rfl, rfl⟩ ndX3_put ⟨Nat.le_of_ble_eq_true rfl, Nat.le_of_ble_eq_true rfl⟩ hK hP hD hS hA rfl hl rfl (Nat.le_of_ble_eq_true rfl) dX3_save_125 ⟨Nat.zero_le _, Nat.zero_le _⟩ (fun H locs hP hD hS => ?_)
    rw [LX_set] at hP hD
    refine lv_istore_n (lv' := [(2, .int (nI 65)), (0, .ref h), (1, .ref ar)]) hx hb dX3_save_128 rfl hl (by decide) rfl (fun ls hl => ?_)
    refine lv_aload_n hx hb dX3_save_129 rfl (lv_at hl 1 rfl) ?_
    refine va_get (v := .ref (a 12)) (C := RX3) (T := TX3) (N := 15) (ci := 3) hx hb hts hinX3 hown hK hP 0 rfl rfl 12 (by decide) (hts (.fieldLink RX3 39 "AxleKeeper$Line" "call" "[I") (by decide +kernel)) (fun _ h9 => h9) rfl dX3_save_130 ?_
    refine lv_aload_n hx hb dX3_save_133 rfl (lv_at hl 2 rfl) ?_
    refine lv_iload_n hx hb dX3_save_134 rfl (lv_at hl 0 rfl) ?_
    refine k_si (As := [.ref (a 12), .ref ar, .int (nI 65)]) (rest := []) (bytes := cX3_put) S (okX3_put l D cI cZ cQ _ 10 (13 + j) (a 12) ar 6 83 (f 12) (va_cpy (f 11) (va_cpy (f 10) (va_cpy (f 9) (va_cpy (f 8) (va_cpy (f 7) (va_cpy (f 6) (va_cpy (f 5) (va_cpy (f 4) (va_cpy (f 3) (upd (upd (upd r (ix 0) (f 0 0)) (ix 1) 1) (ix 2) (f 2 0)) 0 3 7) 0 10 7) 0 17 7) 0 24 7) 0 31 7) 0 38 7) 0 45 7) 0 52 7) 0 59 6) 65 _ rfl (LX_at hj) (by omega) (by decide) (by decide)) gX3_save_X3_put rfl ⟨rfl, rfl⟩ ndX3_put ⟨Nat.le_of_ble_eq_true rfl, Nat.le_of_ble_eq_true rfl⟩ hK hP hD hS hA rfl hl rfl (Nat.le_of_ble_eq_true rfl) dX3_save_135 ⟨Nat.zero_le _, Nat.zero_le _⟩ (fun H locs hP hD hS => ?_)
    rw [LX_set] at hP hD
    refine lv_istore_n (lv' := [(2, .int (nI 71)), (0, .ref h), (1, .ref ar)]) hx hb dX3_save_138 rfl hl (by decide) rfl (fun ls hl => ?_)
    refine lv_aload_n hx hb dX3_save_139 rfl (lv_at hl 1 rfl) ?_
    refine va_get (v := .ref (a 13)) (C := RX3) (T := TX3) (N := 15) (ci := 3) hx hb hts hinX3 hown hK hP 0 rfl rfl 13 (by decide) (hts (.fieldLink RX3 42 "AxleKeeper$Line" "entered" "[I") (by decide +kernel)) (fun _ h9 => h9) rfl dX3_save_140 ?_
    refine lv_aload_n hx hb dX3_save_143 rfl (lv_at hl 2 rfl) ?_
    refine lv_iload_n hx hb dX3_save_144 rfl (lv_at hl 0 rfl) ?_
    refine k_si (As := [.ref (a 13), .ref ar, .int (nI 71)]) (rest := []) (bytes := cX3_put) S (okX3_put l D cI cZ cQ _ 11 (13 + j) (a 13) ar 6 83 (f 13) (va_cpy (f 12) (va_cpy (f 11) (va_cpy (f 10) (va_cpy (f 9) (va_cpy (f 8) (va_cpy (f 7) (va_cpy (f 6) (va_cpy (f 5) (va_cpy (f 4) (va_cpy (f 3) (upd (upd (upd r (ix 0) (f 0 0)) (ix 1) 1) (ix 2) (f 2 0)) 0 3 7) 0 10 7) 0 17 7) 0 24 7) 0 31 7) 0 38 7) 0 45 7) 0 52 7) 0 59 6) 0 65 6) 71 _ rfl (LX_at hj) (by omega) (by decide) (by decide)) gX3_save_X3_put rfl ⟨rfl, rfl⟩ ndX3_put ⟨Nat.le_of_ble_eq_true rfl, Nat.le_of_ble_eq_true rfl⟩ hK hP hD hS hA rfl hl rfl (Nat.le_of_ble_eq_true rfl) dX3_save_145 ⟨Nat.zero_le _, Nat.zero_le _⟩ (fun H locs hP hD hS => ?_)
    rw [LX_set] at hP hD
    refine lv_istore_n (lv' := [(2, .int (nI 77)), (0, .ref h), (1, .ref ar)]) hx hb dX3_save_148 rfl hl (by decide) rfl (fun ls hl => ?_)
    refine lv_aload_n hx hb dX3_save_149 rfl (lv_at hl 1 rfl) ?_
    refine va_get (v := .ref (a 14)) (C := RX3) (T := TX3) (N := 15) (ci := 3) hx hb hts hinX3 hown hK hP 0 rfl rfl 14 (by decide) (hts (.fieldLink RX3 45 "AxleKeeper$Line" "axles" "[I") (by decide +kernel)) (fun _ h9 => h9) rfl dX3_save_150 ?_
    refine lv_aload_n hx hb dX3_save_153 rfl (lv_at hl 2 rfl) ?_
    refine lv_iload_n hx hb dX3_save_154 rfl (lv_at hl 0 rfl) ?_
    refine k_si (As := [.ref (a 14), .ref ar, .int (nI 77)]) (rest := []) (bytes := cX3_put) S (okX3_put l D cI cZ cQ _ 12 (13 + j) (a 14) ar 6 83 (f 14) (va_cpy (f 13) (va_cpy (f 12) (va_cpy (f 11) (va_cpy (f 10) (va_cpy (f 9) (va_cpy (f 8) (va_cpy (f 7) (va_cpy (f 6) (va_cpy (f 5) (va_cpy (f 4) (va_cpy (f 3) (upd (upd (upd r (ix 0) (f 0 0)) (ix 1) 1) (ix 2) (f 2 0)) 0 3 7) 0 10 7) 0 17 7) 0 24 7) 0 31 7) 0 38 7) 0 45 7) 0 52 7) 0 59 6) 0 65 6) 0 71 6) 77 _ rfl (LX_at hj) (by omega) (by decide) (by decide)) gX3_save_X3_put rfl ⟨rfl, rfl⟩ ndX3_put ⟨Nat.le_of_ble_eq_true rfl, Nat.le_of_ble_eq_true rfl⟩ hK hP hD hS hA rfl hl rfl (Nat.le_of_ble_eq_true rfl) dX3_save_155 ⟨Nat.zero_le _, Nat.zero_le _⟩ (fun H locs hP hD hS => ?_)
    rw [LX_set] at hP hD
    refine lv_pop hx hb dX3_save_158 rfl ?_
    have hρ : pkL f r = (va_cpy (f 14) (va_cpy (f 13) (va_cpy (f 12) (va_cpy (f 11) (va_cpy (f 10) (va_cpy (f 9) (va_cpy (f 8) (va_cpy (f 7) (va_cpy (f 6) (va_cpy (f 5) (va_cpy (f 4) (va_cpy (f 3) (upd (upd (upd r (ix 0) (f 0 0)) (ix 1) 1) (ix 2) (f 2 0)) 0 3 7) 0 10 7) 0 17 7) 0 24 7) 0 31 7) 0 38 7) 0 45 7) 0 52 7) 0 59 6) 0 65 6) 0 71 6) 0 77 6) := by
      unfold pkL
      rw [if_neg c_21]
      rfl
    exact e_wv hx hb hr hlk hK hP hD hS dX3_save_159 (congrArg (fun q => LW cI h a f ++ X.set j (ar, .inl (cI, 83, .inl q))) hρ).symm
set_option maxHeartbeats 4000000 in
set_option maxRecDepth 100000 in
theorem okX3_load (l : Launch) (D : va_G) (cI cZ cQ : ClassId) (h : Nat) (a : Nat → Nat) (X : va_W) (j ar : Nat) (f : Nat → Nat → Int32) (r : Nat → Int32) (sz : Nat) (hj : j < X.length) : Met l yX3_load wsX3_load ({ frames := 2, cells := 0, slots := 0, locals := 40 }) (PW [.ref h, .ref ar] sz D (TY cI cZ cQ) (LW cI h a f ++ X.set j (ar, .inl (cI, 83, .inl r)))) (QV D (TY cI cZ cQ) (LW cI h a (unL f r) ++ X.set j (ar, .inl (cI, 83, .inl r))) (va_A (LW cI h a f ++ X.set j (ar, .inl (cI, 83, .inl r))) sz)) 0 0 (va_A (LW cI h a f ++ X.set j (ar, .inl (cI, 83, .inl r))) sz) := by
  refine m_wr (cc := cX3_load) (maxL := 3) (ret := none) (by decide) rfl (Nat.le_of_ble_eq_true rfl) (lv0 := [(0, .ref h), (1, .ref ar)]) rfl ?_
  intro p e s m below meth c ls A hAe S hr hlk hP hK hD hS hA hl
  rw [← hAe]
  have S : CallFix p m c cX3_load 3 s ([.ref h, .ref ar] : List Value).toArray wsX3_load RX3 := S
  have hx := S.1
  have hb := S.2.1
  have hown : s.vm.findClass RX3 = some m.cls := S.2.2.2.1
  have hts := S.2.2.2.2
  have hinX3 : ∀ w ∈ wsX30, w ∈ wsX3_load := by decide +kernel
  refine lv_aload_n hx hb dX3_load_0 rfl (lv_at hl 1 rfl) ?_
  refine va_alen (v := 83) hx hb hK hP (13 + j) 0 (LX_at hj) rfl rfl dX3_load_1 ?_
  refine lv_bipush (v := 83) hx hb dX3_load_2 (by decide) ?_
  refine lv_icmp_eq (tgt := 8) hx hb dX3_load_4 (by decide) (fun c_4 => ?_) (fun c_4 => absurd rfl c_4)
  refine lv_aload_n hx hb dX3_load_8 rfl (lv_at hl 0 rfl) ?_
  refine lv_aload_n hx hb dX3_load_9 rfl (lv_at hl 1 rfl) ?_
  refine lv_iconst (v := 0) hx hb dX3_load_10 (by decide) ?_
  refine va_iald hx hb hK hP (13 + j) 0 (LX_at hj) rfl (n := 83) (vin_c' (by decide)) dX3_load_11 ?_
  refine pf_L0 (x := r 0) S hinX3 hK hP hD hS (hts (.fieldLink RX3 48 "AxleKeeper$Line" "sections" "I") (by decide +kernel)) dX3_load_12 (fun H locs hP hD hS => ?_)
  refine lv_aload_n hx hb dX3_load_15 rfl (lv_at hl 0 rfl) ?_
  refine lv_aload_n hx hb dX3_load_16 rfl (lv_at hl 1 rfl) ?_
  refine lv_iconst (v := 1) hx hb dX3_load_17 (by decide) ?_
  refine va_iald hx hb hK hP (13 + j) 0 (LX_at hj) rfl (n := 83) (vin_c' (by decide)) dX3_load_18 ?_
  refine lv_iconst (v := 1) hx hb dX3_load_19 (by decide) ?_
  refine lv_icmp_ne (tgt := 27) hx hb dX3_load_20 (by decide) (fun c_20 => ?_) (fun c_20 => ?_)
  · have c_20 : ¬ (r 1 = 1) := c_20
    refine lv_iconst (v := 0) hx hb dX3_load_27 (by decide) ?_
    refine pf_L1 (x := 0) S hinX3 hK hP hD hS (hts (.fieldLink RX3 52 "AxleKeeper$Line" "ring" "Z") (by decide +kernel)) rfl rfl dX3_load_28 (fun H locs hP hD hS => ?_)
    refine lv_aload_n hx hb dX3_load_31 rfl (lv_at hl 0 rfl) ?_
    refine lv_aload_n hx hb dX3_load_32 rfl (lv_at hl 1 rfl) ?_
    refine lv_iconst (v := 2) hx hb dX3_load_33 (by decide) ?_
    refine va_iald hx hb hK hP (13 + j) 0 (LX_at hj) rfl (n := 83) (vin_c' (by decide)) dX3_load_34 ?_
    refine pf_L2 (x := r 2) S hinX3 hK hP hD hS (hts (.fieldLink RX3 56 "AxleKeeper$Line" "ticks" "I") (by decide +kernel)) dX3_load_35 (fun H locs hP hD hS => ?_)
    refine lv_iconst (v := 3) hx hb dX3_load_38 (by decide) ?_
    refine lv_istore_n (lv' := [(2, .int (nI 3)), (0, .ref h), (1, .ref ar)]) hx hb dX3_load_39 rfl hl (by decide) rfl (fun ls hl => ?_)
    refine lv_aload_n hx hb dX3_load_40 rfl (lv_at hl 1 rfl) ?_
    refine va_get (v := .ref (a 3)) (C := RX3) (T := TX3) (N := 15) (ci := 3) hx hb hts hinX3 hown hK hP 0 rfl rfl 3 (by decide) (hts (.fieldLink RX3 11 "AxleKeeper$Line" "state" "[I") (by decide +kernel)) (fun _ h9 => h9) rfl dX3_load_41 ?_
    refine lv_aload_n hx hb dX3_load_44 rfl (lv_at hl 2 rfl) ?_
    refine lv_iload_n hx hb dX3_load_45 rfl (lv_at hl 0 rfl) ?_
    refine k_si (As := [.ref (a 3), .ref ar, .int (nI 3)]) (rest := []) (bytes := cX3_get) S (okX3_get l D cI cZ cQ _ 1 (13 + j) (a 3) ar 7 83 ((up2 (up2 (up2 f 0 0 (r 0)) 1 0 0) 2 0 (r 2)) 3) r 3 _ rfl (LX_at hj) (by omega) (by decide) (by decide)) gX3_load_X3_get rfl ⟨rfl, rfl⟩ ndX3_get ⟨Nat.le_of_ble_eq_true rfl, Nat.le_of_ble_eq_true rfl⟩ hK hP hD hS hA rfl hl rfl (Nat.le_of_ble_eq_true rfl) dX3_load_46 ⟨Nat.zero_le _, Nat.zero_le _⟩ (fun H locs hP hD hS => ?_)
    rw [LW_un3] at hP hD
    refine lv_istore_n (lv' := [(2, .int (nI 10)), (0, .ref h), (1, .ref ar)]) hx hb dX3_load_49 rfl hl (by decide) rfl (fun ls hl => ?_)
    refine lv_aload_n hx hb dX3_load_50 rfl (lv_at hl 1 rfl) ?_
    refine va_get (v := .ref (a 4)) (C := RX3) (T := TX3) (N := 15) (ci := 3) hx hb hts hinX3 hown hK hP 0 rfl rfl 4 (by decide) (hts (.fieldLink RX3 15 "AxleKeeper$Line" "wheel" "[I") (by decide +kernel)) (fun _ h9 => h9) rfl dX3_load_51 ?_
    refine lv_aload_n hx hb dX3_load_54 rfl (lv_at hl 2 rfl) ?_
    refine lv_iload_n hx hb dX3_load_55 rfl (lv_at hl 0 rfl) ?_
    refine k_si (As := [.ref (a 4), .ref ar, .int (nI 10)]) (rest := []) (bytes := cX3_get) S (okX3_get l D cI cZ cQ _ 2 (13 + j) (a 4) ar 7 83 ((unK (up2 (up2 (up2 f 0 0 (r 0)) 1 0 0) 2 0 (r 2)) r 3 3 7) 4) r 10 _ rfl (LX_at hj) (by omega) (by decide) (by decide)) gX3_load_X3_get rfl ⟨rfl, rfl⟩ ndX3_get ⟨Nat.le_of_ble_eq_true rfl, Nat.le_of_ble_eq_true rfl⟩ hK hP hD hS hA rfl hl rfl (Nat.le_of_ble_eq_true rfl) dX3_load_56 ⟨Nat.zero_le _, Nat.zero_le _⟩ (fun H locs hP hD hS => ?_)
    rw [LW_un4] at hP hD
    refine lv_istore_n (lv' := [(2, .int (nI 17)), (0, .ref h), (1, .ref ar)]) hx hb dX3_load_59 rfl hl (by decide) rfl (fun ls hl => ?_)
    refine lv_aload_n hx hb dX3_load_60 rfl (lv_at hl 1 rfl) ?_
    refine va_get (v := .ref (a 5)) (C := RX3) (T := TX3) (N := 15) (ci := 3) hx hb hts hinX3 hown hK hP 0 rfl rfl 5 (by decide) (hts (.fieldLink RX3 18 "AxleKeeper$Line" "count" "[I") (by decide +kernel)) (fun _ h9 => h9) rfl dX3_load_61 ?_
    refine lv_aload_n hx hb dX3_load_64 rfl (lv_at hl 2 rfl) ?_
    refine lv_iload_n hx hb dX3_load_65 rfl (lv_at hl 0 rfl) ?_
    refine k_si (As := [.ref (a 5), .ref ar, .int (nI 17)]) (rest := []) (bytes := cX3_get) S (okX3_get l D cI cZ cQ _ 3 (13 + j) (a 5) ar 7 83 ((unK (unK (up2 (up2 (up2 f 0 0 (r 0)) 1 0 0) 2 0 (r 2)) r 3 3 7) r 4 10 7) 5) r 17 _ rfl (LX_at hj) (by omega) (by decide) (by decide)) gX3_load_X3_get rfl ⟨rfl, rfl⟩ ndX3_get ⟨Nat.le_of_ble_eq_true rfl, Nat.le_of_ble_eq_true rfl⟩ hK hP hD hS hA rfl hl rfl (Nat.le_of_ble_eq_true rfl) dX3_load_66 ⟨Nat.zero_le _, Nat.zero_le _⟩ (fun H locs hP hD hS => ?_)
    rw [LW_un5] at hP hD
    refine lv_istore_n (lv' := [(2, .int (nI 24)), (0, .ref h), (1, .ref ar)]) hx hb dX3_load_69 rfl hl (by decide) rfl (fun ls hl => ?_)
    refine lv_aload_n hx hb dX3_load_70 rfl (lv_at hl 1 rfl) ?_
    refine va_get (v := .ref (a 6)) (C := RX3) (T := TX3) (N := 15) (ci := 3) hx hb hts hinX3 hown hK hP 0 rfl rfl 6 (by decide) (hts (.fieldLink RX3 21 "AxleKeeper$Line" "faulty" "[I") (by decide +kernel)) (fun _ h9 => h9) rfl dX3_load_71 ?_
    refine lv_aload_n hx hb dX3_load_74 rfl (lv_at hl 2 rfl) ?_
    refine lv_iload_n hx hb dX3_load_75 rfl (lv_at hl 0 rfl) ?_
    refine k_si (As := [.ref (a 6), .ref ar, .int (nI 24)]) (rest := []) (bytes := cX3_get) S (okX3_get l D cI cZ cQ _ 4 (13 + j) (a 6) ar 7 83 ((unK (unK (unK (up2 (up2 (up2 f 0 0 (r 0)) 1 0 0) 2 0 (r 2)) r 3 3 7) r 4 10 7) r 5 17 7) 6) r 24 _ rfl (LX_at hj) (by omega) (by decide) (by decide)) gX3_load_X3_get rfl ⟨rfl, rfl⟩ ndX3_get ⟨Nat.le_of_ble_eq_true rfl, Nat.le_of_ble_eq_true rfl⟩ hK hP hD hS hA rfl hl rfl (Nat.le_of_ble_eq_true rfl) dX3_load_76 ⟨Nat.zero_le _, Nat.zero_le _⟩ (fun H locs hP hD hS => ?_)
    rw [LW_un6] at hP hD
    refine lv_istore_n (lv' := [(2, .int (nI 31)), (0, .ref h), (1, .ref ar)]) hx hb dX3_load_79 rfl hl (by decide) rfl (fun ls hl => ?_)
    refine lv_aload_n hx hb dX3_load_80 rfl (lv_at hl 1 rfl) ?_
    refine va_get (v := .ref (a 7)) (C := RX3) (T := TX3) (N := 15) (ci := 3) hx hb hts hinX3 hown hK hP 0 rfl rfl 7 (by decide) (hts (.fieldLink RX3 24 "AxleKeeper$Line" "heard" "[I") (by decide +kernel)) (fun _ h9 => h9) rfl dX3_load_81 ?_
    refine lv_aload_n hx hb dX3_load_84 rfl (lv_at hl 2 rfl) ?_
    refine lv_iload_n hx hb dX3_load_85 rfl (lv_at hl 0 rfl) ?_
    refine k_si (As := [.ref (a 7), .ref ar, .int (nI 31)]) (rest := []) (bytes := cX3_get) S (okX3_get l D cI cZ cQ _ 5 (13 + j) (a 7) ar 7 83 ((unK (unK (unK (unK (up2 (up2 (up2 f 0 0 (r 0)) 1 0 0) 2 0 (r 2)) r 3 3 7) r 4 10 7) r 5 17 7) r 6 24 7) 7) r 31 _ rfl (LX_at hj) (by omega) (by decide) (by decide)) gX3_load_X3_get rfl ⟨rfl, rfl⟩ ndX3_get ⟨Nat.le_of_ble_eq_true rfl, Nat.le_of_ble_eq_true rfl⟩ hK hP hD hS hA rfl hl rfl (Nat.le_of_ble_eq_true rfl) dX3_load_86 ⟨Nat.zero_le _, Nat.zero_le _⟩ (fun H locs hP hD hS => ?_)
    rw [LW_un7] at hP hD
    refine lv_istore_n (lv' := [(2, .int (nI 38)), (0, .ref h), (1, .ref ar)]) hx hb dX3_load_89 rfl hl (by decide) rfl (fun ls hl => ?_)
    refine lv_aload_n hx hb dX3_load_90 rfl (lv_at hl 1 rfl) ?_
    refine va_get (v := .ref (a 8)) (C := RX3) (T := TX3) (N := 15) (ci := 3) hx hb hts hinX3 hown hK hP 0 rfl rfl 8 (by decide) (hts (.fieldLink RX3 27 "AxleKeeper$Line" "heardFaulty" "[I") (by decide +kernel)) (fun _ h9 => h9) rfl dX3_load_91 ?_
    refine lv_aload_n hx hb dX3_load_94 rfl (lv_at hl 2 rfl) ?_
    refine lv_iload_n hx hb dX3_load_95 rfl (lv_at hl 0 rfl) ?_
    refine k_si (As := [.ref (a 8), .ref ar, .int (nI 38)]) (rest := []) (bytes := cX3_get) S (okX3_get l D cI cZ cQ _ 6 (13 + j) (a 8) ar 7 83 ((unK (unK (unK (unK (unK (up2 (up2 (up2 f 0 0 (r 0)) 1 0 0) 2 0 (r 2)) r 3 3 7) r 4 10 7) r 5 17 7) r 6 24 7) r 7 31 7) 8) r 38 _ rfl (LX_at hj) (by omega) (by decide) (by decide)) gX3_load_X3_get rfl ⟨rfl, rfl⟩ ndX3_get ⟨Nat.le_of_ble_eq_true rfl, Nat.le_of_ble_eq_true rfl⟩ hK hP hD hS hA rfl hl rfl (Nat.le_of_ble_eq_true rfl) dX3_load_96 ⟨Nat.zero_le _, Nat.zero_le _⟩ (fun H locs hP hD hS => ?_)
    rw [LW_un8] at hP hD
    refine lv_istore_n (lv' := [(2, .int (nI 45)), (0, .ref h), (1, .ref ar)]) hx hb dX3_load_99 rfl hl (by decide) rfl (fun ls hl => ?_)
    refine lv_aload_n hx hb dX3_load_100 rfl (lv_at hl 1 rfl) ?_
    refine va_get (v := .ref (a 9)) (C := RX3) (T := TX3) (N := 15) (ci := 3) hx hb hts hinX3 hown hK hP 0 rfl rfl 9 (by decide) (hts (.fieldLink RX3 30 "AxleKeeper$Line" "age" "[I") (by decide +kernel)) (fun _ h9 => h9) rfl dX3_load_101 ?_
    refine lv_aload_n hx hb dX3_load_104 rfl (lv_at hl 2 rfl) ?_
    refine lv_iload_n hx hb dX3_load_105 rfl (lv_at hl 0 rfl) ?_
    refine k_si (As := [.ref (a 9), .ref ar, .int (nI 45)]) (rest := []) (bytes := cX3_get) S (okX3_get l D cI cZ cQ _ 7 (13 + j) (a 9) ar 7 83 ((unK (unK (unK (unK (unK (unK (up2 (up2 (up2 f 0 0 (r 0)) 1 0 0) 2 0 (r 2)) r 3 3 7) r 4 10 7) r 5 17 7) r 6 24 7) r 7 31 7) r 8 38 7) 9) r 45 _ rfl (LX_at hj) (by omega) (by decide) (by decide)) gX3_load_X3_get rfl ⟨rfl, rfl⟩ ndX3_get ⟨Nat.le_of_ble_eq_true rfl, Nat.le_of_ble_eq_true rfl⟩ hK hP hD hS hA rfl hl rfl (Nat.le_of_ble_eq_true rfl) dX3_load_106 ⟨Nat.zero_le _, Nat.zero_le _⟩ (fun H locs hP hD hS => ?_)
    rw [LW_un9] at hP hD
    refine lv_istore_n (lv' := [(2, .int (nI 52)), (0, .ref h), (1, .ref ar)]) hx hb dX3_load_109 rfl hl (by decide) rfl (fun ls hl => ?_)
    refine lv_aload_n hx hb dX3_load_110 rfl (lv_at hl 1 rfl) ?_
    refine va_get (v := .ref (a 10)) (C := RX3) (T := TX3) (N := 15) (ci := 3) hx hb hts hinX3 hown hK hP 0 rfl rfl 10 (by decide) (hts (.fieldLink RX3 33 "AxleKeeper$Line" "sweptOver" "[I") (by decide +kernel)) (fun _ h9 => h9) rfl dX3_load_111 ?_
    refine lv_aload_n hx hb dX3_load_114 rfl (lv_at hl 2 rfl) ?_
    refine lv_iload_n hx hb dX3_load_115 rfl (lv_at hl 0 rfl) ?_
    refine k_si (As := [.ref (a 10), .ref ar, .int (nI 52)]) (rest := []) (bytes := cX3_get) S (okX3_get l D cI cZ cQ _ 8 (13 + j) (a 10) ar 7 83 ((unK (unK (unK (unK (unK (unK (unK (up2 (up2 (up2 f 0 0 (r 0)) 1 0 0) 2 0 (r 2)) r 3 3 7) r 4 10 7) r 5 17 7) r 6 24 7) r 7 31 7) r 8 38 7) r 9 45 7) 10) r 52 _ rfl (LX_at hj) (by omega) (by decide) (by decide)) gX3_load_X3_get rfl ⟨rfl, rfl⟩ ndX3_get ⟨Nat.le_of_ble_eq_true rfl, Nat.le_of_ble_eq_true rfl⟩ hK hP hD hS hA rfl hl rfl (Nat.le_of_ble_eq_true rfl) dX3_load_116 ⟨Nat.zero_le _, Nat.zero_le _⟩ (fun H locs hP hD hS => ?_)
    rw [LW_un10] at hP hD
    refine lv_istore_n (lv' := [(2, .int (nI 59)), (0, .ref h), (1, .ref ar)]) hx hb dX3_load_119 rfl hl (by decide) rfl (fun ls hl => ?_)
    refine lv_aload_n hx hb dX3_load_120 rfl (lv_at hl 1 rfl) ?_
    refine va_get (v := .ref (a 11)) (C := RX3) (T := TX3) (N := 15) (ci := 3) hx hb hts hinX3 hown hK hP 0 rfl rfl 11 (by decide) (hts (.fieldLink RX3 36 "AxleKeeper$Line" "sum" "[I") (by decide +kernel)) (fun _ h9 => h9) rfl dX3_load_121 ?_
    refine lv_aload_n hx hb dX3_load_124 rfl (lv_at hl 2 rfl) ?_
    refine lv_iload_n hx hb dX3_load_125 rfl (lv_at hl 0 rfl) ?_
    refine k_si (As := [.ref (a 11), .ref ar, .int (nI 59)]) (rest := []) (bytes := cX3_get) S (okX3_get l D cI cZ cQ _ 9 (13 + j) (a 11) ar 6 83 ((unK (unK (unK (unK (unK (unK (unK (unK (up2 (up2 (up2 f 0 0 (r 0)) 1 0 0) 2 0 (r 2)) r 3 3 7) r 4 10 7) r 5 17 7) r 6 24 7) r 7 31 7) r 8 38 7) r 9 45 7) r 10 52 7) 11) r 59 _ rfl (LX_at hj) (by omega) (by decide) (by decide)) gX3_load_X3_get rfl ⟨rfl, rfl⟩ ndX3_get ⟨Nat.le_of_ble_eq_true rfl, Nat.le_of_ble_eq_true rfl⟩ hK hP hD hS hA rfl hl rfl (Nat.le_of_ble_eq_true rfl) dX3_load_126 ⟨Nat.zero_le _, Nat.zero_le _⟩ (fun H locs hP hD hS => ?_)
    rw [LW_un11] at hP hD
    refine lv_istore_n (lv' := [(2, .int (nI 65)), (0, .ref h), (1, .ref ar)]) hx hb dX3_load_129 rfl hl (by decide) rfl (fun ls hl => ?_)
    refine lv_aload_n hx hb dX3_load_130 rfl (lv_at hl 1 rfl) ?_
    refine va_get (v := .ref (a 12)) (C := RX3) (T := TX3) (N := 15) (ci := 3) hx hb hts hinX3 hown hK hP 0 rfl rfl 12 (by decide) (hts (.fieldLink RX3 39 "AxleKeeper$Line" "call" "[I") (by decide +kernel)) (fun _ h9 => h9) rfl dX3_load_131 ?_
    refine lv_aload_n hx hb dX3_load_134 rfl (lv_at hl 2 rfl) ?_
    refine lv_iload_n hx hb dX3_load_135 rfl (lv_at hl 0 rfl) ?_
    refine k_si (As := [.ref (a 12), .ref ar, .int (nI 65)]) (rest := []) (bytes := cX3_get) S (okX3_get l D cI cZ cQ _ 10 (13 + j) (a 12) ar 6 83 ((unK (unK (unK (unK (unK (unK (unK (unK (unK (up2 (up2 (up2 f 0 0 (r 0)) 1 0 0) 2 0 (r 2)) r 3 3 7) r 4 10 7) r 5 17 7) r 6 24 7) r 7 31 7) r 8 38 7) r 9 45 7) r 10 52 7) r 11 59 6) 12) r 65 _ rfl (LX_at hj) (by omega) (by decide) (by decide)) gX3_load_X3_get rfl ⟨rfl, rfl⟩ ndX3_get ⟨Nat.le_of_ble_eq_true rfl, Nat.le_of_ble_eq_true rfl⟩ hK hP hD hS hA rfl hl rfl (Nat.le_of_ble_eq_true rfl) dX3_load_136 ⟨Nat.zero_le _, Nat.zero_le _⟩ (fun H locs hP hD hS => ?_)
    rw [LW_un12] at hP hD
    refine lv_istore_n (lv' := [(2, .int (nI 71)), (0, .ref h), (1, .ref ar)]) hx hb dX3_load_139 rfl hl (by decide) rfl (fun ls hl => ?_)
    refine lv_aload_n hx hb dX3_load_140 rfl (lv_at hl 1 rfl) ?_
    refine va_get (v := .ref (a 13)) (C := RX3) (T := TX3) (N := 15) (ci := 3) hx hb hts hinX3 hown hK hP 0 rfl rfl 13 (by decide) (hts (.fieldLink RX3 42 "AxleKeeper$Line" "entered" "[I") (by decide +kernel)) (fun _ h9 => h9) rfl dX3_load_141 ?_
    refine lv_aload_n hx hb dX3_load_144 rfl (lv_at hl 2 rfl) ?_
    refine lv_iload_n hx hb dX3_load_145 rfl (lv_at hl 0 rfl) ?_
    refine k_si (As := [.ref (a 13), .ref ar, .int (nI 71)]) (rest := []) (bytes := cX3_get) S (okX3_get l D cI cZ cQ _ 11 (13 + j) (a 13) ar 6 83 ((unK (unK (unK (unK (unK (unK (unK (unK (unK (unK (up2 (up2 (up2 f 0 0 (r 0)) 1 0 0) 2 0 (r 2)) r 3 3 7) r 4 10 7) r 5 17 7) r 6 24 7) r 7 31 7) r 8 38 7) r 9 45 7) r 10 52 7) r 11 59 6) r 12 65 6) 13) r 71 _ rfl (LX_at hj) (by omega) (by decide) (by decide)) gX3_load_X3_get rfl ⟨rfl, rfl⟩ ndX3_get ⟨Nat.le_of_ble_eq_true rfl, Nat.le_of_ble_eq_true rfl⟩ hK hP hD hS hA rfl hl rfl (Nat.le_of_ble_eq_true rfl) dX3_load_146 ⟨Nat.zero_le _, Nat.zero_le _⟩ (fun H locs hP hD hS => ?_)
    rw [LW_un13] at hP hD
    refine lv_istore_n (lv' := [(2, .int (nI 77)), (0, .ref h), (1, .ref ar)]) hx hb dX3_load_149 rfl hl (by decide) rfl (fun ls hl => ?_)
    refine lv_aload_n hx hb dX3_load_150 rfl (lv_at hl 1 rfl) ?_
    refine va_get (v := .ref (a 14)) (C := RX3) (T := TX3) (N := 15) (ci := 3) hx hb hts hinX3 hown hK hP 0 rfl rfl 14 (by decide) (hts (.fieldLink RX3 45 "AxleKeeper$Line" "axles" "[I") (by decide +kernel)) (fun _ h9 => h9) rfl dX3_load_151 ?_
    refine lv_aload_n hx hb dX3_load_154 rfl (lv_at hl 2 rfl) ?_
    refine lv_iload_n hx hb dX3_load_155 rfl (lv_at hl 0 rfl) ?_
    refine k_si (As := [.ref (a 14), .ref ar, .int (nI 77)]) (rest := []) (bytes := cX3_get) S (okX3_get l D cI cZ cQ _ 12 (13 + j) (a 14) ar 6 83 ((unK (unK (unK (unK (unK (unK (unK (unK (unK (unK (unK (up2 (up2 (up2 f 0 0 (r 0)) 1 0 0) 2 0 (r 2)) r 3 3 7) r 4 10 7) r 5 17 7) r 6 24 7) r 7 31 7) r 8 38 7) r 9 45 7) r 10 52 7) r 11 59 6) r 12 65 6) r 13 71 6) 14) r 77 _ rfl (LX_at hj) (by omega) (by decide) (by decide)) gX3_load_X3_get rfl ⟨rfl, rfl⟩ ndX3_get ⟨Nat.le_of_ble_eq_true rfl, Nat.le_of_ble_eq_true rfl⟩ hK hP hD hS hA rfl hl rfl (Nat.le_of_ble_eq_true rfl) dX3_load_156 ⟨Nat.zero_le _, Nat.zero_le _⟩ (fun H locs hP hD hS => ?_)
    rw [LW_un14] at hP hD
    refine lv_pop hx hb dX3_load_159 rfl ?_
    have hρ : unL f r = (unK (unK (unK (unK (unK (unK (unK (unK (unK (unK (unK (unK (up2 (up2 (up2 f 0 0 (r 0)) 1 0 0) 2 0 (r 2)) r 3 3 7) r 4 10 7) r 5 17 7) r 6 24 7) r 7 31 7) r 8 38 7) r 9 45 7) r 10 52 7) r 11 59 6) r 12 65 6) r 13 71 6) r 14 77 6) := by
      unfold unL
      rw [if_neg c_20]
    exact e_wv hx hb hr hlk hK hP hD hS dX3_load_160 (congrArg (fun q => LW cI h a q ++ X.set j (ar, .inl (cI, 83, .inl r))) hρ).symm
  · have c_20 : r 1 = 1 := c_20
    refine lv_iconst (v := 1) hx hb dX3_load_23 (by decide) ?_
    refine lv_goto (tgt := 28) hx hb dX3_load_24 (by decide) ?_
    refine pf_L1 (x := 1) S hinX3 hK hP hD hS (hts (.fieldLink RX3 52 "AxleKeeper$Line" "ring" "Z") (by decide +kernel)) rfl rfl dX3_load_28 (fun H locs hP hD hS => ?_)
    refine lv_aload_n hx hb dX3_load_31 rfl (lv_at hl 0 rfl) ?_
    refine lv_aload_n hx hb dX3_load_32 rfl (lv_at hl 1 rfl) ?_
    refine lv_iconst (v := 2) hx hb dX3_load_33 (by decide) ?_
    refine va_iald hx hb hK hP (13 + j) 0 (LX_at hj) rfl (n := 83) (vin_c' (by decide)) dX3_load_34 ?_
    refine pf_L2 (x := r 2) S hinX3 hK hP hD hS (hts (.fieldLink RX3 56 "AxleKeeper$Line" "ticks" "I") (by decide +kernel)) dX3_load_35 (fun H locs hP hD hS => ?_)
    refine lv_iconst (v := 3) hx hb dX3_load_38 (by decide) ?_
    refine lv_istore_n (lv' := [(2, .int (nI 3)), (0, .ref h), (1, .ref ar)]) hx hb dX3_load_39 rfl hl (by decide) rfl (fun ls hl => ?_)
    refine lv_aload_n hx hb dX3_load_40 rfl (lv_at hl 1 rfl) ?_
    refine va_get (v := .ref (a 3)) (C := RX3) (T := TX3) (N := 15) (ci := 3) hx hb hts hinX3 hown hK hP 0 rfl rfl 3 (by decide) (hts (.fieldLink RX3 11 "AxleKeeper$Line" "state" "[I") (by decide +kernel)) (fun _ h9 => h9) rfl dX3_load_41 ?_
    refine lv_aload_n hx hb dX3_load_44 rfl (lv_at hl 2 rfl) ?_
    refine lv_iload_n hx hb dX3_load_45 rfl (lv_at hl 0 rfl) ?_
    refine k_si (As := [.ref (a 3), .ref ar, .int (nI 3)]) (rest := []) (bytes := cX3_get) S (okX3_get l D cI cZ cQ _ 1 (13 + j) (a 3) ar 7 83 ((up2 (up2 (up2 f 0 0 (r 0)) 1 0 1) 2 0 (r 2)) 3) r 3 _ rfl (LX_at hj) (by omega) (by decide) (by decide)) gX3_load_X3_get rfl ⟨rfl, rfl⟩ ndX3_get ⟨Nat.le_of_ble_eq_true rfl, Nat.le_of_ble_eq_true rfl⟩ hK hP hD hS hA rfl hl rfl (Nat.le_of_ble_eq_true rfl) dX3_load_46 ⟨Nat.zero_le _, Nat.zero_le _⟩ (fun H locs hP hD hS => ?_)
    rw [LW_un3] at hP hD
    refine lv_istore_n (lv' := [(2, .int (nI 10)), (0, .ref h), (1, .ref ar)]) hx hb dX3_load_49 rfl hl (by decide) rfl (fun ls hl => ?_)
    refine lv_aload_n hx hb dX3_load_50 rfl (lv_at hl 1 rfl) ?_
    refine va_get (v := .ref (a 4)) (C := RX3) (T := TX3) (N := 15) (ci := 3) hx hb hts hinX3 hown hK hP 0 rfl rfl 4 (by decide) (hts (.fieldLink RX3 15 "AxleKeeper$Line" "wheel" "[I") (by decide +kernel)) (fun _ h9 => h9) rfl dX3_load_51 ?_
    refine lv_aload_n hx hb dX3_load_54 rfl (lv_at hl 2 rfl) ?_
    refine lv_iload_n hx hb dX3_load_55 rfl (lv_at hl 0 rfl) ?_
    refine k_si (As := [.ref (a 4), .ref ar, .int (nI 10)]) (rest := []) (bytes := cX3_get) S (okX3_get l D cI cZ cQ _ 2 (13 + j) (a 4) ar 7 83 ((unK (up2 (up2 (up2 f 0 0 (r 0)) 1 0 1) 2 0 (r 2)) r 3 3 7) 4) r 10 _ rfl (LX_at hj) (by omega) (by decide) (by decide)) gX3_load_X3_get rfl ⟨rfl, rfl⟩ ndX3_get ⟨Nat.le_of_ble_eq_true rfl, Nat.le_of_ble_eq_true rfl⟩ hK hP hD hS hA rfl hl rfl (Nat.le_of_ble_eq_true rfl) dX3_load_56 ⟨Nat.zero_le _, Nat.zero_le _⟩ (fun H locs hP hD hS => ?_)
    rw [LW_un4] at hP hD
    refine lv_istore_n (lv' := [(2, .int (nI 17)), (0, .ref h), (1, .ref ar)]) hx hb dX3_load_59 rfl hl (by decide) rfl (fun ls hl => ?_)
    refine lv_aload_n hx hb dX3_load_60 rfl (lv_at hl 1 rfl) ?_
    refine va_get (v := .ref (a 5)) (C := RX3) (T := TX3) (N := 15) (ci := 3) hx hb hts hinX3 hown hK hP 0 rfl rfl 5 (by decide) (hts (.fieldLink RX3 18 "AxleKeeper$Line" "count" "[I") (by decide +kernel)) (fun _ h9 => h9) rfl dX3_load_61 ?_
    refine lv_aload_n hx hb dX3_load_64 rfl (lv_at hl 2 rfl) ?_
    refine lv_iload_n hx hb dX3_load_65 rfl (lv_at hl 0 rfl) ?_
    refine k_si (As := [.ref (a 5), .ref ar, .int (nI 17)]) (rest := []) (bytes := cX3_get) S (okX3_get l D cI cZ cQ _ 3 (13 + j) (a 5) ar 7 83 ((unK (unK (up2 (up2 (up2 f 0 0 (r 0)) 1 0 1) 2 0 (r 2)) r 3 3 7) r 4 10 7) 5) r 17 _ rfl (LX_at hj) (by omega) (by decide) (by decide)) gX3_load_X3_get rfl ⟨rfl, rfl⟩ ndX3_get ⟨Nat.le_of_ble_eq_true rfl, Nat.le_of_ble_eq_true rfl⟩ hK hP hD hS hA rfl hl rfl (Nat.le_of_ble_eq_true rfl) dX3_load_66 ⟨Nat.zero_le _, Nat.zero_le _⟩ (fun H locs hP hD hS => ?_)
    rw [LW_un5] at hP hD
    refine lv_istore_n (lv' := [(2, .int (nI 24)), (0, .ref h), (1, .ref ar)]) hx hb dX3_load_69 rfl hl (by decide) rfl (fun ls hl => ?_)
    refine lv_aload_n hx hb dX3_load_70 rfl (lv_at hl 1 rfl) ?_
    refine va_get (v := .ref (a 6)) (C := RX3) (T := TX3) (N := 15) (ci := 3) hx hb hts hinX3 hown hK hP 0 rfl rfl 6 (by decide) (hts (.fieldLink RX3 21 "AxleKeeper$Line" "faulty" "[I") (by decide +kernel)) (fun _ h9 => h9) rfl dX3_load_71 ?_
    refine lv_aload_n hx hb dX3_load_74 rfl (lv_at hl 2 rfl) ?_
    refine lv_iload_n hx hb dX3_load_75 rfl (lv_at hl 0 rfl) ?_
    refine k_si (As := [.ref (a 6), .ref ar, .int (nI 24)]) (rest := []) (bytes := cX3_get) S (okX3_get l D cI cZ cQ _ 4 (13 + j) (a 6) ar 7 83 ((unK (unK (unK (up2 (up2 (up2 f 0 0 (r 0)) 1 0 1) 2 0 (r 2)) r 3 3 7) r 4 10 7) r 5 17 7) 6) r 24 _ rfl (LX_at hj) (by omega) (by decide) (by decide)) gX3_load_X3_get rfl ⟨rfl, rfl⟩ ndX3_get ⟨Nat.le_of_ble_eq_true rfl, Nat.le_of_ble_eq_true rfl⟩ hK hP hD hS hA rfl hl rfl (Nat.le_of_ble_eq_true rfl) dX3_load_76 ⟨Nat.zero_le _, Nat.zero_le _⟩ (fun H locs hP hD hS => ?_)
    rw [LW_un6] at hP hD
    refine lv_istore_n (lv' := [(2, .int (nI 31)), (0, .ref h), (1, .ref ar)]) hx hb dX3_load_79 rfl hl (by decide) rfl (fun ls hl => ?_)
    refine lv_aload_n hx hb dX3_load_80 rfl (lv_at hl 1 rfl) ?_
    refine va_get (v := .ref (a 7)) (C := RX3) (T := TX3) (N := 15) (ci := 3) hx hb hts hinX3 hown hK hP 0 rfl rfl 7 (by decide) (hts (.fieldLink RX3 24 "AxleKeeper$Line" "heard" "[I") (by decide +kernel)) (fun _ h9 => h9) rfl dX3_load_81 ?_
    refine lv_aload_n hx hb dX3_load_84 rfl (lv_at hl 2 rfl) ?_
    refine lv_iload_n hx hb dX3_load_85 rfl (lv_at hl 0 rfl) ?_
    refine k_si (As := [.ref (a 7), .ref ar, .int (nI 31)]) (rest := []) (bytes := cX3_get) S (okX3_get l D cI cZ cQ _ 5 (13 + j) (a 7) ar 7 83 ((unK (unK (unK (unK (up2 (up2 (up2 f 0 0 (r 0)) 1 0 1) 2 0 (r 2)) r 3 3 7) r 4 10 7) r 5 17 7) r 6 24 7) 7) r 31 _ rfl (LX_at hj) (by omega) (by decide) (by decide)) gX3_load_X3_get rfl ⟨rfl, rfl⟩ ndX3_get ⟨Nat.le_of_ble_eq_true rfl, Nat.le_of_ble_eq_true rfl⟩ hK hP hD hS hA rfl hl rfl (Nat.le_of_ble_eq_true rfl) dX3_load_86 ⟨Nat.zero_le _, Nat.zero_le _⟩ (fun H locs hP hD hS => ?_)
    rw [LW_un7] at hP hD
    refine lv_istore_n (lv' := [(2, .int (nI 38)), (0, .ref h), (1, .ref ar)]) hx hb dX3_load_89 rfl hl (by decide) rfl (fun ls hl => ?_)
    refine lv_aload_n hx hb dX3_load_90 rfl (lv_at hl 1 rfl) ?_
    refine va_get (v := .ref (a 8)) (C := RX3) (T := TX3) (N := 15) (ci := 3) hx hb hts hinX3 hown hK hP 0 rfl rfl 8 (by decide) (hts (.fieldLink RX3 27 "AxleKeeper$Line" "heardFaulty" "[I") (by decide +kernel)) (fun _ h9 => h9) rfl dX3_load_91 ?_
    refine lv_aload_n hx hb dX3_load_94 rfl (lv_at hl 2 rfl) ?_
    refine lv_iload_n hx hb dX3_load_95 rfl (lv_at hl 0 rfl) ?_
    refine k_si (As := [.ref (a 8), .ref ar, .int (nI 38)]) (rest := []) (bytes := cX3_get) S (okX3_get l D cI cZ cQ _ 6 (13 + j) (a 8) ar 7 83 ((unK (unK (unK (unK (unK (up2 (up2 (up2 f 0 0 (r 0)) 1 0 1) 2 0 (r 2)) r 3 3 7) r 4 10 7) r 5 17 7) r 6 24 7) r 7 31 7) 8) r 38 _ rfl (LX_at hj) (by omega) (by decide) (by decide)) gX3_load_X3_get rfl ⟨rfl, rfl⟩ ndX3_get ⟨Nat.le_of_ble_eq_true rfl, Nat.le_of_ble_eq_true rfl⟩ hK hP hD hS hA rfl hl rfl (Nat.le_of_ble_eq_true rfl) dX3_load_96 ⟨Nat.zero_le _, Nat.zero_le _⟩ (fun H locs hP hD hS => ?_)
    rw [LW_un8] at hP hD
    refine lv_istore_n (lv' := [(2, .int (nI 45)), (0, .ref h), (1, .ref ar)]) hx hb dX3_load_99 rfl hl (by decide) rfl (fun ls hl => ?_)
    refine lv_aload_n hx hb dX3_load_100 rfl (lv_at hl 1 rfl) ?_
    refine va_get (v := .ref (a 9)) (C := RX3) (T := TX3) (N := 15) (ci := 3) hx hb hts hinX3 hown hK hP 0 rfl rfl 9 (by decide) (hts (.fieldLink RX3 30 "AxleKeeper$Line" "age" "[I") (by decide +kernel)) (fun _ h9 => h9) rfl dX3_load_101 ?_
    refine lv_aload_n hx hb dX3_load_104 rfl (lv_at hl 2 rfl) ?_
    refine lv_iload_n hx hb dX3_load_105 rfl (lv_at hl 0 rfl) ?_
    refine k_si (As := [.ref (a 9), .ref ar, .int (nI 45)]) (rest := []) (bytes := cX3_get) S (okX3_get l D cI cZ cQ _ 7 (13 + j) (a 9) ar 7 83 ((unK (unK (unK (unK (unK (unK (up2 (up2 (up2 f 0 0 (r 0)) 1 0 1) 2 0 (r 2)) r 3 3 7) r 4 10 7) r 5 17 7) r 6 24 7) r 7 31 7) r 8 38 7) 9) r 45 _ rfl (LX_at hj) (by omega) (by decide) (by decide)) gX3_load_X3_get rfl ⟨rfl, rfl⟩ ndX3_get ⟨Nat.le_of_ble_eq_true rfl, Nat.le_of_ble_eq_true rfl⟩ hK hP hD hS hA rfl hl rfl (Nat.le_of_ble_eq_true rfl) dX3_load_106 ⟨Nat.zero_le _, Nat.zero_le _⟩ (fun H locs hP hD hS => ?_)
    rw [LW_un9] at hP hD
    refine lv_istore_n (lv' := [(2, .int (nI 52)), (0, .ref h), (1, .ref ar)]) hx hb dX3_load_109 rfl hl (by decide) rfl (fun ls hl => ?_)
    refine lv_aload_n hx hb dX3_load_110 rfl (lv_at hl 1 rfl) ?_
    refine va_get (v := .ref (a 10)) (C := RX3) (T := TX3) (N := 15) (ci := 3) hx hb hts hinX3 hown hK hP 0 rfl rfl 10 (by decide) (hts (.fieldLink RX3 33 "AxleKeeper$Line" "sweptOver" "[I") (by decide +kernel)) (fun _ h9 => h9) rfl dX3_load_111 ?_
    refine lv_aload_n hx hb dX3_load_114 rfl (lv_at hl 2 rfl) ?_
    refine lv_iload_n hx hb dX3_load_115 rfl (lv_at hl 0 rfl) ?_
    refine k_si (As := [.ref (a 10), .ref ar, .int (nI 52)]) (rest := []) (bytes := cX3_get) S (okX3_get l D cI cZ cQ _ 8 (13 + j) (a 10) ar 7 83 ((unK (unK (unK (unK (unK (unK (unK (up2 (up2 (up2 f 0 0 (r 0)) 1 0 1) 2 0 (r 2)) r 3 3 7) r 4 10 7) r 5 17 7) r 6 24 7) r 7 31 7) r 8 38 7) r 9 45 7) 10) r 52 _ rfl (LX_at hj) (by omega) (by decide) (by decide)) gX3_load_X3_get rfl ⟨rfl, rfl⟩ ndX3_get ⟨Nat.le_of_ble_eq_true rfl, Nat.le_of_ble_eq_true rfl⟩ hK hP hD hS hA rfl hl rfl (Nat.le_of_ble_eq_true rfl) dX3_load_116 ⟨Nat.zero_le _, Nat.zero_le _⟩ (fun H locs hP hD hS => ?_)
    rw [LW_un10] at hP hD
    refine lv_istore_n (lv' := [(2, .int (nI 59)), (0, .ref h), (1, .ref ar)]) hx hb dX3_load_119 rfl hl (by decide) rfl (fun ls hl => ?_)
    refine lv_aload_n hx hb dX3_load_120 rfl (lv_at hl 1 rfl) ?_
    refine va_get (v := .ref (a 11)) (C := RX3) (T := TX3) (N := 15) (ci := 3) hx hb hts hinX3 hown hK hP 0 rfl rfl 11 (by decide) (hts (.fieldLink RX3 36 "AxleKeeper$Line" "sum" "[I") (by decide +kernel)) (fun _ h9 => h9) rfl dX3_load_121 ?_
    refine lv_aload_n hx hb dX3_load_124 rfl (lv_at hl 2 rfl) ?_
    refine lv_iload_n hx hb dX3_load_125 rfl (lv_at hl 0 rfl) ?_
    refine k_si (As := [.ref (a 11), .ref ar, .int (nI 59)]) (rest := []) (bytes := cX3_get) S (okX3_get l D cI cZ cQ _ 9 (13 + j) (a 11) ar 6 83 ((unK (unK (unK (unK (unK (unK (unK (unK (up2 (up2 (up2 f 0 0 (r 0)) 1 0 1) 2 0 (r 2)) r 3 3 7) r 4 10 7) r 5 17 7) r 6 24 7) r 7 31 7) r 8 38 7) r 9 45 7) r 10 52 7) 11) r 59 _ rfl (LX_at hj) (by omega) (by decide) (by decide)) gX3_load_X3_get rfl ⟨rfl, rfl⟩ ndX3_get ⟨Nat.le_of_ble_eq_true rfl, Nat.le_of_ble_eq_true rfl⟩ hK hP hD hS hA rfl hl rfl (Nat.le_of_ble_eq_true rfl) dX3_load_126 ⟨Nat.zero_le _, Nat.zero_le _⟩ (fun H locs hP hD hS => ?_)
    rw [LW_un11] at hP hD
    refine lv_istore_n (lv' := [(2, .int (nI 65)), (0, .ref h), (1, .ref ar)]) hx hb dX3_load_129 rfl hl (by decide) rfl (fun ls hl => ?_)
    refine lv_aload_n hx hb dX3_load_130 rfl (lv_at hl 1 rfl) ?_
    refine va_get (v := .ref (a 12)) (C := RX3) (T := TX3) (N := 15) (ci := 3) hx hb hts hinX3 hown hK hP 0 rfl rfl 12 (by decide) (hts (.fieldLink RX3 39 "AxleKeeper$Line" "call" "[I") (by decide +kernel)) (fun _ h9 => h9) rfl dX3_load_131 ?_
    refine lv_aload_n hx hb dX3_load_134 rfl (lv_at hl 2 rfl) ?_
    refine lv_iload_n hx hb dX3_load_135 rfl (lv_at hl 0 rfl) ?_
    refine k_si (As := [.ref (a 12), .ref ar, .int (nI 65)]) (rest := []) (bytes := cX3_get) S (okX3_get l D cI cZ cQ _ 10 (13 + j) (a 12) ar 6 83 ((unK (unK (unK (unK (unK (unK (unK (unK (unK (up2 (up2 (up2 f 0 0 (r 0)) 1 0 1) 2 0 (r 2)) r 3 3 7) r 4 10 7) r 5 17 7) r 6 24 7) r 7 31 7) r 8 38 7) r 9 45 7) r 10 52 7) r 11 59 6) 12) r 65 _ rfl (LX_at hj) (by omega) (by decide) (by decide)) gX3_load_X3_get rfl ⟨rfl, rfl⟩ ndX3_get ⟨Nat.le_of_ble_eq_true rfl, Nat.le_of_ble_eq_true rfl⟩ hK hP hD hS hA rfl hl rfl (Nat.le_of_ble_eq_true rfl) dX3_load_136 ⟨Nat.zero_le _, Nat.zero_le _⟩ (fun H locs hP hD hS => ?_)
    rw [LW_un12] at hP hD
    refine lv_istore_n (lv' := [(2, .int (nI 71)), (0, .ref h), (1, .ref ar)]) hx hb dX3_load_139 rfl hl (by decide) rfl (fun ls hl => ?_)
    refine lv_aload_n hx hb dX3_load_140 rfl (lv_at hl 1 rfl) ?_
    refine va_get (v := .ref (a 13)) (C := RX3) (T := TX3) (N := 15) (ci := 3) hx hb hts hinX3 hown hK hP 0 rfl rfl 13 (by decide) (hts (.fieldLink RX3 42 "AxleKeeper$Line" "entered" "[I") (by decide +kernel)) (fun _ h9 => h9) rfl dX3_load_141 ?_
    refine lv_aload_n hx hb dX3_load_144 rfl (lv_at hl 2 rfl) ?_
    refine lv_iload_n hx hb dX3_load_145 rfl (lv_at hl 0 rfl) ?_
    refine k_si (As := [.ref (a 13), .ref ar, .int (nI 71)]) (rest := []) (bytes := cX3_get) S (okX3_get l D cI cZ cQ _ 11 (13 + j) (a 13) ar 6 83 ((unK (unK (unK (unK (unK (unK (unK (unK (unK (unK (up2 (up2 (up2 f 0 0 (r 0)) 1 0 1) 2 0 (r 2)) r 3 3 7) r 4 10 7) r 5 17 7) r 6 24 7) r 7 31 7) r 8 38 7) r 9 45 7) r 10 52 7) r 11 59 6) r 12 65 6) 13) r 71 _ rfl (LX_at hj) (by omega) (by decide) (by decide)) gX3_load_X3_get rfl ⟨rfl, rfl⟩ ndX3_get ⟨Nat.le_of_ble_eq_true rfl, Nat.le_of_ble_eq_true rfl⟩ hK hP hD hS hA rfl hl rfl (Nat.le_of_ble_eq_true rfl) dX3_load_146 ⟨Nat.zero_le _, Nat.zero_le _⟩ (fun H locs hP hD hS => ?_)
    rw [LW_un13] at hP hD
    refine lv_istore_n (lv' := [(2, .int (nI 77)), (0, .ref h), (1, .ref ar)]) hx hb dX3_load_149 rfl hl (by decide) rfl (fun ls hl => ?_)
    refine lv_aload_n hx hb dX3_load_150 rfl (lv_at hl 1 rfl) ?_
    refine va_get (v := .ref (a 14)) (C := RX3) (T := TX3) (N := 15) (ci := 3) hx hb hts hinX3 hown hK hP 0 rfl rfl 14 (by decide) (hts (.fieldLink RX3 45 "AxleKeeper$Line" "axles" "[I") (by decide +kernel)) (fun _ h9 => h9) rfl dX3_load_151 ?_
    refine lv_aload_n hx hb dX3_load_154 rfl (lv_at hl 2 rfl) ?_
    refine lv_iload_n hx hb dX3_load_155 rfl (lv_at hl 0 rfl) ?_
    refine k_si (As := [.ref (a 14), .ref ar, .int (nI 77)]) (rest := []) (bytes := cX3_get) S (okX3_get l D cI cZ cQ _ 12 (13 + j) (a 14) ar 6 83 ((unK (unK (unK (unK (unK (unK (unK (unK (unK (unK (unK (up2 (up2 (up2 f 0 0 (r 0)) 1 0 1) 2 0 (r 2)) r 3 3 7) r 4 10 7) r 5 17 7) r 6 24 7) r 7 31 7) r 8 38 7) r 9 45 7) r 10 52 7) r 11 59 6) r 12 65 6) r 13 71 6) 14) r 77 _ rfl (LX_at hj) (by omega) (by decide) (by decide)) gX3_load_X3_get rfl ⟨rfl, rfl⟩ ndX3_get ⟨Nat.le_of_ble_eq_true rfl, Nat.le_of_ble_eq_true rfl⟩ hK hP hD hS hA rfl hl rfl (Nat.le_of_ble_eq_true rfl) dX3_load_156 ⟨Nat.zero_le _, Nat.zero_le _⟩ (fun H locs hP hD hS => ?_)
    rw [LW_un14] at hP hD
    refine lv_pop hx hb dX3_load_159 rfl ?_
    have hρ : unL f r = (unK (unK (unK (unK (unK (unK (unK (unK (unK (unK (unK (unK (up2 (up2 (up2 f 0 0 (r 0)) 1 0 1) 2 0 (r 2)) r 3 3 7) r 4 10 7) r 5 17 7) r 6 24 7) r 7 31 7) r 8 38 7) r 9 45 7) r 10 52 7) r 11 59 6) r 12 65 6) r 13 71 6) r 14 77 6) := by
      unfold unL
      rw [if_pos c_20]
    exact e_wv hx hb hr hlk hK hP hD hS dX3_load_160 (congrArg (fun q => LW cI h a q ++ X.set j (ar, .inl (cI, 83, .inl r))) hρ).symm
set_option maxHeartbeats 4000000 in
set_option maxRecDepth 100000 in
theorem okX3_begin (l : Launch) (D : va_G) (cI cZ cQ : ClassId) (h : Nat) (a : Nat → Nat) (X : va_W) (f : Nat → Nat → Int32) (x1 x2 : Int32) (sz : Nat) (hz : x2 = 0 ∨ x2 = 1) : Met l yX3_begin wsX3_begin ({ frames := 1, cells := 0, slots := 0, locals := 23 }) (PW [.ref h, .int x1, .int x2] sz D (TY cI cZ cQ) (LW cI h a f ++ X)) (QV D (TY cI cZ cQ) (LW cI h a (kX3_begin f x1 x2) ++ X) (va_A (LW cI h a f ++ X) sz)) 0 0 (va_A (LW cI h a f ++ X) sz) := by
  refine m_wr (cc := cX3_begin) (maxL := 3) (ret := none) (by decide) rfl (Nat.le_of_ble_eq_true rfl) (lv0 := [(0, .ref h), (1, .int x1), (2, .int x2)]) rfl ?_
  intro p e s m below meth c ls A hAe S hr hlk hP hK hD hS hA hl
  rw [← hAe]
  have S : CallFix p m c cX3_begin 3 s ([.ref h, .int x1, .int x2] : List Value).toArray wsX3_begin RX3 := S
  have hx := S.1
  have hb := S.2.1
  have hown : s.vm.findClass RX3 = some m.cls := S.2.2.2.1
  have hts := S.2.2.2.2
  have hinX3 : ∀ w ∈ wsX30, w ∈ wsX3_begin := by decide +kernel
  refine lv_aload_n hx hb dX3_begin_0 rfl (lv_at hl 0 rfl) ?_
  refine lv_iload_n hx hb dX3_begin_1 rfl (lv_at hl 1 rfl) ?_
  refine pf_L0 (x := x1) S hinX3 hK hP hD hS (hts (.fieldLink RX3 48 "AxleKeeper$Line" "sections" "I") (by decide +kernel)) dX3_begin_2 (fun H locs hP hD hS => ?_)
  refine lv_aload_n hx hb dX3_begin_5 rfl (lv_at hl 0 rfl) ?_
  refine lv_iload_n hx hb dX3_begin_6 rfl (lv_at hl 2 rfl) ?_
  refine pf_L1 (x := x2) S hinX3 hK hP hD hS (hts (.fieldLink RX3 52 "AxleKeeper$Line" "ring" "Z") (by decide +kernel)) (by rcases hz with rfl | rfl <;> rfl) (by rcases hz with rfl | rfl <;> rfl) dX3_begin_7 (fun H locs hP hD hS => ?_)
  refine lv_aload_n hx hb dX3_begin_10 rfl (lv_at hl 0 rfl) ?_
  refine lv_iconst (v := 0) hx hb dX3_begin_11 (by decide) ?_
  refine pf_L2 (x := 0) S hinX3 hK hP hD hS (hts (.fieldLink RX3 56 "AxleKeeper$Line" "ticks" "I") (by decide +kernel)) dX3_begin_12 (fun H locs hP hD hS => ?_)
  refine lv_aload_n hx hb dX3_begin_15 rfl (lv_at hl 0 rfl) ?_
  refine va_get (v := .ref (a 3)) (C := RX3) (T := TX3) (N := 15) (ci := 3) hx hb hts hinX3 hown hK hP 0 rfl rfl 3 (by decide) (hts (.fieldLink RX3 11 "AxleKeeper$Line" "state" "[I") (by decide +kernel)) (fun _ h9 => h9) rfl dX3_begin_16 ?_
  refine lv_iconst (v := 0) hx hb dX3_begin_19 (by decide) ?_
  refine k_sv (As := [.ref (a 3), .int 0]) (rest := []) (bytes := cJ7_fill_53178) S (okJ7_fill l D cI cZ cQ _ 1 (a 3) 7 ((up2 (up2 (up2 f 0 0 x1) 1 0 x2) 2 0 0) 3) 0 _ rfl (by decide)) gX3_begin_J7_fill_53178 rfl ⟨rfl, rfl⟩ ndJ7_fill ⟨Nat.le_of_ble_eq_true rfl, Nat.le_of_ble_eq_true rfl⟩ hK hP hD hS hA rfl hl rfl (Nat.le_of_ble_eq_true rfl) dX3_begin_20 ⟨Nat.zero_le _, Nat.zero_le _⟩ (fun H locs hP hD hS => ?_)
  rw [LW_fz3] at hP hD
  refine lv_aload_n hx hb dX3_begin_23 rfl (lv_at hl 0 rfl) ?_
  refine va_get (v := .ref (a 4)) (C := RX3) (T := TX3) (N := 15) (ci := 3) hx hb hts hinX3 hown hK hP 0 rfl rfl 4 (by decide) (hts (.fieldLink RX3 15 "AxleKeeper$Line" "wheel" "[I") (by decide +kernel)) (fun _ h9 => h9) rfl dX3_begin_24 ?_
  refine lv_iconst (v := 0) hx hb dX3_begin_27 (by decide) ?_
  refine k_sv (As := [.ref (a 4), .int 0]) (rest := []) (bytes := cJ7_fill_53178) S (okJ7_fill l D cI cZ cQ _ 2 (a 4) 7 ((fz (up2 (up2 (up2 f 0 0 x1) 1 0 x2) 2 0 0) 3 7) 4) 0 _ rfl (by decide)) gX3_begin_J7_fill_53178 rfl ⟨rfl, rfl⟩ ndJ7_fill ⟨Nat.le_of_ble_eq_true rfl, Nat.le_of_ble_eq_true rfl⟩ hK hP hD hS hA rfl hl rfl (Nat.le_of_ble_eq_true rfl) dX3_begin_28 ⟨Nat.zero_le _, Nat.zero_le _⟩ (fun H locs hP hD hS => ?_)
  rw [LW_fz4] at hP hD
  refine lv_aload_n hx hb dX3_begin_31 rfl (lv_at hl 0 rfl) ?_
  refine va_get (v := .ref (a 5)) (C := RX3) (T := TX3) (N := 15) (ci := 3) hx hb hts hinX3 hown hK hP 0 rfl rfl 5 (by decide) (hts (.fieldLink RX3 18 "AxleKeeper$Line" "count" "[I") (by decide +kernel)) (fun _ h9 => h9) rfl dX3_begin_32 ?_
  refine lv_iconst (v := 0) hx hb dX3_begin_35 (by decide) ?_
  refine k_sv (As := [.ref (a 5), .int 0]) (rest := []) (bytes := cJ7_fill_53178) S (okJ7_fill l D cI cZ cQ _ 3 (a 5) 7 ((fz (fz (up2 (up2 (up2 f 0 0 x1) 1 0 x2) 2 0 0) 3 7) 4 7) 5) 0 _ rfl (by decide)) gX3_begin_J7_fill_53178 rfl ⟨rfl, rfl⟩ ndJ7_fill ⟨Nat.le_of_ble_eq_true rfl, Nat.le_of_ble_eq_true rfl⟩ hK hP hD hS hA rfl hl rfl (Nat.le_of_ble_eq_true rfl) dX3_begin_36 ⟨Nat.zero_le _, Nat.zero_le _⟩ (fun H locs hP hD hS => ?_)
  rw [LW_fz5] at hP hD
  refine lv_aload_n hx hb dX3_begin_39 rfl (lv_at hl 0 rfl) ?_
  refine va_get (v := .ref (a 6)) (C := RX3) (T := TX3) (N := 15) (ci := 3) hx hb hts hinX3 hown hK hP 0 rfl rfl 6 (by decide) (hts (.fieldLink RX3 21 "AxleKeeper$Line" "faulty" "[I") (by decide +kernel)) (fun _ h9 => h9) rfl dX3_begin_40 ?_
  refine lv_iconst (v := 0) hx hb dX3_begin_43 (by decide) ?_
  refine k_sv (As := [.ref (a 6), .int 0]) (rest := []) (bytes := cJ7_fill_53178) S (okJ7_fill l D cI cZ cQ _ 4 (a 6) 7 ((fz (fz (fz (up2 (up2 (up2 f 0 0 x1) 1 0 x2) 2 0 0) 3 7) 4 7) 5 7) 6) 0 _ rfl (by decide)) gX3_begin_J7_fill_53178 rfl ⟨rfl, rfl⟩ ndJ7_fill ⟨Nat.le_of_ble_eq_true rfl, Nat.le_of_ble_eq_true rfl⟩ hK hP hD hS hA rfl hl rfl (Nat.le_of_ble_eq_true rfl) dX3_begin_44 ⟨Nat.zero_le _, Nat.zero_le _⟩ (fun H locs hP hD hS => ?_)
  rw [LW_fz6] at hP hD
  refine lv_aload_n hx hb dX3_begin_47 rfl (lv_at hl 0 rfl) ?_
  refine va_get (v := .ref (a 7)) (C := RX3) (T := TX3) (N := 15) (ci := 3) hx hb hts hinX3 hown hK hP 0 rfl rfl 7 (by decide) (hts (.fieldLink RX3 24 "AxleKeeper$Line" "heard" "[I") (by decide +kernel)) (fun _ h9 => h9) rfl dX3_begin_48 ?_
  refine lv_iconst (v := 0) hx hb dX3_begin_51 (by decide) ?_
  refine k_sv (As := [.ref (a 7), .int 0]) (rest := []) (bytes := cJ7_fill_53178) S (okJ7_fill l D cI cZ cQ _ 5 (a 7) 7 ((fz (fz (fz (fz (up2 (up2 (up2 f 0 0 x1) 1 0 x2) 2 0 0) 3 7) 4 7) 5 7) 6 7) 7) 0 _ rfl (by decide)) gX3_begin_J7_fill_53178 rfl ⟨rfl, rfl⟩ ndJ7_fill ⟨Nat.le_of_ble_eq_true rfl, Nat.le_of_ble_eq_true rfl⟩ hK hP hD hS hA rfl hl rfl (Nat.le_of_ble_eq_true rfl) dX3_begin_52 ⟨Nat.zero_le _, Nat.zero_le _⟩ (fun H locs hP hD hS => ?_)
  rw [LW_fz7] at hP hD
  refine lv_aload_n hx hb dX3_begin_55 rfl (lv_at hl 0 rfl) ?_
  refine va_get (v := .ref (a 8)) (C := RX3) (T := TX3) (N := 15) (ci := 3) hx hb hts hinX3 hown hK hP 0 rfl rfl 8 (by decide) (hts (.fieldLink RX3 27 "AxleKeeper$Line" "heardFaulty" "[I") (by decide +kernel)) (fun _ h9 => h9) rfl dX3_begin_56 ?_
  refine lv_iconst (v := 0) hx hb dX3_begin_59 (by decide) ?_
  refine k_sv (As := [.ref (a 8), .int 0]) (rest := []) (bytes := cJ7_fill_53178) S (okJ7_fill l D cI cZ cQ _ 6 (a 8) 7 ((fz (fz (fz (fz (fz (up2 (up2 (up2 f 0 0 x1) 1 0 x2) 2 0 0) 3 7) 4 7) 5 7) 6 7) 7 7) 8) 0 _ rfl (by decide)) gX3_begin_J7_fill_53178 rfl ⟨rfl, rfl⟩ ndJ7_fill ⟨Nat.le_of_ble_eq_true rfl, Nat.le_of_ble_eq_true rfl⟩ hK hP hD hS hA rfl hl rfl (Nat.le_of_ble_eq_true rfl) dX3_begin_60 ⟨Nat.zero_le _, Nat.zero_le _⟩ (fun H locs hP hD hS => ?_)
  rw [LW_fz8] at hP hD
  refine lv_aload_n hx hb dX3_begin_63 rfl (lv_at hl 0 rfl) ?_
  refine va_get (v := .ref (a 9)) (C := RX3) (T := TX3) (N := 15) (ci := 3) hx hb hts hinX3 hown hK hP 0 rfl rfl 9 (by decide) (hts (.fieldLink RX3 30 "AxleKeeper$Line" "age" "[I") (by decide +kernel)) (fun _ h9 => h9) rfl dX3_begin_64 ?_
  refine lv_iconst (v := 0) hx hb dX3_begin_67 (by decide) ?_
  refine k_sv (As := [.ref (a 9), .int 0]) (rest := []) (bytes := cJ7_fill_53178) S (okJ7_fill l D cI cZ cQ _ 7 (a 9) 7 ((fz (fz (fz (fz (fz (fz (up2 (up2 (up2 f 0 0 x1) 1 0 x2) 2 0 0) 3 7) 4 7) 5 7) 6 7) 7 7) 8 7) 9) 0 _ rfl (by decide)) gX3_begin_J7_fill_53178 rfl ⟨rfl, rfl⟩ ndJ7_fill ⟨Nat.le_of_ble_eq_true rfl, Nat.le_of_ble_eq_true rfl⟩ hK hP hD hS hA rfl hl rfl (Nat.le_of_ble_eq_true rfl) dX3_begin_68 ⟨Nat.zero_le _, Nat.zero_le _⟩ (fun H locs hP hD hS => ?_)
  rw [LW_fz9] at hP hD
  refine lv_aload_n hx hb dX3_begin_71 rfl (lv_at hl 0 rfl) ?_
  refine va_get (v := .ref (a 10)) (C := RX3) (T := TX3) (N := 15) (ci := 3) hx hb hts hinX3 hown hK hP 0 rfl rfl 10 (by decide) (hts (.fieldLink RX3 33 "AxleKeeper$Line" "sweptOver" "[I") (by decide +kernel)) (fun _ h9 => h9) rfl dX3_begin_72 ?_
  refine lv_iconst (v := 0) hx hb dX3_begin_75 (by decide) ?_
  refine k_sv (As := [.ref (a 10), .int 0]) (rest := []) (bytes := cJ7_fill_53178) S (okJ7_fill l D cI cZ cQ _ 8 (a 10) 7 ((fz (fz (fz (fz (fz (fz (fz (up2 (up2 (up2 f 0 0 x1) 1 0 x2) 2 0 0) 3 7) 4 7) 5 7) 6 7) 7 7) 8 7) 9 7) 10) 0 _ rfl (by decide)) gX3_begin_J7_fill_53178 rfl ⟨rfl, rfl⟩ ndJ7_fill ⟨Nat.le_of_ble_eq_true rfl, Nat.le_of_ble_eq_true rfl⟩ hK hP hD hS hA rfl hl rfl (Nat.le_of_ble_eq_true rfl) dX3_begin_76 ⟨Nat.zero_le _, Nat.zero_le _⟩ (fun H locs hP hD hS => ?_)
  rw [LW_fz10] at hP hD
  refine lv_aload_n hx hb dX3_begin_79 rfl (lv_at hl 0 rfl) ?_
  refine va_get (v := .ref (a 11)) (C := RX3) (T := TX3) (N := 15) (ci := 3) hx hb hts hinX3 hown hK hP 0 rfl rfl 11 (by decide) (hts (.fieldLink RX3 36 "AxleKeeper$Line" "sum" "[I") (by decide +kernel)) (fun _ h9 => h9) rfl dX3_begin_80 ?_
  refine lv_iconst (v := 0) hx hb dX3_begin_83 (by decide) ?_
  refine k_sv (As := [.ref (a 11), .int 0]) (rest := []) (bytes := cJ7_fill_53178) S (okJ7_fill l D cI cZ cQ _ 9 (a 11) 6 ((fz (fz (fz (fz (fz (fz (fz (fz (up2 (up2 (up2 f 0 0 x1) 1 0 x2) 2 0 0) 3 7) 4 7) 5 7) 6 7) 7 7) 8 7) 9 7) 10 7) 11) 0 _ rfl (by decide)) gX3_begin_J7_fill_53178 rfl ⟨rfl, rfl⟩ ndJ7_fill ⟨Nat.le_of_ble_eq_true rfl, Nat.le_of_ble_eq_true rfl⟩ hK hP hD hS hA rfl hl rfl (Nat.le_of_ble_eq_true rfl) dX3_begin_84 ⟨Nat.zero_le _, Nat.zero_le _⟩ (fun H locs hP hD hS => ?_)
  rw [LW_fz11] at hP hD
  refine lv_aload_n hx hb dX3_begin_87 rfl (lv_at hl 0 rfl) ?_
  refine va_get (v := .ref (a 12)) (C := RX3) (T := TX3) (N := 15) (ci := 3) hx hb hts hinX3 hown hK hP 0 rfl rfl 12 (by decide) (hts (.fieldLink RX3 39 "AxleKeeper$Line" "call" "[I") (by decide +kernel)) (fun _ h9 => h9) rfl dX3_begin_88 ?_
  refine lv_iconst (v := 0) hx hb dX3_begin_91 (by decide) ?_
  refine k_sv (As := [.ref (a 12), .int 0]) (rest := []) (bytes := cJ7_fill_53178) S (okJ7_fill l D cI cZ cQ _ 10 (a 12) 6 ((fz (fz (fz (fz (fz (fz (fz (fz (fz (up2 (up2 (up2 f 0 0 x1) 1 0 x2) 2 0 0) 3 7) 4 7) 5 7) 6 7) 7 7) 8 7) 9 7) 10 7) 11 6) 12) 0 _ rfl (by decide)) gX3_begin_J7_fill_53178 rfl ⟨rfl, rfl⟩ ndJ7_fill ⟨Nat.le_of_ble_eq_true rfl, Nat.le_of_ble_eq_true rfl⟩ hK hP hD hS hA rfl hl rfl (Nat.le_of_ble_eq_true rfl) dX3_begin_92 ⟨Nat.zero_le _, Nat.zero_le _⟩ (fun H locs hP hD hS => ?_)
  rw [LW_fz12] at hP hD
  refine lv_aload_n hx hb dX3_begin_95 rfl (lv_at hl 0 rfl) ?_
  refine va_get (v := .ref (a 13)) (C := RX3) (T := TX3) (N := 15) (ci := 3) hx hb hts hinX3 hown hK hP 0 rfl rfl 13 (by decide) (hts (.fieldLink RX3 42 "AxleKeeper$Line" "entered" "[I") (by decide +kernel)) (fun _ h9 => h9) rfl dX3_begin_96 ?_
  refine lv_iconst (v := 0) hx hb dX3_begin_99 (by decide) ?_
  refine k_sv (As := [.ref (a 13), .int 0]) (rest := []) (bytes := cJ7_fill_53178) S (okJ7_fill l D cI cZ cQ _ 11 (a 13) 6 ((fz (fz (fz (fz (fz (fz (fz (fz (fz (fz (up2 (up2 (up2 f 0 0 x1) 1 0 x2) 2 0 0) 3 7) 4 7) 5 7) 6 7) 7 7) 8 7) 9 7) 10 7) 11 6) 12 6) 13) 0 _ rfl (by decide)) gX3_begin_J7_fill_53178 rfl ⟨rfl, rfl⟩ ndJ7_fill ⟨Nat.le_of_ble_eq_true rfl, Nat.le_of_ble_eq_true rfl⟩ hK hP hD hS hA rfl hl rfl (Nat.le_of_ble_eq_true rfl) dX3_begin_100 ⟨Nat.zero_le _, Nat.zero_le _⟩ (fun H locs hP hD hS => ?_)
  rw [LW_fz13] at hP hD
  refine lv_aload_n hx hb dX3_begin_103 rfl (lv_at hl 0 rfl) ?_
  refine va_get (v := .ref (a 14)) (C := RX3) (T := TX3) (N := 15) (ci := 3) hx hb hts hinX3 hown hK hP 0 rfl rfl 14 (by decide) (hts (.fieldLink RX3 45 "AxleKeeper$Line" "axles" "[I") (by decide +kernel)) (fun _ h9 => h9) rfl dX3_begin_104 ?_
  refine lv_iconst (v := 0) hx hb dX3_begin_107 (by decide) ?_
  refine k_sv (As := [.ref (a 14), .int 0]) (rest := []) (bytes := cJ7_fill_53178) S (okJ7_fill l D cI cZ cQ _ 12 (a 14) 6 ((fz (fz (fz (fz (fz (fz (fz (fz (fz (fz (fz (up2 (up2 (up2 f 0 0 x1) 1 0 x2) 2 0 0) 3 7) 4 7) 5 7) 6 7) 7 7) 8 7) 9 7) 10 7) 11 6) 12 6) 13 6) 14) 0 _ rfl (by decide)) gX3_begin_J7_fill_53178 rfl ⟨rfl, rfl⟩ ndJ7_fill ⟨Nat.le_of_ble_eq_true rfl, Nat.le_of_ble_eq_true rfl⟩ hK hP hD hS hA rfl hl rfl (Nat.le_of_ble_eq_true rfl) dX3_begin_108 ⟨Nat.zero_le _, Nat.zero_le _⟩ (fun H locs hP hD hS => ?_)
  rw [LW_fz14] at hP hD
  exact e_wv hx hb hr hlk hK hP hD hS dX3_begin_111 rfl
/-- the same, of a row among the keeper's cells -/
theorem okX3_saveK (l : Launch) (D : va_G) (cI cZ cQ : ClassId) (h : Nat) (a b : Nat → Nat) (X : va_W) (f g : Nat → Nat → Int32) (k sz : Nat) (hk : isRow k) : Met l yX3_save wsX3_save ({ frames := 2, cells := 0, slots := 0, locals := 40 }) (PW [.ref h, .ref (b k)] sz D (TY cI cZ cQ) (LW cI h a f ++ (KR cI cZ cQ h b g ++ X))) (QV D (TY cI cZ cQ) (LW cI h a f ++ (KR cI cZ cQ h b (rp g k (pkL f (g k))) ++ X)) (va_A (LW cI h a f ++ (KR cI cZ cQ h b g ++ X)) sz)) 0 0 (va_A (LW cI h a f ++ (KR cI cZ cQ h b g ++ X)) sz) := by
  have q := okX3_save l D cI cZ cQ h a (KR cI cZ cQ h b g ++ X) k (b k) f (g k) sz (KR_len hk)
  rw [KR_self hk, KR_set hk] at q
  exact q
theorem okX3_loadK (l : Launch) (D : va_G) (cI cZ cQ : ClassId) (h : Nat) (a b : Nat → Nat) (X : va_W) (f g : Nat → Nat → Int32) (k sz : Nat) (hk : isRow k) : Met l yX3_load wsX3_load ({ frames := 2, cells := 0, slots := 0, locals := 40 }) (PW [.ref h, .ref (b k)] sz D (TY cI cZ cQ) (LW cI h a f ++ (KR cI cZ cQ h b g ++ X))) (QV D (TY cI cZ cQ) (LW cI h a (unL f (g k)) ++ (KR cI cZ cQ h b g ++ X)) (va_A (LW cI h a f ++ (KR cI cZ cQ h b g ++ X)) sz)) 0 0 (va_A (LW cI h a f ++ (KR cI cZ cQ h b g ++ X)) sz) := by
  have q := okX3_load l D cI cZ cQ h a (KR cI cZ cQ h b g ++ X) k (b k) f (g k) sz (KR_len hk)
  rw [KR_self hk] at q
  exact q
theorem ndX3_save : yX3_save.cls = RX3 ∧ yX3_save.cls ≠ "java/lang/invoke/MethodHandle" ∧ yX3_save.cls ≠ "java/lang/invoke/VarHandle" ∧ (parseMethodDescriptor yX3_save.desc).map (fun d => d.parameters.length) = some 1 := by decide +kernel
theorem ndX3_load : yX3_load.cls = RX3 ∧ yX3_load.cls ≠ "java/lang/invoke/MethodHandle" ∧ yX3_load.cls ≠ "java/lang/invoke/VarHandle" ∧ (parseMethodDescriptor yX3_load.desc).map (fun d => d.parameters.length) = some 1 := by decide +kernel
theorem ndX3_begin : yX3_begin.cls = RX3 ∧ yX3_begin.cls ≠ "java/lang/invoke/MethodHandle" ∧ yX3_begin.cls ≠ "java/lang/invoke/VarHandle" ∧ (parseMethodDescriptor yX3_begin.desc).map (fun d => d.parameters.length) = some 2 := by decide +kernel
