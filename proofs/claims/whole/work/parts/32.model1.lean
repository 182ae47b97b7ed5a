theorem ndX6_in : yX6_in.cls ≠ "java/lang/invoke/MethodHandle" ∧ yX6_in.cls ≠ "java/lang/invoke/VarHandle" ∧ (parseMethodDescriptor yX6_in.desc).map (fun d => d.parameters.length) = some 3 := by decide +kernel
set_option maxHeartbeats 4000000 in
set_option maxRecDepth 100000 in
theorem okX6_in (l : Launch) (D : va_G) (cI cZ cQ : ClassId) (h : Nat) (a : Nat → Nat) (X : va_W) (f : Nat → Nat → Int32) (x1 x2 x3 : Int32) : Met l yX6_in wsX6_in ({ frames := 0, cells := 0, slots := 0, locals := 0 }) (PR [.int x1, .int x2, .int x3] D (TY cI cZ cQ) (MW cI h a f ++ X)) (QR (kX6_in f x1 x2 x3)) 0 0 (fun _ => False) := by
  refine m_rd (cc := cX6_in) (maxL := 3) (ret := (some .boolean)) (by decide) rfl (Nat.le_of_ble_eq_true rfl) (lv0 := [(0, .int x1), (1, .int x2), (2, .int x3)]) rfl ?_
  intro p e s m below meth c ls S hr hlk hP hK hl
  have S : CallFix p m c cX6_in 3 s ([.int x1, .int x2, .int x3] : List Value).toArray wsX6_in RX6 := S
  have hx := S.1
  have hb := S.2.1
  have hown : s.vm.findClass RX6 = some m.cls := S.2.2.2.1
  have hts := S.2.2.2.2
  refine lv_iload_n hx hb dX6_in_0 rfl (lv_at hl 0 rfl) ?_
  refine lv_iload_n hx hb dX6_in_1 rfl (lv_at hl 1 rfl) ?_
  refine lv_icmp_lt (tgt := 14) hx hb dX6_in_2 (by decide) (fun c_2 => ?_) (fun c_2 => ?_)
  · have c_2 : x1 < x2 := c_2
    refine lv_iconst (v := 0) hx hb dX6_in_14 (by decide) ?_
    have hρ : kX6_in f x1 x2 x3 = 0 := (if_pos c_2)
    exact e_rz hx hb hr hlk dX6_in_15 rfl hρ.symm
  have c_2 : ¬ (x1 < x2) := c_2
  refine lv_iload_n hx hb dX6_in_5 rfl (lv_at hl 0 rfl) ?_
  refine lv_iload_n hx hb dX6_in_6 rfl (lv_at hl 2 rfl) ?_
  refine lv_icmp_gt (tgt := 14) hx hb dX6_in_7 (by decide) (fun c_7 => ?_) (fun c_7 => ?_)
  · have c_7 : x3 < x1 := c_7
    refine lv_iconst (v := 0) hx hb dX6_in_14 (by decide) ?_
    have hρ : kX6_in f x1 x2 x3 = 0 := (if_neg c_2).trans ((if_pos c_7))
    exact e_rz hx hb hr hlk dX6_in_15 rfl hρ.symm
  have c_7 : ¬ (x3 < x1) := c_7
  refine lv_iconst (v := 1) hx hb dX6_in_10 (by decide) ?_
  refine lv_goto (tgt := 15) hx hb dX6_in_11 (by decide) ?_
  have hρ : kX6_in f x1 x2 x3 = 1 := (if_neg c_2).trans ((if_neg c_7))
  exact e_rz hx hb hr hlk dX6_in_15 rfl hρ.symm
theorem ndX6_has : yX6_has.cls ≠ "java/lang/invoke/MethodHandle" ∧ yX6_has.cls ≠ "java/lang/invoke/VarHandle" ∧ (parseMethodDescriptor yX6_has.desc).map (fun d => d.parameters.length) = some 2 := by decide +kernel
set_option maxHeartbeats 4000000 in
set_option maxRecDepth 100000 in
theorem okX6_has (l : Launch) (D : va_G) (cI cZ cQ : ClassId) (h : Nat) (a : Nat → Nat) (X : va_W) (f : Nat → Nat → Int32) (x1 x2 : Int32) : Met l yX6_has wsX6_has ({ frames := 0, cells := 0, slots := 0, locals := 0 }) (PR [.int x1, .int x2] D (TY cI cZ cQ) (MW cI h a f ++ X)) (QR (kX6_has f x1 x2)) 0 0 (fun _ => False) := by
  refine m_rd (cc := cX6_has) (maxL := 2) (ret := (some .boolean)) (by decide) rfl (Nat.le_of_ble_eq_true rfl) (lv0 := [(0, .int x1), (1, .int x2)]) rfl ?_
  intro p e s m below meth c ls S hr hlk hP hK hl
  have S : CallFix p m c cX6_has 2 s ([.int x1, .int x2] : List Value).toArray wsX6_has RX6 := S
  have hx := S.1
  have hb := S.2.1
  have hown : s.vm.findClass RX6 = some m.cls := S.2.2.2.1
  have hts := S.2.2.2.2
  refine lv_iload_n hx hb dX6_has_0 rfl (lv_at hl 0 rfl) ?_
  refine lv_iload_n hx hb dX6_has_1 rfl (lv_at hl 1 rfl) ?_
  refine lv_ishr hx hb dX6_has_2 ?_
  refine lv_iconst (v := 1) hx hb dX6_has_3 (by decide) ?_
  refine lv_iand hx hb dX6_has_4 ?_
  refine lv_iconst (v := 1) hx hb dX6_has_5 (by decide) ?_
  refine lv_icmp_ne (tgt := 13) hx hb dX6_has_6 (by decide) (fun c_6 => ?_) (fun c_6 => ?_)
  · have c_6 : ¬ (((x1 >>> (x2 &&& 31)) &&& 1) = 1) := c_6
    refine lv_iconst (v := 0) hx hb dX6_has_13 (by decide) ?_
    have hρ : kX6_has f x1 x2 = 0 := (if_neg c_6)
    exact e_rz hx hb hr hlk dX6_has_14 rfl hρ.symm
  have c_6 : ((x1 >>> (x2 &&& 31)) &&& 1) = 1 := c_6
  refine lv_iconst (v := 1) hx hb dX6_has_9 (by decide) ?_
  refine lv_goto (tgt := 14) hx hb dX6_has_10 (by decide) ?_
  have hρ : kX6_has f x1 x2 = 1 := (if_pos c_6)
  exact e_rz hx hb hr hlk dX6_has_14 rfl hρ.symm
theorem ndX6_placeOf : yX6_placeOf.cls ≠ "java/lang/invoke/MethodHandle" ∧ yX6_placeOf.cls ≠ "java/lang/invoke/VarHandle" ∧ (parseMethodDescriptor yX6_placeOf.desc).map (fun d => d.parameters.length) = some 1 := by decide +kernel
set_option maxHeartbeats 4000000 in
set_option maxRecDepth 100000 in
theorem okX6_placeOf (l : Launch) (D : va_G) (cI cZ cQ : ClassId) (h : Nat) (a : Nat → Nat) (X : va_W) (f : Nat → Nat → Int32) (x1 : Int32) : Met l yX6_placeOf wsX6_placeOf ({ frames := 0, cells := 0, slots := 0, locals := 0 }) (PR [.int x1] D (TY cI cZ cQ) (MW cI h a f ++ X)) (QR (kX6_placeOf f x1)) 0 0 (fun _ => False) := by
  refine m_rd (cc := cX6_placeOf) (maxL := 1) (ret := (some .int)) (by decide) rfl (Nat.le_of_ble_eq_true rfl) (lv0 := [(0, .int x1)]) rfl ?_
  intro p e s m below meth c ls S hr hlk hP hK hl
  have S : CallFix p m c cX6_placeOf 1 s ([.int x1] : List Value).toArray wsX6_placeOf RX6 := S
  have hx := S.1
  have hb := S.2.1
  have hown : s.vm.findClass RX6 = some m.cls := S.2.2.2.1
  have hts := S.2.2.2.2
  refine lv_iload_n hx hb dX6_placeOf_0 rfl (lv_at hl 0 rfl) ?_
  refine lv_if_ne (tgt := 8) hx hb dX6_placeOf_1 (by decide) (fun c_1 => ?_) (fun c_1 => ?_)
  · have c_1 : ¬ (x1 = 0) := c_1
    refine lv_iload_n hx hb dX6_placeOf_8 rfl (lv_at hl 0 rfl) ?_
    refine lv_iconst (v := 2) hx hb dX6_placeOf_9 (by decide) ?_
    refine lv_icmp_ne (tgt := 17) hx hb dX6_placeOf_10 (by decide) (fun c_10 => ?_) (fun c_10 => ?_)
    · have c_10 : ¬ (x1 = 2) := c_10
      refine lv_iload_n hx hb dX6_placeOf_17 rfl (lv_at hl 0 rfl) ?_
      refine lv_iconst (v := 3) hx hb dX6_placeOf_18 (by decide) ?_
      refine lv_icmp_ne (tgt := 26) hx hb dX6_placeOf_19 (by decide) (fun c_19 => ?_) (fun c_19 => ?_)
      · have c_19 : ¬ (x1 = 3) := c_19
        refine lv_iconst (v := 3) hx hb dX6_placeOf_26 (by decide) ?_
        have hρ : kX6_placeOf f x1 = 3 := (if_neg c_1).trans ((if_neg c_10).trans ((if_neg c_19)))
        exact e_rd hx hb hr hlk dX6_placeOf_27 hρ.symm
      have c_19 : x1 = 3 := c_19
      refine lv_iconst (v := 2) hx hb dX6_placeOf_22 (by decide) ?_
      refine lv_goto (tgt := 27) hx hb dX6_placeOf_23 (by decide) ?_
      have hρ : kX6_placeOf f x1 = 2 := (if_neg c_1).trans ((if_neg c_10).trans ((if_pos c_19)))
      exact e_rd hx hb hr hlk dX6_placeOf_27 hρ.symm
    have c_10 : x1 = 2 := c_10
    refine lv_iconst (v := 1) hx hb dX6_placeOf_13 (by decide) ?_
    refine lv_goto (tgt := 27) hx hb dX6_placeOf_14 (by decide) ?_
    have hρ : kX6_placeOf f x1 = 1 := (if_neg c_1).trans ((if_pos c_10))
    exact e_rd hx hb hr hlk dX6_placeOf_27 hρ.symm
  have c_1 : x1 = 0 := c_1
  refine lv_iconst (v := 0) hx hb dX6_placeOf_4 (by decide) ?_
  refine lv_goto (tgt := 27) hx hb dX6_placeOf_5 (by decide) ?_
  have hρ : kX6_placeOf f x1 = 0 := (if_pos c_1)
  exact e_rd hx hb hr hlk dX6_placeOf_27 hρ.symm
theorem ndX6_copyRow : yX6_copyRow.cls = RX6 ∧ yX6_copyRow.cls ≠ "java/lang/invoke/MethodHandle" ∧ yX6_copyRow.cls ≠ "java/lang/invoke/VarHandle" ∧ (parseMethodDescriptor yX6_copyRow.desc).map (fun d => d.parameters.length) = some 2 := by decide +kernel
set_option maxHeartbeats 4000000 in
set_option maxRecDepth 100000 in
theorem lpX6_copyRow_2 {p : Program} {e : Env} {s : State} {m : MethodId} {below : List Frame} {meth : Method} {c : Code} (l : Launch) (D : va_G) (cI cZ cQ : ClassId) (h : Nat) (a : Nat → Nat) (X : va_W) (x1 x2 : Int32) (A : Nat → Prop) (hA : ∀ q, s.heap.size ≤ q → A q) (S : CallFix p m c cX6_copyRow 4 s ([.ref h, .int x1, .int x2] : List Value).toArray wsX6_copyRow RX6) (hr : meth.sig.returnType = none) (hlk : meth.locks = false) (hK : va_K D vwCl (TY cI cZ cQ) s) (h1 : vp_in x1 1597) (h2 : vp_in x2 1597) : ∀ (n i : Nat) (f : Nat → Nat → Int32) (H : Heap) (locs : List Loc), i ≤ 84 → 84 - i < n → va_P D vwCl (MW cI h a f ++ X) H → va_D A (MW cI h a f ++ X) → va_S A s.heap H locs → ∀ {ls : Array Slot}, lv_has ls 4 [(0, .ref h), (1, .int x1), (2, .int x2), (3, .int (nI i))] → ∀ ρ : (Nat → Nat → Int32), ρ = kX6_copyRow_2 x1 x2 n i f → W p l e { frames := 0, cells := 0, slots := 0, locals := 0 } s m ([.ref h, .int x1, .int x2] : List Value).toArray below meth c H locs 0 0 (MQ below (QV D (TY cI cZ cQ) (MW cI h a ρ ++ X) A) ([.ref h, .int x1, .int x2] : List Value).toArray s 0 0 A) (F0 m 2 ls []) := by
  have hx := S.1
  have hb := S.2.1
  have hown : s.vm.findClass RX6 = some m.cls := S.2.2.2.1
  have hts := S.2.2.2.2
  have hinX6 : ∀ w ∈ wsX60, w ∈ wsX6_copyRow := by decide +kernel
  intro n
  induction n with
  | zero =>
    intro i _ _ _ hi hn
    exact absurd hn (Nat.not_lt_zero _)
  | succ n ih =>
    intro i  f H locs hi hn  hP hD hS ls hl ρ hρ0
    refine lv_iload_n hx hb dX6_copyRow_2 rfl (lv_at hl 3 rfl) ?_
    refine lv_bipush (v := 84) hx hb dX6_copyRow_3 (by decide) ?_
    refine lv_icmp_ge (tgt := 30) hx hb dX6_copyRow_5 (by decide) (fun c_5 => ?_) (fun c_5 => ?_)
    · have c_5 : 84 ≤ (nI i) := c_5
      have hρ : kX6_copyRow_2 x1 x2 (n + 1) i f = f := (if_pos c_5)
      have hρ := hρ0.trans hρ
      exact e_wv hx hb hr hlk hK hP hD hS dX6_copyRow_30 (congrArg (fun z => (MW cI h a z ++ X)) hρ).symm
    have c_5 : ¬ (84 ≤ (nI i)) := c_5
    have hlt : i < 84 := il_lt (Int32.le_refl _) (by decide) hi c_5
    have hvi : vp_in (nI i) 84 := vp_in_nI hlt (by decide)
    refine lv_aload_n hx hb dX6_copyRow_8 rfl (lv_at hl 0 rfl) ?_
    refine va_get (v := .ref (a 0)) (C := RX6) (T := TX6) (N := 6) (ci := 6) hx hb hts hinX6 hown hK hP 0 rfl rfl 0 (by decide) (hts (.fieldLink RX6 7 "AxleKeeperModel" "w" "[I") (by decide +kernel)) (fun _ h9 => h9) rfl dX6_copyRow_9 ?_
    refine lv_iload_n hx hb dX6_copyRow_12 rfl (lv_at hl 2 rfl) ?_
    refine lv_iload_n hx hb dX6_copyRow_13 rfl (lv_at hl 3 rfl) ?_
    refine lv_iadd hx hb dX6_copyRow_14 ?_
    refine lv_aload_n hx hb dX6_copyRow_15 rfl (lv_at hl 0 rfl) ?_
    refine va_get (v := .ref (a 0)) (C := RX6) (T := TX6) (N := 6) (ci := 6) hx hb hts hinX6 hown hK hP 0 rfl rfl 0 (by decide) (hts (.fieldLink RX6 7 "AxleKeeperModel" "w" "[I") (by decide +kernel)) (fun _ h9 => h9) rfl dX6_copyRow_16 ?_
    refine lv_iload_n hx hb dX6_copyRow_19 rfl (lv_at hl 1 rfl) ?_
    refine lv_iload_n hx hb dX6_copyRow_20 rfl (lv_at hl 3 rfl) ?_
    refine lv_iadd hx hb dX6_copyRow_21 ?_
    refine va_iald hx hb hK hP 1 0 rfl rfl (n := 1680) (vinA (by assumption) (by assumption) (by decide)) dX6_copyRow_22 ?_
    refine st_M0 (x := (f 0 (ix (x1 + (nI i))))) hx hb hK hP hD hS (vinA (by assumption) (by assumption) (by decide)) dX6_copyRow_23 (fun H locs hP hD hS => ?_)
    refine lv_iinc (v := (nI (i + 1))) (lv' := [(3, .int (nI (i + 1))), (0, .ref h), (1, .int x1), (2, .int x2)]) hx hb dX6_copyRow_24 hl (k := 3) rfl (nI_1 i) (by decide) rfl (fun ls hl => ?_)
    refine lv_goto (tgt := 2) hx hb dX6_copyRow_27 (by decide) ?_
    have hρ : kX6_copyRow_2 x1 x2 (n + 1) i f = kX6_copyRow_2 x1 x2 n (i + 1) (up2 f 0 (ix (x2 + (nI i))) (f 0 (ix (x1 + (nI i))))) := (if_neg c_5)
    have hρ := hρ0.trans hρ
    exact ih  (i + 1)  (up2 f 0 (ix (x2 + (nI i))) (f 0 (ix (x1 + (nI i))))) _ _ (by omega) (by omega)  hP hD hS (lv_sub hl [1, 2, 3, 0] rfl) _ hρ
set_option maxHeartbeats 4000000 in
set_option maxRecDepth 100000 in
theorem okX6_copyRow (l : Launch) (D : va_G) (cI cZ cQ : ClassId) (h : Nat) (a : Nat → Nat) (X : va_W) (f : Nat → Nat → Int32) (x1 x2 : Int32) (sz : Nat) (h1 : vp_in x1 1597) (h2 : vp_in x2 1597) : Met l yX6_copyRow wsX6_copyRow ({ frames := 0, cells := 0, slots := 0, locals := 0 }) (PW [.ref h, .int x1, .int x2] sz D (TY cI cZ cQ) (MW cI h a f ++ X)) (QV D (TY cI cZ cQ) (MW cI h a (kX6_copyRow f x1 x2) ++ X) (va_A (MW cI h a f ++ X) sz)) 0 0 (va_A (MW cI h a f ++ X) sz) := by
  refine m_wr (cc := cX6_copyRow) (maxL := 4) (ret := none) (by decide) rfl (Nat.le_of_ble_eq_true rfl) (lv0 := [(0, .ref h), (1, .int x1), (2, .int x2)]) rfl ?_
  intro p e s m below meth c ls A hAe S hr hlk hP hK hD hS hA hl
  rw [← hAe]
  have S : CallFix p m c cX6_copyRow 4 s ([.ref h, .int x1, .int x2] : List Value).toArray wsX6_copyRow RX6 := S
  have hx := S.1
  have hb := S.2.1
  have hown : s.vm.findClass RX6 = some m.cls := S.2.2.2.1
  have hts := S.2.2.2.2
  have hinX6 : ∀ w ∈ wsX60, w ∈ wsX6_copyRow := by decide +kernel
  refine lv_iconst (v := 0) hx hb dX6_copyRow_0 (by decide) ?_
  refine lv_istore_n (lv' := [(3, .int 0), (0, .ref h), (1, .int x1), (2, .int x2)]) hx hb dX6_copyRow_1 rfl hl (by decide) rfl (fun ls hl => ?_)
  have hρ : kX6_copyRow f x1 x2 = kX6_copyRow_2 x1 x2 85 0 f := rfl
  exact lpX6_copyRow_2 l D cI cZ cQ h a X x1 x2 A hA S hr hlk hK h1 h2  85 0  f _ _ (by omega) (by omega)  hP hD hS (lv_sub hl [1, 2, 3, 0] rfl) _ hρ
theorem ndX6_heads : yX6_heads.cls = RX6 ∧ yX6_heads.cls ≠ "java/lang/invoke/MethodHandle" ∧ yX6_heads.cls ≠ "java/lang/invoke/VarHandle" ∧ (parseMethodDescriptor yX6_heads.desc).map (fun d => d.parameters.length) = some 0 := by decide +kernel
set_option maxHeartbeats 4000000 in
set_option maxRecDepth 100000 in
theorem okX6_heads (l : Launch) (D : va_G) (cI cZ cQ : ClassId) (h : Nat) (a : Nat → Nat) (X : va_W) (f : Nat → Nat → Int32) : Met l yX6_heads wsX6_heads ({ frames := 0, cells := 0, slots := 0, locals := 0 }) (PR [.ref h] D (TY cI cZ cQ) (MW cI h a f ++ X)) (QR (kX6_heads f)) 0 0 (fun _ => False) := by
  refine m_rd (cc := cX6_heads) (maxL := 1) (ret := (some .int)) (by decide) rfl (Nat.le_of_ble_eq_true rfl) (lv0 := [(0, .ref h)]) rfl ?_
  intro p e s m below meth c ls S hr hlk hP hK hl
  have S : CallFix p m c cX6_heads 1 s ([.ref h] : List Value).toArray wsX6_heads RX6 := S
  have hx := S.1
  have hb := S.2.1
  have hown : s.vm.findClass RX6 = some m.cls := S.2.2.2.1
  have hts := S.2.2.2.2
  have hinX6 : ∀ w ∈ wsX60, w ∈ wsX6_heads := by decide +kernel
  refine lv_aload_n hx hb dX6_heads_0 rfl (lv_at hl 0 rfl) ?_
  refine va_get (v := .ref (a 0)) (C := RX6) (T := TX6) (N := 6) (ci := 6) hx hb hts hinX6 hown hK hP 0 rfl rfl 0 (by decide) (hts (.fieldLink RX6 7 "AxleKeeperModel" "w" "[I") (by decide +kernel)) (fun _ h9 => h9) rfl dX6_heads_1 ?_
  refine lv_iconst (v := 1) hx hb dX6_heads_4 (by decide) ?_
  refine va_iald hx hb hK hP 1 0 rfl rfl (n := 1680) (vin_c (by decide)) dX6_heads_5 ?_
  refine lv_iconst (v := 1) hx hb dX6_heads_6 (by decide) ?_
  refine lv_icmp_ne (tgt := 19) hx hb dX6_heads_7 (by decide) (fun c_7 => ?_) (fun c_7 => ?_)
  · have c_7 : ¬ ((f 0 (ix 1)) = 1) := c_7
    refine lv_aload_n hx hb dX6_heads_19 rfl (lv_at hl 0 rfl) ?_
    refine va_get (v := .ref (a 0)) (C := RX6) (T := TX6) (N := 6) (ci := 6) hx hb hts hinX6 hown hK hP 0 rfl rfl 0 (by decide) (hts (.fieldLink RX6 7 "AxleKeeperModel" "w" "[I") (by decide +kernel)) (fun _ h9 => h9) rfl dX6_heads_20 ?_
    refine lv_iconst (v := 0) hx hb dX6_heads_23 (by decide) ?_
    refine va_iald hx hb hK hP 1 0 rfl rfl (n := 1680) (vin_c (by decide)) dX6_heads_24 ?_
    refine lv_iconst (v := 1) hx hb dX6_heads_25 (by decide) ?_
    refine lv_iadd hx hb dX6_heads_26 ?_
    have hρ : kX6_heads f = ((f 0 (ix 0)) + 1) := (if_neg c_7)
    exact e_rd hx hb hr hlk dX6_heads_27 hρ.symm
  have c_7 : (f 0 (ix 1)) = 1 := c_7
  refine lv_aload_n hx hb dX6_heads_10 rfl (lv_at hl 0 rfl) ?_
  refine va_get (v := .ref (a 0)) (C := RX6) (T := TX6) (N := 6) (ci := 6) hx hb hts hinX6 hown hK hP 0 rfl rfl 0 (by decide) (hts (.fieldLink RX6 7 "AxleKeeperModel" "w" "[I") (by decide +kernel)) (fun _ h9 => h9) rfl dX6_heads_11 ?_
  refine lv_iconst (v := 0) hx hb dX6_heads_14 (by decide) ?_
  refine va_iald hx hb hK hP 1 0 rfl rfl (n := 1680) (vin_c (by decide)) dX6_heads_15 ?_
  refine lv_goto (tgt := 27) hx hb dX6_heads_16 (by decide) ?_
  have hρ : kX6_heads f = (f 0 (ix 0)) := (if_pos c_7)
  exact e_rd hx hb hr hlk dX6_heads_27 hρ.symm
theorem ndX6_leftOf : yX6_leftOf.cls = RX6 ∧ yX6_leftOf.cls ≠ "java/lang/invoke/MethodHandle" ∧ yX6_leftOf.cls ≠ "java/lang/invoke/VarHandle" ∧ (parseMethodDescriptor yX6_leftOf.desc).map (fun d => d.parameters.length) = some 1 := by decide +kernel
set_option maxHeartbeats 4000000 in
set_option maxRecDepth 100000 in
theorem okX6_leftOf (l : Launch) (D : va_G) (cI cZ cQ : ClassId) (h : Nat) (a : Nat → Nat) (X : va_W) (f : Nat → Nat → Int32) (x1 : Int32) : Met l yX6_leftOf wsX6_leftOf ({ frames := 0, cells := 0, slots := 0, locals := 0 }) (PR [.ref h, .int x1] D (TY cI cZ cQ) (MW cI h a f ++ X)) (QR (kX6_leftOf f x1)) 0 0 (fun _ => False) := by
  refine m_rd (cc := cX6_leftOf) (maxL := 2) (ret := (some .int)) (by decide) rfl (Nat.le_of_ble_eq_true rfl) (lv0 := [(0, .ref h), (1, .int x1)]) rfl ?_
  intro p e s m below meth c ls S hr hlk hP hK hl
  have S : CallFix p m c cX6_leftOf 2 s ([.ref h, .int x1] : List Value).toArray wsX6_leftOf RX6 := S
  have hx := S.1
  have hb := S.2.1
  have hown : s.vm.findClass RX6 = some m.cls := S.2.2.2.1
  have hts := S.2.2.2.2
  have hinX6 : ∀ w ∈ wsX60, w ∈ wsX6_leftOf := by decide +kernel
  refine lv_iload_n hx hb dX6_leftOf_0 rfl (lv_at hl 1 rfl) ?_
  refine lv_if_le (tgt := 10) hx hb dX6_leftOf_1 (by decide) (fun c_1 => ?_) (fun c_1 => ?_)
  · have c_1 : x1 ≤ 0 := c_1
    refine lv_aload_n hx hb dX6_leftOf_10 rfl (lv_at hl 0 rfl) ?_
    refine va_get (v := .ref (a 0)) (C := RX6) (T := TX6) (N := 6) (ci := 6) hx hb hts hinX6 hown hK hP 0 rfl rfl 0 (by decide) (hts (.fieldLink RX6 7 "AxleKeeperModel" "w" "[I") (by decide +kernel)) (fun _ h9 => h9) rfl dX6_leftOf_11 ?_
    refine lv_iconst (v := 1) hx hb dX6_leftOf_14 (by decide) ?_
    refine va_iald hx hb hK hP 1 0 rfl rfl (n := 1680) (vin_c (by decide)) dX6_leftOf_15 ?_
    refine lv_iconst (v := 1) hx hb dX6_leftOf_16 (by decide) ?_
    refine lv_icmp_ne (tgt := 31) hx hb dX6_leftOf_17 (by decide) (fun c_17 => ?_) (fun c_17 => ?_)
    · have c_17 : ¬ ((f 0 (ix 1)) = 1) := c_17
      refine lv_iconst (v := (-1)) hx hb dX6_leftOf_31 (by decide) ?_
      have hρ : kX6_leftOf f x1 = (-1) := (if_pos c_1).trans ((if_neg c_17))
      exact e_rd hx hb hr hlk dX6_leftOf_32 hρ.symm
    have c_17 : (f 0 (ix 1)) = 1 := c_17
    refine lv_aload_n hx hb dX6_leftOf_20 rfl (lv_at hl 0 rfl) ?_
    refine va_get (v := .ref (a 0)) (C := RX6) (T := TX6) (N := 6) (ci := 6) hx hb hts hinX6 hown hK hP 0 rfl rfl 0 (by decide) (hts (.fieldLink RX6 7 "AxleKeeperModel" "w" "[I") (by decide +kernel)) (fun _ h9 => h9) rfl dX6_leftOf_21 ?_
    refine lv_iconst (v := 0) hx hb dX6_leftOf_24 (by decide) ?_
    refine va_iald hx hb hK hP 1 0 rfl rfl (n := 1680) (vin_c (by decide)) dX6_leftOf_25 ?_
    refine lv_iconst (v := 1) hx hb dX6_leftOf_26 (by decide) ?_
    refine lv_isub hx hb dX6_leftOf_27 ?_
    refine lv_goto (tgt := 32) hx hb dX6_leftOf_28 (by decide) ?_
    have hρ : kX6_leftOf f x1 = ((f 0 (ix 0)) - 1) := (if_pos c_1).trans ((if_pos c_17))
    exact e_rd hx hb hr hlk dX6_leftOf_32 hρ.symm
  have c_1 : ¬ (x1 ≤ 0) := c_1
  refine lv_iload_n hx hb dX6_leftOf_4 rfl (lv_at hl 1 rfl) ?_
  refine lv_iconst (v := 1) hx hb dX6_leftOf_5 (by decide) ?_
  refine lv_isub hx hb dX6_leftOf_6 ?_
  refine lv_goto (tgt := 32) hx hb dX6_leftOf_7 (by decide) ?_
  have hρ : kX6_leftOf f x1 = (x1 - 1) := (if_neg c_1)
  exact e_rd hx hb hr hlk dX6_leftOf_32 hρ.symm
theorem ndX6_rightOf : yX6_rightOf.cls = RX6 ∧ yX6_rightOf.cls ≠ "java/lang/invoke/MethodHandle" ∧ yX6_rightOf.cls ≠ "java/lang/invoke/VarHandle" ∧ (parseMethodDescriptor yX6_rightOf.desc).map (fun d => d.parameters.length) = some 1 := by decide +kernel
set_option maxHeartbeats 4000000 in
set_option maxRecDepth 100000 in
theorem okX6_rightOf (l : Launch) (D : va_G) (cI cZ cQ : ClassId) (h : Nat) (a : Nat → Nat) (X : va_W) (f : Nat → Nat → Int32) (x1 : Int32) : Met l yX6_rightOf wsX6_rightOf ({ frames := 0, cells := 0, slots := 0, locals := 0 }) (PR [.ref h, .int x1] D (TY cI cZ cQ) (MW cI h a f ++ X)) (QR (kX6_rightOf f x1)) 0 0 (fun _ => False) := by
  refine m_rd (cc := cX6_rightOf) (maxL := 2) (ret := (some .int)) (by decide) rfl (Nat.le_of_ble_eq_true rfl) (lv0 := [(0, .ref h), (1, .int x1)]) rfl ?_
  intro p e s m below meth c ls S hr hlk hP hK hl
  have S : CallFix p m c cX6_rightOf 2 s ([.ref h, .int x1] : List Value).toArray wsX6_rightOf RX6 := S
  have hx := S.1
  have hb := S.2.1
  have hown : s.vm.findClass RX6 = some m.cls := S.2.2.2.1
  have hts := S.2.2.2.2
  have hinX6 : ∀ w ∈ wsX60, w ∈ wsX6_rightOf := by decide +kernel
  refine lv_iload_n hx hb dX6_rightOf_0 rfl (lv_at hl 1 rfl) ?_
  refine lv_aload_n hx hb dX6_rightOf_1 rfl (lv_at hl 0 rfl) ?_
  refine va_get (v := .ref (a 0)) (C := RX6) (T := TX6) (N := 6) (ci := 6) hx hb hts hinX6 hown hK hP 0 rfl rfl 0 (by decide) (hts (.fieldLink RX6 7 "AxleKeeperModel" "w" "[I") (by decide +kernel)) (fun _ h9 => h9) rfl dX6_rightOf_2 ?_
  refine lv_iconst (v := 0) hx hb dX6_rightOf_5 (by decide) ?_
  refine va_iald hx hb hK hP 1 0 rfl rfl (n := 1680) (vin_c (by decide)) dX6_rightOf_6 ?_
  refine lv_icmp_ge (tgt := 14) hx hb dX6_rightOf_7 (by decide) (fun c_7 => ?_) (fun c_7 => ?_)
  · have c_7 : (f 0 (ix 0)) ≤ x1 := c_7
    refine lv_iconst (v := (-1)) hx hb dX6_rightOf_14 (by decide) ?_
    have hρ : kX6_rightOf f x1 = (-1) := (if_pos c_7)
    exact e_rd hx hb hr hlk dX6_rightOf_15 hρ.symm
  have c_7 : ¬ ((f 0 (ix 0)) ≤ x1) := c_7
  refine lv_iload_n hx hb dX6_rightOf_10 rfl (lv_at hl 1 rfl) ?_
  refine lv_goto (tgt := 15) hx hb dX6_rightOf_11 (by decide) ?_
  have hρ : kX6_rightOf f x1 = x1 := (if_neg c_7)
  exact e_rd hx hb hr hlk dX6_rightOf_15 hρ.symm
theorem ndX6_rightHead : yX6_rightHead.cls = RX6 ∧ yX6_rightHead.cls ≠ "java/lang/invoke/MethodHandle" ∧ yX6_rightHead.cls ≠ "java/lang/invoke/VarHandle" ∧ (parseMethodDescriptor yX6_rightHead.desc).map (fun d => d.parameters.length) = some 1 := by decide +kernel
set_option maxHeartbeats 4000000 in
set_option maxRecDepth 100000 in
theorem okX6_rightHead (l : Launch) (D : va_G) (cI cZ cQ : ClassId) (h : Nat) (a : Nat → Nat) (X : va_W) (f : Nat → Nat → Int32) (x1 : Int32) (hok : okM f) : Met l yX6_rightHead wsX6_rightHead ({ frames := 0, cells := 0, slots := 0, locals := 0 }) (PR [.ref h, .int x1] D (TY cI cZ cQ) (MW cI h a f ++ X)) (QR (kX6_rightHead f x1)) 0 0 (fun _ => False) := by
  refine m_rd (cc := cX6_rightHead) (maxL := 2) (ret := (some .int)) (by decide) rfl (Nat.le_of_ble_eq_true rfl) (lv0 := [(0, .ref h), (1, .int x1)]) rfl ?_
  intro p e s m below meth c ls S hr hlk hP hK hl
  have S : CallFix p m c cX6_rightHead 2 s ([.ref h, .int x1] : List Value).toArray wsX6_rightHead RX6 := S
  have hx := S.1
  have hb := S.2.1
  have hown : s.vm.findClass RX6 = some m.cls := S.2.2.2.1
  have hts := S.2.2.2.2
  have hinX6 : ∀ w ∈ wsX60, w ∈ wsX6_rightHead := by decide +kernel
  refine lv_aload_n hx hb dX6_rightHead_0 rfl (lv_at hl 0 rfl) ?_
  refine va_get (v := .ref (a 0)) (C := RX6) (T := TX6) (N := 6) (ci := 6) hx hb hts hinX6 hown hK hP 0 rfl rfl 0 (by decide) (hts (.fieldLink RX6 7 "AxleKeeperModel" "w" "[I") (by decide +kernel)) (fun _ h9 => h9) rfl dX6_rightHead_1 ?_
  refine lv_iconst (v := 1) hx hb dX6_rightHead_4 (by decide) ?_
  refine va_iald hx hb hK hP 1 0 rfl rfl (n := 1680) (vin_c (by decide)) dX6_rightHead_5 ?_
  refine lv_iconst (v := 1) hx hb dX6_rightHead_6 (by decide) ?_
  refine lv_icmp_ne (tgt := 23) hx hb dX6_rightHead_7 (by decide) (fun c_7 => ?_) (fun c_7 => ?_)
  · have c_7 : ¬ ((f 0 (ix 1)) = 1) := c_7
    refine lv_iload_n hx hb dX6_rightHead_23 rfl (lv_at hl 1 rfl) ?_
    refine lv_iconst (v := 1) hx hb dX6_rightHead_24 (by decide) ?_
    refine lv_iadd hx hb dX6_rightHead_25 ?_
    have hρ : kX6_rightHead f x1 = (x1 + 1) := (if_neg c_7)
    exact e_rd hx hb hr hlk dX6_rightHead_26 hρ.symm
  have c_7 : (f 0 (ix 1)) = 1 := c_7
  refine lv_iload_n hx hb dX6_rightHead_10 rfl (lv_at hl 1 rfl) ?_
  refine lv_iconst (v := 1) hx hb dX6_rightHead_11 (by decide) ?_
  refine lv_iadd hx hb dX6_rightHead_12 ?_
  refine lv_aload_n hx hb dX6_rightHead_13 rfl (lv_at hl 0 rfl) ?_
  refine va_get (v := .ref (a 0)) (C := RX6) (T := TX6) (N := 6) (ci := 6) hx hb hts hinX6 hown hK hP 0 rfl rfl 0 (by decide) (hts (.fieldLink RX6 7 "AxleKeeperModel" "w" "[I") (by decide +kernel)) (fun _ h9 => h9) rfl dX6_rightHead_14 ?_
  refine lv_iconst (v := 0) hx hb dX6_rightHead_17 (by decide) ?_
  refine va_iald hx hb hK hP 1 0 rfl rfl (n := 1680) (vin_c (by decide)) dX6_rightHead_18 ?_
  refine lv_irem hx hb dX6_rightHead_19 (n0M hok) ?_
  refine lv_goto (tgt := 26) hx hb dX6_rightHead_20 (by decide) ?_
  have hρ : kX6_rightHead f x1 = (remI (x1 + 1) (f 0 (ix 0))) := (if_pos c_7)
  exact e_rd hx hb hr hlk dX6_rightHead_26 hρ.symm
theorem ndX6_isSection : yX6_isSection.cls = RX6 ∧ yX6_isSection.cls ≠ "java/lang/invoke/MethodHandle" ∧ yX6_isSection.cls ≠ "java/lang/invoke/VarHandle" ∧ (parseMethodDescriptor yX6_isSection.desc).map (fun d => d.parameters.length) = some 1 := by decide +kernel
set_option maxHeartbeats 4000000 in
set_option maxRecDepth 100000 in
theorem okX6_isSection (l : Launch) (D : va_G) (cI cZ cQ : ClassId) (h : Nat) (a : Nat → Nat) (X : va_W) (f : Nat → Nat → Int32) (x1 : Int32) : Met l yX6_isSection wsX6_isSection ({ frames := 1, cells := 0, slots := 0, locals := 22 }) (PR [.ref h, .int x1] D (TY cI cZ cQ) (MW cI h a f ++ X)) (QR (kX6_isSection f x1)) 0 0 (fun _ => False) := by
  refine m_rd (cc := cX6_isSection) (maxL := 2) (ret := (some .boolean)) (by decide) rfl (Nat.le_of_ble_eq_true rfl) (lv0 := [(0, .ref h), (1, .int x1)]) rfl ?_
  intro p e s m below meth c ls S hr hlk hP hK hl
  have S : CallFix p m c cX6_isSection 2 s ([.ref h, .int x1] : List Value).toArray wsX6_isSection RX6 := S
  have hx := S.1
  have hb := S.2.1
  have hown : s.vm.findClass RX6 = some m.cls := S.2.2.2.1
  have hts := S.2.2.2.2
  have hinX6 : ∀ w ∈ wsX60, w ∈ wsX6_isSection := by decide +kernel
  refine lv_iload_n hx hb dX6_isSection_0 rfl (lv_at hl 1 rfl) ?_
  refine lv_iconst (v := 0) hx hb dX6_isSection_1 (by decide) ?_
  refine lv_aload_n hx hb dX6_isSection_2 rfl (lv_at hl 0 rfl) ?_
  refine va_get (v := .ref (a 0)) (C := RX6) (T := TX6) (N := 6) (ci := 6) hx hb hts hinX6 hown hK hP 0 rfl rfl 0 (by decide) (hts (.fieldLink RX6 7 "AxleKeeperModel" "w" "[I") (by decide +kernel)) (fun _ h9 => h9) rfl dX6_isSection_3 ?_
  refine lv_iconst (v := 0) hx hb dX6_isSection_6 (by decide) ?_
  refine va_iald hx hb hK hP 1 0 rfl rfl (n := 1680) (vin_c (by decide)) dX6_isSection_7 ?_
  refine lv_iconst (v := 1) hx hb dX6_isSection_8 (by decide) ?_
  refine lv_isub hx hb dX6_isSection_9 ?_
  refine k_rs (As := [.int x1, .int 0, .int ((f 0 (ix 0)) - 1)]) (rest := []) (bytes := cX6_in) S (okX6_in l D cI cZ cQ h a X f x1 0 ((f 0 (ix 0)) - 1)) gX6_isSection_X6_in rfl ⟨rfl, rfl⟩ ndX6_in ⟨Nat.le_of_ble_eq_true rfl, Nat.le_of_ble_eq_true rfl⟩ hK hP rfl hl rfl (Nat.le_of_ble_eq_true rfl) dX6_isSection_10 ⟨Nat.zero_le _, Nat.zero_le _⟩ ?_
  have hρ : kX6_isSection f x1 = (kX6_in f x1 0 ((f 0 (ix 0)) - 1)) := rfl
  exact e_rz hx hb hr hlk dX6_isSection_13 nar_in hρ.symm
theorem ndX6_isHead : yX6_isHead.cls = RX6 ∧ yX6_isHead.cls ≠ "java/lang/invoke/MethodHandle" ∧ yX6_isHead.cls ≠ "java/lang/invoke/VarHandle" ∧ (parseMethodDescriptor yX6_isHead.desc).map (fun d => d.parameters.length) = some 1 := by decide +kernel
set_option maxHeartbeats 4000000 in
set_option maxRecDepth 100000 in
theorem okX6_isHead (l : Launch) (D : va_G) (cI cZ cQ : ClassId) (h : Nat) (a : Nat → Nat) (X : va_W) (f : Nat → Nat → Int32) (x1 : Int32) : Met l yX6_isHead wsX6_isHead ({ frames := 1, cells := 0, slots := 0, locals := 22 }) (PR [.ref h, .int x1] D (TY cI cZ cQ) (MW cI h a f ++ X)) (QR (kX6_isHead f x1)) 0 0 (fun _ => False) := by
  refine m_rd (cc := cX6_isHead) (maxL := 2) (ret := (some .boolean)) (by decide) rfl (Nat.le_of_ble_eq_true rfl) (lv0 := [(0, .ref h), (1, .int x1)]) rfl ?_
  intro p e s m below meth c ls S hr hlk hP hK hl
  have S : CallFix p m c cX6_isHead 2 s ([.ref h, .int x1] : List Value).toArray wsX6_isHead RX6 := S
  have hx := S.1
  have hb := S.2.1
  have hown : s.vm.findClass RX6 = some m.cls := S.2.2.2.1
  have hts := S.2.2.2.2
  refine lv_iload_n hx hb dX6_isHead_0 rfl (lv_at hl 1 rfl) ?_
  refine lv_iconst (v := 0) hx hb dX6_isHead_1 (by decide) ?_
  refine lv_aload_n hx hb dX6_isHead_2 rfl (lv_at hl 0 rfl) ?_
  refine k_rd (As := []) (rest := [.int 0, .int x1]) (bytes := cX6_heads) (C := RX6) S (okX6_heads l D cI cZ cQ h a X f ) gX6_isHead_X6_heads rfl ⟨rfl, rfl⟩ ndX6_heads ⟨Nat.le_of_ble_eq_true rfl, Nat.le_of_ble_eq_true rfl⟩ hK hP 0 rfl rfl rfl hl rfl (Nat.le_of_ble_eq_true rfl) dX6_isHead_3 ⟨Nat.zero_le _, Nat.zero_le _⟩ ?_
  refine lv_iconst (v := 1) hx hb dX6_isHead_6 (by decide) ?_
  refine lv_isub hx hb dX6_isHead_7 ?_
  refine k_rs (As := [.int x1, .int 0, .int ((kX6_heads f) - 1)]) (rest := []) (bytes := cX6_in) S (okX6_in l D cI cZ cQ h a X f x1 0 ((kX6_heads f) - 1)) gX6_isHead_X6_in rfl ⟨rfl, rfl⟩ ndX6_in ⟨Nat.le_of_ble_eq_true rfl, Nat.le_of_ble_eq_true rfl⟩ hK hP rfl hl rfl (Nat.le_of_ble_eq_true rfl) dX6_isHead_8 ⟨Nat.zero_le _, Nat.zero_le _⟩ ?_
  have hρ : kX6_isHead f x1 = (kX6_in f x1 0 ((kX6_heads f) - 1)) := rfl
  exact e_rz hx hb hr hlk dX6_isHead_11 nar_in hρ.symm
theorem ndX6_isSet : yX6_isSet.cls = RX6 ∧ yX6_isSet.cls ≠ "java/lang/invoke/MethodHandle" ∧ yX6_isSet.cls ≠ "java/lang/invoke/VarHandle" ∧ (parseMethodDescriptor yX6_isSet.desc).map (fun d => d.parameters.length) = some 1 := by decide +kernel
set_option maxHeartbeats 4000000 in
set_option maxRecDepth 100000 in
theorem okX6_isSet (l : Launch) (D : va_G) (cI cZ cQ : ClassId) (h : Nat) (a : Nat → Nat) (X : va_W) (f : Nat → Nat → Int32) (x1 : Int32) : Met l yX6_isSet wsX6_isSet ({ frames := 1, cells := 0, slots := 0, locals := 22 }) (PR [.ref h, .int x1] D (TY cI cZ cQ) (MW cI h a f ++ X)) (QR (kX6_isSet f x1)) 0 0 (fun _ => False) := by
  refine m_rd (cc := cX6_isSet) (maxL := 2) (ret := (some .boolean)) (by decide) rfl (Nat.le_of_ble_eq_true rfl) (lv0 := [(0, .ref h), (1, .int x1)]) rfl ?_
  intro p e s m below meth c ls S hr hlk hP hK hl
  have S : CallFix p m c cX6_isSet 2 s ([.ref h, .int x1] : List Value).toArray wsX6_isSet RX6 := S
  have hx := S.1
  have hb := S.2.1
  have hown : s.vm.findClass RX6 = some m.cls := S.2.2.2.1
  have hts := S.2.2.2.2
  refine lv_iload_n hx hb dX6_isSet_0 rfl (lv_at hl 1 rfl) ?_
  refine lv_iconst (v := 0) hx hb dX6_isSet_1 (by decide) ?_
  refine lv_iconst (v := 1) hx hb dX6_isSet_2 (by decide) ?_
  refine lv_aload_n hx hb dX6_isSet_3 rfl (lv_at hl 0 rfl) ?_
  refine k_rd (As := []) (rest := [.int 1, .int 0, .int x1]) (bytes := cX6_heads) (C := RX6) S (okX6_heads l D cI cZ cQ h a X f ) gX6_isSet_X6_heads rfl ⟨rfl, rfl⟩ ndX6_heads ⟨Nat.le_of_ble_eq_true rfl, Nat.le_of_ble_eq_true rfl⟩ hK hP 0 rfl rfl rfl hl rfl (Nat.le_of_ble_eq_true rfl) dX6_isSet_4 ⟨Nat.zero_le _, Nat.zero_le _⟩ ?_
  refine lv_ishl hx hb dX6_isSet_7 ?_
  refine lv_iconst (v := 1) hx hb dX6_isSet_8 (by decide) ?_
  refine lv_isub hx hb dX6_isSet_9 ?_
  refine k_rs (As := [.int x1, .int 0, .int (((1 : Int32) <<< ((kX6_heads f) &&& 31)) - 1)]) (rest := []) (bytes := cX6_in) S (okX6_in l D cI cZ cQ h a X f x1 0 (((1 : Int32) <<< ((kX6_heads f) &&& 31)) - 1)) gX6_isSet_X6_in rfl ⟨rfl, rfl⟩ ndX6_in ⟨Nat.le_of_ble_eq_true rfl, Nat.le_of_ble_eq_true rfl⟩ hK hP rfl hl rfl (Nat.le_of_ble_eq_true rfl) dX6_isSet_10 ⟨Nat.zero_le _, Nat.zero_le _⟩ ?_
  have hρ : kX6_isSet f x1 = (kX6_in f x1 0 (((1 : Int32) <<< ((kX6_heads f) &&& 31)) - 1)) := rfl
  exact e_rz hx hb hr hlk dX6_isSet_13 nar_in hρ.symm
theorem ndX6_isBad : yX6_isBad.cls = RX6 ∧ yX6_isBad.cls ≠ "java/lang/invoke/MethodHandle" ∧ yX6_isBad.cls ≠ "java/lang/invoke/VarHandle" ∧ (parseMethodDescriptor yX6_isBad.desc).map (fun d => d.parameters.length) = some 2 := by decide +kernel
set_option maxHeartbeats 4000000 in
set_option maxRecDepth 100000 in
theorem okX6_isBad (l : Launch) (D : va_G) (cI cZ cQ : ClassId) (h : Nat) (a : Nat → Nat) (X : va_W) (f : Nat → Nat → Int32) (x1 x2 : Int32) (h1 : vp_in x1 1597) (h2 : vp_in x2 7) : Met l yX6_isBad wsX6_isBad ({ frames := 0, cells := 0, slots := 0, locals := 0 }) (PR [.ref h, .int x1, .int x2] D (TY cI cZ cQ) (MW cI h a f ++ X)) (QR (kX6_isBad f x1 x2)) 0 0 (fun _ => False) := by
  refine m_rd (cc := cX6_isBad) (maxL := 3) (ret := (some .boolean)) (by decide) rfl (Nat.le_of_ble_eq_true rfl) (lv0 := [(0, .ref h), (1, .int x1), (2, .int x2)]) rfl ?_
  intro p e s m below meth c ls S hr hlk hP hK hl
  have S : CallFix p m c cX6_isBad 3 s ([.ref h, .int x1, .int x2] : List Value).toArray wsX6_isBad RX6 := S
  have hx := S.1
  have hb := S.2.1
  have hown : s.vm.findClass RX6 = some m.cls := S.2.2.2.1
  have hts := S.2.2.2.2
  have hinX6 : ∀ w ∈ wsX60, w ∈ wsX6_isBad := by decide +kernel
  refine lv_aload_n hx hb dX6_isBad_0 rfl (lv_at hl 0 rfl) ?_
  refine va_get (v := .ref (a 0)) (C := RX6) (T := TX6) (N := 6) (ci := 6) hx hb hts hinX6 hown hK hP 0 rfl rfl 0 (by decide) (hts (.fieldLink RX6 7 "AxleKeeperModel" "w" "[I") (by decide +kernel)) (fun _ h9 => h9) rfl dX6_isBad_1 ?_
  refine lv_iload_n hx hb dX6_isBad_4 rfl (lv_at hl 1 rfl) ?_
  refine lv_bipush (v := 69) hx hb dX6_isBad_5 (by decide) ?_
  refine lv_iadd hx hb dX6_isBad_7 ?_
  refine lv_iload_n hx hb dX6_isBad_8 rfl (lv_at hl 2 rfl) ?_
  refine lv_iadd hx hb dX6_isBad_9 ?_
  refine va_iald hx hb hK hP 1 0 rfl rfl (n := 1680) (vin3 (by assumption) (by assumption) (by decide)) dX6_isBad_10 ?_
  refine lv_iconst (v := 1) hx hb dX6_isBad_11 (by decide) ?_
  refine lv_icmp_eq (tgt := 30) hx hb dX6_isBad_12 (by decide) (fun c_12 => ?_) (fun c_12 => ?_)
  · have c_12 : (f 0 (ix ((x1 + 69) + x2))) = 1 := c_12
    refine lv_iconst (v := 1) hx hb dX6_isBad_30 (by decide) ?_
    refine lv_goto (tgt := 35) hx hb dX6_isBad_31 (by decide) ?_
    have hρ : kX6_isBad f x1 x2 = 1 := (if_pos c_12)
    exact e_rz hx hb hr hlk dX6_isBad_35 rfl hρ.symm
  have c_12 : ¬ ((f 0 (ix ((x1 + 69) + x2))) = 1) := c_12
  refine lv_aload_n hx hb dX6_isBad_15 rfl (lv_at hl 0 rfl) ?_
  refine va_get (v := .ref (a 0)) (C := RX6) (T := TX6) (N := 6) (ci := 6) hx hb hts hinX6 hown hK hP 0 rfl rfl 0 (by decide) (hts (.fieldLink RX6 7 "AxleKeeperModel" "w" "[I") (by decide +kernel)) (fun _ h9 => h9) rfl dX6_isBad_16 ?_
  refine lv_iload_n hx hb dX6_isBad_19 rfl (lv_at hl 1 rfl) ?_
  refine lv_bipush (v := 55) hx hb dX6_isBad_20 (by decide) ?_
  refine lv_iadd hx hb dX6_isBad_22 ?_
  refine lv_iload_n hx hb dX6_isBad_23 rfl (lv_at hl 2 rfl) ?_
  refine lv_iadd hx hb dX6_isBad_24 ?_
  refine va_iald hx hb hK hP 1 0 rfl rfl (n := 1680) (vin3 (by assumption) (by assumption) (by decide)) dX6_isBad_25 ?_
  refine lv_iconst (v := 3) hx hb dX6_isBad_26 (by decide) ?_
  refine lv_icmp_le (tgt := 34) hx hb dX6_isBad_27 (by decide) (fun c_27 => ?_) (fun c_27 => ?_)
  · have c_27 : (f 0 (ix ((x1 + 55) + x2))) ≤ 3 := c_27
    refine lv_iconst (v := 0) hx hb dX6_isBad_34 (by decide) ?_
    have hρ : kX6_isBad f x1 x2 = 0 := (if_neg c_12).trans ((if_pos c_27))
    exact e_rz hx hb hr hlk dX6_isBad_35 rfl hρ.symm
  have c_27 : ¬ ((f 0 (ix ((x1 + 55) + x2))) ≤ 3) := c_27
  refine lv_iconst (v := 1) hx hb dX6_isBad_30 (by decide) ?_
  refine lv_goto (tgt := 35) hx hb dX6_isBad_31 (by decide) ?_
  have hρ : kX6_isBad f x1 x2 = 1 := (if_neg c_12).trans ((if_neg c_27))
  exact e_rz hx hb hr hlk dX6_isBad_35 rfl hρ.symm
theorem ndX6_hasBad : yX6_hasBad.cls = RX6 ∧ yX6_hasBad.cls ≠ "java/lang/invoke/MethodHandle" ∧ yX6_hasBad.cls ≠ "java/lang/invoke/VarHandle" ∧ (parseMethodDescriptor yX6_hasBad.desc).map (fun d => d.parameters.length) = some 2 := by decide +kernel
set_option maxHeartbeats 4000000 in
set_option maxRecDepth 100000 in
theorem okX6_hasBad (l : Launch) (D : va_G) (cI cZ cQ : ClassId) (h : Nat) (a : Nat → Nat) (X : va_W) (f : Nat → Nat → Int32) (x1 x2 : Int32) (hok : okM f) (h1 : vp_in x1 1597) (h2 : vp_in x2 6) : Met l yX6_hasBad wsX6_hasBad ({ frames := 1, cells := 0, slots := 0, locals := 22 }) (PR [.ref h, .int x1, .int x2] D (TY cI cZ cQ) (MW cI h a f ++ X)) (QR (kX6_hasBad f x1 x2)) 0 0 (fun _ => False) := by
  refine m_rd (cc := cX6_hasBad) (maxL := 3) (ret := (some .boolean)) (by decide) rfl (Nat.le_of_ble_eq_true rfl) (lv0 := [(0, .ref h), (1, .int x1), (2, .int x2)]) rfl ?_
  intro p e s m below meth c ls S hr hlk hP hK hl
  have S : CallFix p m c cX6_hasBad 3 s ([.ref h, .int x1, .int x2] : List Value).toArray wsX6_hasBad RX6 := S
  have hx := S.1
  have hb := S.2.1
  have hown : s.vm.findClass RX6 = some m.cls := S.2.2.2.1
  have hts := S.2.2.2.2
  refine lv_aload_n hx hb dX6_hasBad_0 rfl (lv_at hl 0 rfl) ?_
  refine lv_iload_n hx hb dX6_hasBad_1 rfl (lv_at hl 1 rfl) ?_
  refine lv_iload_n hx hb dX6_hasBad_2 rfl (lv_at hl 2 rfl) ?_
  refine k_rd (As := [.int x1, .int x2]) (rest := []) (bytes := cX6_isBad) (C := RX6) S (okX6_isBad l D cI cZ cQ h a X f x1 x2 h1 (in67 h2)) gX6_hasBad_X6_isBad rfl ⟨rfl, rfl⟩ ndX6_isBad ⟨Nat.le_of_ble_eq_true rfl, Nat.le_of_ble_eq_true rfl⟩ hK hP 0 rfl rfl rfl hl rfl (Nat.le_of_ble_eq_true rfl) dX6_hasBad_3 ⟨Nat.zero_le _, Nat.zero_le _⟩ ?_
  refine lv_if_ne (tgt := 22) hx hb dX6_hasBad_6 (by decide) (fun c_6 => ?_) (fun c_6 => ?_)
  · have c_6 : ¬ ((kX6_isBad f x1 x2) = 0) := c_6
    refine lv_iconst (v := 1) hx hb dX6_hasBad_22 (by decide) ?_
    refine lv_goto (tgt := 27) hx hb dX6_hasBad_23 (by decide) ?_
    have hρ : kX6_hasBad f x1 x2 = 1 := (if_neg c_6)
    exact e_rz hx hb hr hlk dX6_hasBad_27 rfl hρ.symm
  have c_6 : (kX6_isBad f x1 x2) = 0 := c_6
  refine lv_aload_n hx hb dX6_hasBad_9 rfl (lv_at hl 0 rfl) ?_
  refine lv_iload_n hx hb dX6_hasBad_10 rfl (lv_at hl 1 rfl) ?_
  refine lv_aload_n hx hb dX6_hasBad_11 rfl (lv_at hl 0 rfl) ?_
  refine lv_iload_n hx hb dX6_hasBad_12 rfl (lv_at hl 2 rfl) ?_
  refine k_rd (As := [.int x2]) (rest := [.int x1, .ref h]) (bytes := cX6_rightHead) (C := RX6) S (okX6_rightHead l D cI cZ cQ h a X f x2 (by assumption)) gX6_hasBad_X6_rightHead rfl ⟨rfl, rfl⟩ ndX6_rightHead ⟨Nat.le_of_ble_eq_true rfl, Nat.le_of_ble_eq_true rfl⟩ hK hP 0 rfl rfl rfl hl rfl (Nat.le_of_ble_eq_true rfl) dX6_hasBad_13 ⟨Nat.zero_le _, Nat.zero_le _⟩ ?_
  refine k_rd (As := [.int x1, .int (kX6_rightHead f x2)]) (rest := []) (bytes := cX6_isBad) (C := RX6) S (okX6_isBad l D cI cZ cQ h a X f x1 (kX6_rightHead f x2) h1 (mrh_in hok h2)) gX6_hasBad_X6_isBad rfl ⟨rfl, rfl⟩ ndX6_isBad ⟨Nat.le_of_ble_eq_true rfl, Nat.le_of_ble_eq_true rfl⟩ hK hP 0 rfl rfl rfl hl rfl (Nat.le_of_ble_eq_true rfl) dX6_hasBad_16 ⟨Nat.zero_le _, Nat.zero_le _⟩ ?_
  refine lv_if_eq (tgt := 26) hx hb dX6_hasBad_19 (by decide) (fun c_19 => ?_) (fun c_19 => ?_)
  · have c_19 : (kX6_isBad f x1 (kX6_rightHead f x2)) = 0 := c_19
    refine lv_iconst (v := 0) hx hb dX6_hasBad_26 (by decide) ?_
    have hρ : kX6_hasBad f x1 x2 = 0 := (if_pos c_6).trans ((if_pos c_19))
    exact e_rz hx hb hr hlk dX6_hasBad_27 rfl hρ.symm
  have c_19 : ¬ ((kX6_isBad f x1 (kX6_rightHead f x2)) = 0) := c_19
  refine lv_iconst (v := 1) hx hb dX6_hasBad_22 (by decide) ?_
  refine lv_goto (tgt := 27) hx hb dX6_hasBad_23 (by decide) ?_
  have hρ : kX6_hasBad f x1 x2 = 1 := (if_pos c_6).trans ((if_neg c_19))
  exact e_rz hx hb hr hlk dX6_hasBad_27 rfl hρ.symm
theorem ndX6_isTrouble : yX6_isTrouble.cls = RX6 ∧ yX6_isTrouble.cls ≠ "java/lang/invoke/MethodHandle" ∧ yX6_isTrouble.cls ≠ "java/lang/invoke/VarHandle" ∧ (parseMethodDescriptor yX6_isTrouble.desc).map (fun d => d.parameters.length) = some 2 := by decide +kernel
set_option maxHeartbeats 4000000 in
set_option maxRecDepth 100000 in
theorem okX6_isTrouble (l : Launch) (D : va_G) (cI cZ cQ : ClassId) (h : Nat) (a : Nat → Nat) (X : va_W) (f : Nat → Nat → Int32) (x1 x2 : Int32) (hok : okM f) (h1 : vp_in x1 1597) (h2 : vp_in x2 6) : Met l yX6_isTrouble wsX6_isTrouble ({ frames := 2, cells := 0, slots := 0, locals := 44 }) (PR [.ref h, .int x1, .int x2] D (TY cI cZ cQ) (MW cI h a f ++ X)) (QR (kX6_isTrouble f x1 x2)) 0 0 (fun _ => False) := by
  refine m_rd (cc := cX6_isTrouble) (maxL := 3) (ret := (some .boolean)) (by decide) rfl (Nat.le_of_ble_eq_true rfl) (lv0 := [(0, .ref h), (1, .int x1), (2, .int x2)]) rfl ?_
  intro p e s m below meth c ls S hr hlk hP hK hl
  have S : CallFix p m c cX6_isTrouble 3 s ([.ref h, .int x1, .int x2] : List Value).toArray wsX6_isTrouble RX6 := S
  have hx := S.1
  have hb := S.2.1
  have hown : s.vm.findClass RX6 = some m.cls := S.2.2.2.1
  have hts := S.2.2.2.2
  have hinX6 : ∀ w ∈ wsX60, w ∈ wsX6_isTrouble := by decide +kernel
  refine lv_aload_n hx hb dX6_isTrouble_0 rfl (lv_at hl 0 rfl) ?_
  refine va_get (v := .ref (a 0)) (C := RX6) (T := TX6) (N := 6) (ci := 6) hx hb hts hinX6 hown hK hP 0 rfl rfl 0 (by decide) (hts (.fieldLink RX6 7 "AxleKeeperModel" "w" "[I") (by decide +kernel)) (fun _ h9 => h9) rfl dX6_isTrouble_1 ?_
  refine lv_iload_n hx hb dX6_isTrouble_4 rfl (lv_at hl 1 rfl) ?_
  refine lv_bipush (v := 9) hx hb dX6_isTrouble_5 (by decide) ?_
  refine lv_iadd hx hb dX6_isTrouble_7 ?_
  refine lv_iload_n hx hb dX6_isTrouble_8 rfl (lv_at hl 2 rfl) ?_
  refine lv_iadd hx hb dX6_isTrouble_9 ?_
  refine va_iald hx hb hK hP 1 0 rfl rfl (n := 1680) (vin3 (by assumption) (by assumption) (by decide)) dX6_isTrouble_10 ?_
  refine lv_if_lt (tgt := 23) hx hb dX6_isTrouble_11 (by decide) (fun c_11 => ?_) (fun c_11 => ?_)
  · have c_11 : (f 0 (ix ((x1 + 9) + x2))) < 0 := c_11
    refine lv_iconst (v := 1) hx hb dX6_isTrouble_23 (by decide) ?_
    refine lv_goto (tgt := 28) hx hb dX6_isTrouble_24 (by decide) ?_
    have hρ : kX6_isTrouble f x1 x2 = 1 := (if_pos c_11)
    exact e_rz hx hb hr hlk dX6_isTrouble_28 rfl hρ.symm
  have c_11 : ¬ ((f 0 (ix ((x1 + 9) + x2))) < 0) := c_11
  refine lv_aload_n hx hb dX6_isTrouble_14 rfl (lv_at hl 0 rfl) ?_
  refine lv_iload_n hx hb dX6_isTrouble_15 rfl (lv_at hl 1 rfl) ?_
  refine lv_iload_n hx hb dX6_isTrouble_16 rfl (lv_at hl 2 rfl) ?_
  refine k_rd (As := [.int x1, .int x2]) (rest := []) (bytes := cX6_hasBad) (C := RX6) S (okX6_hasBad l D cI cZ cQ h a X f x1 x2 (by assumption) (by assumption) (by assumption)) gX6_isTrouble_X6_hasBad rfl ⟨rfl, rfl⟩ ndX6_hasBad ⟨Nat.le_of_ble_eq_true rfl, Nat.le_of_ble_eq_true rfl⟩ hK hP 0 rfl rfl rfl hl rfl (Nat.le_of_ble_eq_true rfl) dX6_isTrouble_17 ⟨Nat.zero_le _, Nat.zero_le _⟩ ?_
  refine lv_if_eq (tgt := 27) hx hb dX6_isTrouble_20 (by decide) (fun c_20 => ?_) (fun c_20 => ?_)
  · have c_20 : (kX6_hasBad f x1 x2) = 0 := c_20
    refine lv_iconst (v := 0) hx hb dX6_isTrouble_27 (by decide) ?_
    have hρ : kX6_isTrouble f x1 x2 = 0 := (if_neg c_11).trans ((if_pos c_20))
    exact e_rz hx hb hr hlk dX6_isTrouble_28 rfl hρ.symm
  have c_20 : ¬ ((kX6_hasBad f x1 x2) = 0) := c_20
  refine lv_iconst (v := 1) hx hb dX6_isTrouble_23 (by decide) ?_
  refine lv_goto (tgt := 28) hx hb dX6_isTrouble_24 (by decide) ?_
  have hρ : kX6_isTrouble f x1 x2 = 1 := (if_neg c_11).trans ((if_neg c_20))
  exact e_rz hx hb hr hlk dX6_isTrouble_28 rfl hρ.symm
theorem ndX6_isJoint : yX6_isJoint.cls = RX6 ∧ yX6_isJoint.cls ≠ "java/lang/invoke/MethodHandle" ∧ yX6_isJoint.cls ≠ "java/lang/invoke/VarHandle" ∧ (parseMethodDescriptor yX6_isJoint.desc).map (fun d => d.parameters.length) = some 1 := by decide +kernel
set_option maxHeartbeats 4000000 in
set_option maxRecDepth 100000 in
theorem okX6_isJoint (l : Launch) (D : va_G) (cI cZ cQ : ClassId) (h : Nat) (a : Nat → Nat) (X : va_W) (f : Nat → Nat → Int32) (x1 : Int32) : Met l yX6_isJoint wsX6_isJoint ({ frames := 1, cells := 0, slots := 0, locals := 21 }) (PR [.ref h, .int x1] D (TY cI cZ cQ) (MW cI h a f ++ X)) (QR (kX6_isJoint f x1)) 0 0 (fun _ => False) := by
  refine m_rd (cc := cX6_isJoint) (maxL := 2) (ret := (some .boolean)) (by decide) rfl (Nat.le_of_ble_eq_true rfl) (lv0 := [(0, .ref h), (1, .int x1)]) rfl ?_
  intro p e s m below meth c ls S hr hlk hP hK hl
  have S : CallFix p m c cX6_isJoint 2 s ([.ref h, .int x1] : List Value).toArray wsX6_isJoint RX6 := S
  have hx := S.1
  have hb := S.2.1
  have hown : s.vm.findClass RX6 = some m.cls := S.2.2.2.1
  have hts := S.2.2.2.2
  refine lv_aload_n hx hb dX6_isJoint_0 rfl (lv_at hl 0 rfl) ?_
  refine lv_iload_n hx hb dX6_isJoint_1 rfl (lv_at hl 1 rfl) ?_
  refine k_rd (As := [.int x1]) (rest := []) (bytes := cX6_leftOf) (C := RX6) S (okX6_leftOf l D cI cZ cQ h a X f x1) gX6_isJoint_X6_leftOf rfl ⟨rfl, rfl⟩ ndX6_leftOf ⟨Nat.le_of_ble_eq_true rfl, Nat.le_of_ble_eq_true rfl⟩ hK hP 0 rfl rfl rfl hl rfl (Nat.le_of_ble_eq_true rfl) dX6_isJoint_2 ⟨Nat.zero_le _, Nat.zero_le _⟩ ?_
  refine lv_iconst (v := (-1)) hx hb dX6_isJoint_5 (by decide) ?_
  refine lv_icmp_eq (tgt := 35) hx hb dX6_isJoint_6 (by decide) (fun c_6 => ?_) (fun c_6 => ?_)
  · have c_6 : (kX6_leftOf f x1) = (-1) := c_6
    refine lv_iconst (v := 0) hx hb dX6_isJoint_35 (by decide) ?_
    have hρ : kX6_isJoint f x1 = 0 := (if_pos c_6)
    exact e_rz hx hb hr hlk dX6_isJoint_36 rfl hρ.symm
  have c_6 : ¬ ((kX6_leftOf f x1) = (-1)) := c_6
  refine lv_aload_n hx hb dX6_isJoint_9 rfl (lv_at hl 0 rfl) ?_
  refine lv_iload_n hx hb dX6_isJoint_10 rfl (lv_at hl 1 rfl) ?_
  refine k_rd (As := [.int x1]) (rest := []) (bytes := cX6_rightOf) (C := RX6) S (okX6_rightOf l D cI cZ cQ h a X f x1) gX6_isJoint_X6_rightOf rfl ⟨rfl, rfl⟩ ndX6_rightOf ⟨Nat.le_of_ble_eq_true rfl, Nat.le_of_ble_eq_true rfl⟩ hK hP 0 rfl rfl rfl hl rfl (Nat.le_of_ble_eq_true rfl) dX6_isJoint_11 ⟨Nat.zero_le _, Nat.zero_le _⟩ ?_
  refine lv_iconst (v := (-1)) hx hb dX6_isJoint_14 (by decide) ?_
  refine lv_icmp_eq (tgt := 35) hx hb dX6_isJoint_15 (by decide) (fun c_15 => ?_) (fun c_15 => ?_)
  · have c_15 : (kX6_rightOf f x1) = (-1) := c_15
    refine lv_iconst (v := 0) hx hb dX6_isJoint_35 (by decide) ?_
    have hρ : kX6_isJoint f x1 = 0 := (if_neg c_6).trans ((if_pos c_15))
    exact e_rz hx hb hr hlk dX6_isJoint_36 rfl hρ.symm
  have c_15 : ¬ ((kX6_rightOf f x1) = (-1)) := c_15
  refine lv_aload_n hx hb dX6_isJoint_18 rfl (lv_at hl 0 rfl) ?_
  refine lv_iload_n hx hb dX6_isJoint_19 rfl (lv_at hl 1 rfl) ?_
  refine k_rd (As := [.int x1]) (rest := []) (bytes := cX6_leftOf) (C := RX6) S (okX6_leftOf l D cI cZ cQ h a X f x1) gX6_isJoint_X6_leftOf rfl ⟨rfl, rfl⟩ ndX6_leftOf ⟨Nat.le_of_ble_eq_true rfl, Nat.le_of_ble_eq_true rfl⟩ hK hP 0 rfl rfl rfl hl rfl (Nat.le_of_ble_eq_true rfl) dX6_isJoint_20 ⟨Nat.zero_le _, Nat.zero_le _⟩ ?_
  refine lv_aload_n hx hb dX6_isJoint_23 rfl (lv_at hl 0 rfl) ?_
  refine lv_iload_n hx hb dX6_isJoint_24 rfl (lv_at hl 1 rfl) ?_
  refine k_rd (As := [.int x1]) (rest := [.int (kX6_leftOf f x1)]) (bytes := cX6_rightOf) (C := RX6) S (okX6_rightOf l D cI cZ cQ h a X f x1) gX6_isJoint_X6_rightOf rfl ⟨rfl, rfl⟩ ndX6_rightOf ⟨Nat.le_of_ble_eq_true rfl, Nat.le_of_ble_eq_true rfl⟩ hK hP 0 rfl rfl rfl hl rfl (Nat.le_of_ble_eq_true rfl) dX6_isJoint_25 ⟨Nat.zero_le _, Nat.zero_le _⟩ ?_
  refine lv_icmp_eq (tgt := 35) hx hb dX6_isJoint_28 (by decide) (fun c_28 => ?_) (fun c_28 => ?_)
  · have c_28 : (kX6_leftOf f x1) = (kX6_rightOf f x1) := c_28
    refine lv_iconst (v := 0) hx hb dX6_isJoint_35 (by decide) ?_
    have hρ : kX6_isJoint f x1 = 0 := (if_neg c_6).trans ((if_neg c_15).trans ((if_pos c_28)))
    exact e_rz hx hb hr hlk dX6_isJoint_36 rfl hρ.symm
  have c_28 : ¬ ((kX6_leftOf f x1) = (kX6_rightOf f x1)) := c_28
  refine lv_iconst (v := 1) hx hb dX6_isJoint_31 (by decide) ?_
  refine lv_goto (tgt := 36) hx hb dX6_isJoint_32 (by decide) ?_
  have hρ : kX6_isJoint f x1 = 1 := (if_neg c_6).trans ((if_neg c_15).trans ((if_neg c_28)))
  exact e_rz hx hb hr hlk dX6_isJoint_36 rfl hρ.symm
theorem ndX6_heal : yX6_heal.cls = RX6 ∧ yX6_heal.cls ≠ "java/lang/invoke/MethodHandle" ∧ yX6_heal.cls ≠ "java/lang/invoke/VarHandle" ∧ (parseMethodDescriptor yX6_heal.desc).map (fun d => d.parameters.length) = some 2 := by decide +kernel
set_option maxHeartbeats 4000000 in
set_option maxRecDepth 100000 in
theorem okX6_heal (l : Launch) (D : va_G) (cI cZ cQ : ClassId) (h : Nat) (a : Nat → Nat) (X : va_W) (f : Nat → Nat → Int32) (x1 x2 : Int32) (sz : Nat) (h1 : vp_in x1 1597) (h2 : vp_in x2 6) : Met l yX6_heal wsX6_heal ({ frames := 0, cells := 0, slots := 0, locals := 0 }) (PW [.ref h, .int x1, .int x2] sz D (TY cI cZ cQ) (MW cI h a f ++ X)) (QV D (TY cI cZ cQ) (MW cI h a (kX6_heal f x1 x2) ++ X) (va_A (MW cI h a f ++ X) sz)) 0 0 (va_A (MW cI h a f ++ X) sz) := by
  refine m_wr (cc := cX6_heal) (maxL := 3) (ret := none) (by decide) rfl (Nat.le_of_ble_eq_true rfl) (lv0 := [(0, .ref h), (1, .int x1), (2, .int x2)]) rfl ?_
  intro p e s m below meth c ls A hAe S hr hlk hP hK hD hS hA hl
  rw [← hAe]
  have S : CallFix p m c cX6_heal 3 s ([.ref h, .int x1, .int x2] : List Value).toArray wsX6_heal RX6 := S
  have hx := S.1
  have hb := S.2.1
  have hown : s.vm.findClass RX6 = some m.cls := S.2.2.2.1
  have hts := S.2.2.2.2
  have hinX6 : ∀ w ∈ wsX60, w ∈ wsX6_heal := by decide +kernel
  refine lv_aload_n hx hb dX6_heal_0 rfl (lv_at hl 0 rfl) ?_
  refine va_get (v := .ref (a 0)) (C := RX6) (T := TX6) (N := 6) (ci := 6) hx hb hts hinX6 hown hK hP 0 rfl rfl 0 (by decide) (hts (.fieldLink RX6 7 "AxleKeeperModel" "w" "[I") (by decide +kernel)) (fun _ h9 => h9) rfl dX6_heal_1 ?_
  refine lv_iload_n hx hb dX6_heal_4 rfl (lv_at hl 1 rfl) ?_
  refine lv_bipush (v := 9) hx hb dX6_heal_5 (by decide) ?_
  refine lv_iadd hx hb dX6_heal_7 ?_
  refine lv_iload_n hx hb dX6_heal_8 rfl (lv_at hl 2 rfl) ?_
  refine lv_iadd hx hb dX6_heal_9 ?_
  refine lv_iconst (v := 0) hx hb dX6_heal_10 (by decide) ?_
  refine st_M0 (x := 0) hx hb hK hP hD hS (vin3 (by assumption) (by assumption) (by decide)) dX6_heal_11 (fun H locs hP hD hS => ?_)
  refine lv_aload_n hx hb dX6_heal_12 rfl (lv_at hl 0 rfl) ?_
  refine va_get (v := .ref (a 0)) (C := RX6) (T := TX6) (N := 6) (ci := 6) hx hb hts hinX6 hown hK hP 0 rfl rfl 0 (by decide) (hts (.fieldLink RX6 7 "AxleKeeperModel" "w" "[I") (by decide +kernel)) (fun _ h9 => h9) rfl dX6_heal_13 ?_
  refine lv_iload_n hx hb dX6_heal_16 rfl (lv_at hl 1 rfl) ?_
  refine lv_iconst (v := 3) hx hb dX6_heal_17 (by decide) ?_
  refine lv_iadd hx hb dX6_heal_18 ?_
  refine lv_iload_n hx hb dX6_heal_19 rfl (lv_at hl 2 rfl) ?_
  refine lv_iadd hx hb dX6_heal_20 ?_
  refine lv_iconst (v := 0) hx hb dX6_heal_21 (by decide) ?_
  refine st_M0 (x := 0) hx hb hK hP hD hS (vin3 (by assumption) (by assumption) (by decide)) dX6_heal_22 (fun H locs hP hD hS => ?_)
  refine lv_aload_n hx hb dX6_heal_23 rfl (lv_at hl 0 rfl) ?_
  refine va_get (v := .ref (a 0)) (C := RX6) (T := TX6) (N := 6) (ci := 6) hx hb hts hinX6 hown hK hP 0 rfl rfl 0 (by decide) (hts (.fieldLink RX6 7 "AxleKeeperModel" "w" "[I") (by decide +kernel)) (fun _ h9 => h9) rfl dX6_heal_24 ?_
  refine lv_iload_n hx hb dX6_heal_27 rfl (lv_at hl 1 rfl) ?_
  refine lv_bipush (v := 21) hx hb dX6_heal_28 (by decide) ?_
  refine lv_iadd hx hb dX6_heal_30 ?_
  refine lv_iload_n hx hb dX6_heal_31 rfl (lv_at hl 2 rfl) ?_
  refine lv_iadd hx hb dX6_heal_32 ?_
  refine lv_iconst (v := 0) hx hb dX6_heal_33 (by decide) ?_
  refine st_M0 (x := 0) hx hb hK hP hD hS (vin3 (by assumption) (by assumption) (by decide)) dX6_heal_34 (fun H locs hP hD hS => ?_)
  have hρ : kX6_heal f x1 x2 = (up2 (up2 (up2 f 0 (ix ((x1 + 9) + x2)) 0) 0 (ix ((x1 + 3) + x2)) 0) 0 (ix ((x1 + 21) + x2)) 0) := rfl
  exact e_wv hx hb hr hlk hK hP hD hS dX6_heal_35 (congrArg (fun z => (MW cI h a z ++ X)) hρ).symm
