theorem ndX6_remember : yX6_remember.cls = RX6 ∧ yX6_remember.cls ≠ "java/lang/invoke/MethodHandle" ∧ yX6_remember.cls ≠ "java/lang/invoke/VarHandle" ∧ (parseMethodDescriptor yX6_remember.desc).map (fun d => d.parameters.length) = some 0 := by decide +kernel
set_option maxHeartbeats 4000000 in
set_option maxRecDepth 100000 in
theorem lpX6_remember_11 {p : Program} {e : Env} {s : State} {m : MethodId} {below : List Frame} {meth : Method} {c : Code} (l : Launch) (D : va_G) (cI cZ cQ : ClassId) (h : Nat) (a : Nat → Nat) (X : va_W) (A : Nat → Prop) (hA : ∀ q, s.heap.size ≤ q → A q) (S : CallFix p m c cX6_remember 2 s ([.ref h] : List Value).toArray wsX6_remember RX6) (hr : meth.sig.returnType = none) (hlk : meth.locks = false) (hK : va_K D vwCl (TY cI cZ cQ) s)  : ∀ (n i : Nat) (f : Nat → Nat → Int32) (H : Heap) (locs : List Loc), i ≤ 16 → 16 - i < n → (he : f 1 0 = 16) → va_P D vwCl (MW cI h a f ++ X) H → va_D A (MW cI h a f ++ X) → va_S A s.heap H locs → ∀ {ls : Array Slot}, lv_has ls 2 [(0, .ref h), (1, .int (nI i))] → ∀ ρ : (Nat → Nat → Int32), ρ = kX6_remember_11  n i f → W p l e { frames := 1, cells := 0, slots := 0, locals := 23 } s m ([.ref h] : List Value).toArray below meth c H locs 0 0 (MQ below (QV D (TY cI cZ cQ) (MW cI h a ρ ++ X) A) ([.ref h] : List Value).toArray s 0 0 A) (F0 m 11 ls []) := by
  have hx := S.1
  have hb := S.2.1
  have hown : s.vm.findClass RX6 = some m.cls := S.2.2.2.1
  have hts := S.2.2.2.2
  have hinX6 : ∀ w ∈ wsX60, w ∈ wsX6_remember := by decide +kernel
  intro n
  induction n with
  | zero =>
    intro i _ _ _ hi hn
    exact absurd hn (Nat.not_lt_zero _)
  | succ n ih =>
    intro i  f H locs hi hn he hP hD hS ls hl ρ hρ0
    refine lv_iload_n hx hb dX6_remember_11 rfl (lv_at hl 1 rfl) ?_
    refine lv_bipush (v := 16) hx hb dX6_remember_12 (by decide) ?_
    refine lv_icmp_ge (tgt := 37) hx hb dX6_remember_14 (by decide) (fun c_14 => ?_) (fun c_14 => ?_)
    · have c_14 : 16 ≤ (nI i) := c_14
      refine lv_aload_n hx hb dX6_remember_37 rfl (lv_at hl 0 rfl) ?_
      refine lv_dup hx hb dX6_remember_38 rfl ?_
      refine va_get (v := .int (f 1 0)) (C := RX6) (T := TX6) (N := 6) (ci := 6) hx hb hts hinX6 hown hK hP 0 rfl rfl 1 (by decide) (hts (.fieldLink RX6 98 "AxleKeeperModel" "known" "I") (by decide +kernel)) (fun _ h9 => h9) rfl dX6_remember_39 ?_
      refine lv_iconst (v := 1) hx hb dX6_remember_42 (by decide) ?_
      refine lv_isub hx hb dX6_remember_43 ?_
      refine pf_M1 (x := ((f 1 0) - 1)) S hinX6 hK hP hD hS (hts (.fieldLink RX6 98 "AxleKeeperModel" "known" "I") (by decide +kernel)) dX6_remember_44 (fun H locs hP hD hS => ?_)
      refine lv_aload_n hx hb dX6_remember_47 rfl (lv_at hl 0 rfl) ?_
      refine lv_iconst (v := 0) hx hb dX6_remember_48 (by decide) ?_
      refine lv_bipush (v := 84) hx hb dX6_remember_49 (by decide) ?_
      refine lv_aload_n hx hb dX6_remember_51 rfl (lv_at hl 0 rfl) ?_
      refine va_get (v := .int ((f 1 0) - 1)) (C := RX6) (T := TX6) (N := 6) (ci := 6) hx hb hts hinX6 hown hK hP 0 rfl rfl 1 (by decide) (hts (.fieldLink RX6 98 "AxleKeeperModel" "known" "I") (by decide +kernel)) (fun _ h9 => h9) rfl dX6_remember_52 ?_
      refine lv_iconst (v := 1) hx hb dX6_remember_55 (by decide) ?_
      refine lv_iadd hx hb dX6_remember_56 ?_
      refine lv_imul hx hb dX6_remember_57 ?_
      refine k_wv (As := [.int 0, .int (84 * (((f 1 0) - 1) + 1))]) (rest := []) (bytes := cX6_copyRow) (C := RX6) S (okX6_copyRow l D cI cZ cQ h a X (up2 f 1 0 ((f 1 0) - 1)) 0 (84 * (((f 1 0) - 1) + 1)) _ (vin_c (by decide)) (kn_a he)) gX6_remember_X6_copyRow rfl ⟨rfl, rfl⟩ ndX6_copyRow ⟨Nat.le_of_ble_eq_true rfl, Nat.le_of_ble_eq_true rfl⟩ hK hP hD hS hA 0 rfl rfl rfl hl rfl (Nat.le_of_ble_eq_true rfl) dX6_remember_58 ⟨Nat.zero_le _, Nat.zero_le _⟩ (fun H locs hP hD hS => ?_)
      have hP : va_P D vwCl (MW cI h a (kX6_copyRow (up2 f 1 0 ((f 1 0) - 1)) 0 (84 * (((f 1 0) - 1) + 1))) ++ X) H := hP
      have hD : va_D A (MW cI h a (kX6_copyRow (up2 f 1 0 ((f 1 0) - 1)) 0 (84 * (((f 1 0) - 1) + 1))) ++ X) := hD
      refine lv_aload_n hx hb dX6_remember_61 rfl (lv_at hl 0 rfl) ?_
      refine lv_dup hx hb dX6_remember_62 rfl ?_
      refine va_get (v := .int ((kX6_copyRow (up2 f 1 0 ((f 1 0) - 1)) 0 (84 * (((f 1 0) - 1) + 1))) 1 0)) (C := RX6) (T := TX6) (N := 6) (ci := 6) hx hb hts hinX6 hown hK hP 0 rfl rfl 1 (by decide) (hts (.fieldLink RX6 98 "AxleKeeperModel" "known" "I") (by decide +kernel)) (fun _ h9 => h9) rfl dX6_remember_63 ?_
      refine lv_iconst (v := 1) hx hb dX6_remember_66 (by decide) ?_
      refine lv_iadd hx hb dX6_remember_67 ?_
      refine pf_M1 (x := (((kX6_copyRow (up2 f 1 0 ((f 1 0) - 1)) 0 (84 * (((f 1 0) - 1) + 1))) 1 0) + 1)) S hinX6 hK hP hD hS (hts (.fieldLink RX6 98 "AxleKeeperModel" "known" "I") (by decide +kernel)) dX6_remember_68 (fun H locs hP hD hS => ?_)
      have hρ : kX6_remember_11  (n + 1) i f = (up2 (kX6_copyRow (up2 f 1 0 ((f 1 0) - 1)) 0 (84 * (((f 1 0) - 1) + 1))) 1 0 (((kX6_copyRow (up2 f 1 0 ((f 1 0) - 1)) 0 (84 * (((f 1 0) - 1) + 1))) 1 0) + 1)) := (if_pos c_14)
      have hρ := hρ0.trans hρ
      exact e_wv hx hb hr hlk hK hP hD hS dX6_remember_71 (congrArg (fun z => (MW cI h a z ++ X)) hρ).symm
    have c_14 : ¬ (16 ≤ (nI i)) := c_14
    have hlt : i < 16 := il_lt (Int32.le_refl _) (by decide) hi c_14
    refine lv_aload_n hx hb dX6_remember_17 rfl (lv_at hl 0 rfl) ?_
    refine lv_bipush (v := 84) hx hb dX6_remember_18 (by decide) ?_
    refine lv_iload_n hx hb dX6_remember_20 rfl (lv_at hl 1 rfl) ?_
    refine lv_iconst (v := 1) hx hb dX6_remember_21 (by decide) ?_
    refine lv_iadd hx hb dX6_remember_22 ?_
    refine lv_imul hx hb dX6_remember_23 ?_
    refine lv_bipush (v := 84) hx hb dX6_remember_24 (by decide) ?_
    refine lv_iload_n hx hb dX6_remember_26 rfl (lv_at hl 1 rfl) ?_
    refine lv_imul hx hb dX6_remember_27 ?_
    refine k_wv (As := [.int (84 * ((nI i) + 1)), .int (84 * (nI i))]) (rest := []) (bytes := cX6_copyRow) (C := RX6) S (okX6_copyRow l D cI cZ cQ h a X f (84 * ((nI i) + 1)) (84 * (nI i)) _ (m84s hlt) (m84 hlt)) gX6_remember_X6_copyRow rfl ⟨rfl, rfl⟩ ndX6_copyRow ⟨Nat.le_of_ble_eq_true rfl, Nat.le_of_ble_eq_true rfl⟩ hK hP hD hS hA 0 rfl rfl rfl hl rfl (Nat.le_of_ble_eq_true rfl) dX6_remember_28 ⟨Nat.zero_le _, Nat.zero_le _⟩ (fun H locs hP hD hS => ?_)
    have hP : va_P D vwCl (MW cI h a (kX6_copyRow f (84 * ((nI i) + 1)) (84 * (nI i))) ++ X) H := hP
    have hD : va_D A (MW cI h a (kX6_copyRow f (84 * ((nI i) + 1)) (84 * (nI i))) ++ X) := hD
    refine lv_iinc (v := (nI (i + 1))) (lv' := [(1, .int (nI (i + 1))), (0, .ref h)]) hx hb dX6_remember_31 hl (k := 1) rfl (nI_1 i) (by decide) rfl (fun ls hl => ?_)
    refine lv_goto (tgt := 11) hx hb dX6_remember_34 (by decide) ?_
    have hρ : kX6_remember_11  (n + 1) i f = kX6_remember_11  n (i + 1) (kX6_copyRow f (84 * ((nI i) + 1)) (84 * (nI i))) := (if_neg c_14)
    have hρ := hρ0.trans hρ
    exact ih  (i + 1)  (kX6_copyRow f (84 * ((nI i) + 1)) (84 * (nI i))) _ _ (by omega) (by omega) (cr_kn he) hP hD hS (lv_sub hl [1, 0] rfl) _ hρ
set_option maxHeartbeats 4000000 in
set_option maxRecDepth 100000 in
theorem okX6_remember (l : Launch) (D : va_G) (cI cZ cQ : ClassId) (h : Nat) (a : Nat → Nat) (X : va_W) (f : Nat → Nat → Int32) (sz : Nat) (hk : vp_in (f 1 0) 17) : Met l yX6_remember wsX6_remember ({ frames := 1, cells := 0, slots := 0, locals := 23 }) (PW [.ref h] sz D (TY cI cZ cQ) (MW cI h a f ++ X)) (QV D (TY cI cZ cQ) (MW cI h a (kX6_remember f) ++ X) (va_A (MW cI h a f ++ X) sz)) 0 0 (va_A (MW cI h a f ++ X) sz) := by
  refine m_wr (cc := cX6_remember) (maxL := 2) (ret := none) (by decide) rfl (Nat.le_of_ble_eq_true rfl) (lv0 := [(0, .ref h)]) rfl ?_
  intro p e s m below meth c ls A hAe S hr hlk hP hK hD hS hA hl
  rw [← hAe]
  have S : CallFix p m c cX6_remember 2 s ([.ref h] : List Value).toArray wsX6_remember RX6 := S
  have hx := S.1
  have hb := S.2.1
  have hown : s.vm.findClass RX6 = some m.cls := S.2.2.2.1
  have hts := S.2.2.2.2
  have hinX6 : ∀ w ∈ wsX60, w ∈ wsX6_remember := by decide +kernel
  refine lv_aload_n hx hb dX6_remember_0 rfl (lv_at hl 0 rfl) ?_
  refine va_get (v := .int (f 1 0)) (C := RX6) (T := TX6) (N := 6) (ci := 6) hx hb hts hinX6 hown hK hP 0 rfl rfl 1 (by decide) (hts (.fieldLink RX6 98 "AxleKeeperModel" "known" "I") (by decide +kernel)) (fun _ h9 => h9) rfl dX6_remember_1 ?_
  refine lv_bipush (v := 16) hx hb dX6_remember_4 (by decide) ?_
  refine lv_icmp_ne (tgt := 47) hx hb dX6_remember_6 (by decide) (fun c_6 => ?_) (fun c_6 => ?_)
  · have c_6 : ¬ ((f 1 0) = 16) := c_6
    refine lv_aload_n hx hb dX6_remember_47 rfl (lv_at hl 0 rfl) ?_
    refine lv_iconst (v := 0) hx hb dX6_remember_48 (by decide) ?_
    refine lv_bipush (v := 84) hx hb dX6_remember_49 (by decide) ?_
    refine lv_aload_n hx hb dX6_remember_51 rfl (lv_at hl 0 rfl) ?_
    refine va_get (v := .int (f 1 0)) (C := RX6) (T := TX6) (N := 6) (ci := 6) hx hb hts hinX6 hown hK hP 0 rfl rfl 1 (by decide) (hts (.fieldLink RX6 98 "AxleKeeperModel" "known" "I") (by decide +kernel)) (fun _ h9 => h9) rfl dX6_remember_52 ?_
    refine lv_iconst (v := 1) hx hb dX6_remember_55 (by decide) ?_
    refine lv_iadd hx hb dX6_remember_56 ?_
    refine lv_imul hx hb dX6_remember_57 ?_
    refine k_wv (As := [.int 0, .int (84 * ((f 1 0) + 1))]) (rest := []) (bytes := cX6_copyRow) (C := RX6) S (okX6_copyRow l D cI cZ cQ h a X f 0 (84 * ((f 1 0) + 1)) _ (vin_c (by decide)) (kn_b hk c_6)) gX6_remember_X6_copyRow rfl ⟨rfl, rfl⟩ ndX6_copyRow ⟨Nat.le_of_ble_eq_true rfl, Nat.le_of_ble_eq_true rfl⟩ hK hP hD hS hA 0 rfl rfl rfl hl rfl (Nat.le_of_ble_eq_true rfl) dX6_remember_58 ⟨Nat.zero_le _, Nat.zero_le _⟩ (fun H locs hP hD hS => ?_)
    have hP : va_P D vwCl (MW cI h a (kX6_copyRow f 0 (84 * ((f 1 0) + 1))) ++ X) H := hP
    have hD : va_D A (MW cI h a (kX6_copyRow f 0 (84 * ((f 1 0) + 1))) ++ X) := hD
    refine lv_aload_n hx hb dX6_remember_61 rfl (lv_at hl 0 rfl) ?_
    refine lv_dup hx hb dX6_remember_62 rfl ?_
    refine va_get (v := .int ((kX6_copyRow f 0 (84 * ((f 1 0) + 1))) 1 0)) (C := RX6) (T := TX6) (N := 6) (ci := 6) hx hb hts hinX6 hown hK hP 0 rfl rfl 1 (by decide) (hts (.fieldLink RX6 98 "AxleKeeperModel" "known" "I") (by decide +kernel)) (fun _ h9 => h9) rfl dX6_remember_63 ?_
    refine lv_iconst (v := 1) hx hb dX6_remember_66 (by decide) ?_
    refine lv_iadd hx hb dX6_remember_67 ?_
    refine pf_M1 (x := (((kX6_copyRow f 0 (84 * ((f 1 0) + 1))) 1 0) + 1)) S hinX6 hK hP hD hS (hts (.fieldLink RX6 98 "AxleKeeperModel" "known" "I") (by decide +kernel)) dX6_remember_68 (fun H locs hP hD hS => ?_)
    have hρ : kX6_remember f = (up2 (kX6_copyRow f 0 (84 * ((f 1 0) + 1))) 1 0 (((kX6_copyRow f 0 (84 * ((f 1 0) + 1))) 1 0) + 1)) := (if_neg c_6)
    exact e_wv hx hb hr hlk hK hP hD hS dX6_remember_71 (congrArg (fun z => (MW cI h a z ++ X)) hρ).symm
  have c_6 : (f 1 0) = 16 := c_6
  refine lv_iconst (v := 1) hx hb dX6_remember_9 (by decide) ?_
  refine lv_istore_n (lv' := [(1, .int 1), (0, .ref h)]) hx hb dX6_remember_10 rfl hl (by decide) rfl (fun ls hl => ?_)
  have hρ : kX6_remember f = kX6_remember_11  16 1 f := (if_pos c_6)
  exact lpX6_remember_11 l D cI cZ cQ h a X A hA S hr hlk hK   16 1  f _ _ (by omega) (by omega) c_6 hP hD hS (lv_sub hl [1, 0] rfl) _ hρ
theorem ndX6_line : yX6_line.cls = RX6 ∧ yX6_line.cls ≠ "java/lang/invoke/MethodHandle" ∧ yX6_line.cls ≠ "java/lang/invoke/VarHandle" ∧ (parseMethodDescriptor yX6_line.desc).map (fun d => d.parameters.length) = some 2 := by decide +kernel
set_option maxHeartbeats 4000000 in
set_option maxRecDepth 100000 in
theorem lpX6_line_27 {p : Program} {e : Env} {s : State} {m : MethodId} {below : List Frame} {meth : Method} {c : Code} (l : Launch) (D : va_G) (cI cZ cQ : ClassId) (h : Nat) (a : Nat → Nat) (X : va_W) (x1 x2 : Int32) (A : Nat → Prop) (hA : ∀ q, s.heap.size ≤ q → A q) (S : CallFix p m c cX6_line 4 s ([.ref h, .int x1, .int x2] : List Value).toArray wsX6_line RX6) (hr : meth.sig.returnType = (some .int)) (hlk : meth.locks = false) (hK : va_K D vwCl (TY cI cZ cQ) s)  : ∀ (n i : Nat) (f : Nat → Nat → Int32) (H : Heap) (locs : List Loc), i ≤ 83 → 83 - i < n → va_P D vwCl (MW cI h a f ++ X) H → va_D A (MW cI h a f ++ X) → va_S A s.heap H locs → ∀ {ls : Array Slot}, lv_has ls 4 [(0, .ref h), (1, .int x1), (2, .int x2), (3, .int (nI i))] → ∀ ρ : Int32 × (Nat → Nat → Int32), ρ = kX6_line_27 x1 x2 n i f → W p l e { frames := 2, cells := 0, slots := 0, locals := 44 } s m ([.ref h, .int x1, .int x2] : List Value).toArray below meth c H locs 0 0 (MQ below (QI ρ.1 D (TY cI cZ cQ) (MW cI h a ρ.2 ++ X) A) ([.ref h, .int x1, .int x2] : List Value).toArray s 0 0 A) (F0 m 27 ls []) := by
  have hx := S.1
  have hb := S.2.1
  have hown : s.vm.findClass RX6 = some m.cls := S.2.2.2.1
  have hts := S.2.2.2.2
  have hinX6 : ∀ w ∈ wsX60, w ∈ wsX6_line := by decide +kernel
  intro n
  induction n with
  | zero =>
    intro i _ _ _ hi hn
    exact absurd hn (Nat.not_lt_zero _)
  | succ n ih =>
    intro i  f H locs hi hn  hP hD hS ls hl ρ hρ0
    refine lv_iload_n hx hb dX6_line_27 rfl (lv_at hl 3 rfl) ?_
    refine lv_bipush (v := 83) hx hb dX6_line_28 (by decide) ?_
    refine lv_icmp_ge (tgt := 46) hx hb dX6_line_30 (by decide) (fun c_30 => ?_) (fun c_30 => ?_)
    · have c_30 : 83 ≤ (nI i) := c_30
      refine lv_aload_n hx hb dX6_line_46 rfl (lv_at hl 0 rfl) ?_
      refine va_get (v := .ref (a 0)) (C := RX6) (T := TX6) (N := 6) (ci := 6) hx hb hts hinX6 hown hK hP 0 rfl rfl 0 (by decide) (hts (.fieldLink RX6 7 "AxleKeeperModel" "w" "[I") (by decide +kernel)) (fun _ h9 => h9) rfl dX6_line_47 ?_
      refine lv_iconst (v := 0) hx hb dX6_line_50 (by decide) ?_
      refine lv_iload_n hx hb dX6_line_51 rfl (lv_at hl 1 rfl) ?_
      refine st_M0 (x := x1) hx hb hK hP hD hS (vin_c (by decide)) dX6_line_52 (fun H locs hP hD hS => ?_)
      refine lv_aload_n hx hb dX6_line_53 rfl (lv_at hl 0 rfl) ?_
      refine va_get (v := .ref (a 0)) (C := RX6) (T := TX6) (N := 6) (ci := 6) hx hb hts hinX6 hown hK hP 0 rfl rfl 0 (by decide) (hts (.fieldLink RX6 7 "AxleKeeperModel" "w" "[I") (by decide +kernel)) (fun _ h9 => h9) rfl dX6_line_54 ?_
      refine lv_iconst (v := 1) hx hb dX6_line_57 (by decide) ?_
      refine lv_iload_n hx hb dX6_line_58 rfl (lv_at hl 2 rfl) ?_
      refine lv_if_eq (tgt := 66) hx hb dX6_line_59 (by decide) (fun c_59 => ?_) (fun c_59 => ?_)
      · have c_59 : x2 = 0 := c_59
        refine lv_iconst (v := 0) hx hb dX6_line_66 (by decide) ?_
        refine st_M0 (x := 0) hx hb hK hP hD hS (vin_c (by decide)) dX6_line_67 (fun H locs hP hD hS => ?_)
        refine lv_aload_n hx hb dX6_line_68 rfl (lv_at hl 0 rfl) ?_
        refine lv_iconst (v := 0) hx hb dX6_line_69 (by decide) ?_
        refine pf_M5 (x := 0) S hinX6 hK hP hD hS (hts (.fieldLink RX6 74 "AxleKeeperModel" "written" "I") (by decide +kernel)) dX6_line_70 (fun H locs hP hD hS => ?_)
        refine lv_aload_n hx hb dX6_line_73 rfl (lv_at hl 0 rfl) ?_
        refine k_rd (As := []) (rest := []) (bytes := cX6_heads) (C := RX6) S (okX6_heads l D cI cZ cQ h a X (up2 (up2 (up2 f 0 (ix 0) x1) 0 (ix 1) 0) 5 0 0) ) gX6_line_X6_heads rfl ⟨rfl, rfl⟩ ndX6_heads ⟨Nat.le_of_ble_eq_true rfl, Nat.le_of_ble_eq_true rfl⟩ hK hP 0 rfl rfl rfl hl rfl (Nat.le_of_ble_eq_true rfl) dX6_line_74 ⟨Nat.zero_le _, Nat.zero_le _⟩ ?_
        have hρ : kX6_line_27 x1 x2 (n + 1) i f = ((kX6_heads (up2 (up2 (up2 f 0 (ix 0) x1) 0 (ix 1) 0) 5 0 0)), (up2 (up2 (up2 f 0 (ix 0) x1) 0 (ix 1) 0) 5 0 0)) := (if_pos c_30).trans ((if_pos c_59))
        have hρ := hρ0.trans hρ
        exact e_wi hx hb hr hlk hK hP hD hS dX6_line_77 (congrArg Prod.fst hρ).symm (congrArg (fun z => (MW cI h a z.2 ++ X)) hρ).symm
      have c_59 : ¬ (x2 = 0) := c_59
      refine lv_iconst (v := 1) hx hb dX6_line_62 (by decide) ?_
      refine lv_goto (tgt := 67) hx hb dX6_line_63 (by decide) ?_
      refine st_M0 (x := 1) hx hb hK hP hD hS (vin_c (by decide)) dX6_line_67 (fun H locs hP hD hS => ?_)
      refine lv_aload_n hx hb dX6_line_68 rfl (lv_at hl 0 rfl) ?_
      refine lv_iconst (v := 0) hx hb dX6_line_69 (by decide) ?_
      refine pf_M5 (x := 0) S hinX6 hK hP hD hS (hts (.fieldLink RX6 74 "AxleKeeperModel" "written" "I") (by decide +kernel)) dX6_line_70 (fun H locs hP hD hS => ?_)
      refine lv_aload_n hx hb dX6_line_73 rfl (lv_at hl 0 rfl) ?_
      refine k_rd (As := []) (rest := []) (bytes := cX6_heads) (C := RX6) S (okX6_heads l D cI cZ cQ h a X (up2 (up2 (up2 f 0 (ix 0) x1) 0 (ix 1) 1) 5 0 0) ) gX6_line_X6_heads rfl ⟨rfl, rfl⟩ ndX6_heads ⟨Nat.le_of_ble_eq_true rfl, Nat.le_of_ble_eq_true rfl⟩ hK hP 0 rfl rfl rfl hl rfl (Nat.le_of_ble_eq_true rfl) dX6_line_74 ⟨Nat.zero_le _, Nat.zero_le _⟩ ?_
      have hρ : kX6_line_27 x1 x2 (n + 1) i f = ((kX6_heads (up2 (up2 (up2 f 0 (ix 0) x1) 0 (ix 1) 1) 5 0 0)), (up2 (up2 (up2 f 0 (ix 0) x1) 0 (ix 1) 1) 5 0 0)) := (if_pos c_30).trans ((if_neg c_59))
      have hρ := hρ0.trans hρ
      exact e_wi hx hb hr hlk hK hP hD hS dX6_line_77 (congrArg Prod.fst hρ).symm (congrArg (fun z => (MW cI h a z.2 ++ X)) hρ).symm
    have c_30 : ¬ (83 ≤ (nI i)) := c_30
    have hlt : i < 83 := il_lt (Int32.le_refl _) (by decide) hi c_30
    refine lv_aload_n hx hb dX6_line_33 rfl (lv_at hl 0 rfl) ?_
    refine va_get (v := .ref (a 0)) (C := RX6) (T := TX6) (N := 6) (ci := 6) hx hb hts hinX6 hown hK hP 0 rfl rfl 0 (by decide) (hts (.fieldLink RX6 7 "AxleKeeperModel" "w" "[I") (by decide +kernel)) (fun _ h9 => h9) rfl dX6_line_34 ?_
    refine lv_iload_n hx hb dX6_line_37 rfl (lv_at hl 3 rfl) ?_
    refine lv_iconst (v := 0) hx hb dX6_line_38 (by decide) ?_
    refine st_M0 (x := 0) hx hb hK hP hD hS (vp_in_nI (by omega) (by decide)) dX6_line_39 (fun H locs hP hD hS => ?_)
    refine lv_iinc (v := (nI (i + 1))) (lv' := [(3, .int (nI (i + 1))), (0, .ref h), (1, .int x1), (2, .int x2)]) hx hb dX6_line_40 hl (k := 3) rfl (nI_1 i) (by decide) rfl (fun ls hl => ?_)
    refine lv_goto (tgt := 27) hx hb dX6_line_43 (by decide) ?_
    have hρ : kX6_line_27 x1 x2 (n + 1) i f = kX6_line_27 x1 x2 n (i + 1) (up2 f 0 (ix (nI i)) 0) := (if_neg c_30)
    have hρ := hρ0.trans hρ
    exact ih  (i + 1)  (up2 f 0 (ix (nI i)) 0) _ _ (by omega) (by omega)  hP hD hS (lv_sub hl [1, 2, 3, 0] rfl) _ hρ
set_option maxHeartbeats 4000000 in
set_option maxRecDepth 100000 in
theorem okX6_line (l : Launch) (D : va_G) (cI cZ cQ : ClassId) (h : Nat) (a : Nat → Nat) (X : va_W) (f : Nat → Nat → Int32) (x1 x2 : Int32) (sz : Nat) (hk : vp_in (f 1 0) 17) : Met l yX6_line wsX6_line ({ frames := 2, cells := 0, slots := 0, locals := 44 }) (PW [.ref h, .int x1, .int x2] sz D (TY cI cZ cQ) (MW cI h a f ++ X)) (QI (kX6_line f x1 x2).1 D (TY cI cZ cQ) (MW cI h a (kX6_line f x1 x2).2 ++ X) (va_A (MW cI h a f ++ X) sz)) 0 0 (va_A (MW cI h a f ++ X) sz) := by
  refine m_wr (cc := cX6_line) (maxL := 4) (ret := (some .int)) (by decide) rfl (Nat.le_of_ble_eq_true rfl) (lv0 := [(0, .ref h), (1, .int x1), (2, .int x2)]) rfl ?_
  intro p e s m below meth c ls A hAe S hr hlk hP hK hD hS hA hl
  rw [← hAe]
  have S : CallFix p m c cX6_line 4 s ([.ref h, .int x1, .int x2] : List Value).toArray wsX6_line RX6 := S
  have hx := S.1
  have hb := S.2.1
  have hown : s.vm.findClass RX6 = some m.cls := S.2.2.2.1
  have hts := S.2.2.2.2
  have hinX6 : ∀ w ∈ wsX60, w ∈ wsX6_line := by decide +kernel
  refine lv_iload_n hx hb dX6_line_0 rfl (lv_at hl 1 rfl) ?_
  refine lv_iload_n hx hb dX6_line_1 rfl (lv_at hl 2 rfl) ?_
  refine lv_if_eq (tgt := 9) hx hb dX6_line_2 (by decide) (fun c_2 => ?_) (fun c_2 => ?_)
  · have c_2 : x2 = 0 := c_2
    refine lv_iconst (v := 1) hx hb dX6_line_9 (by decide) ?_
    refine lv_bipush (v := 6) hx hb dX6_line_10 (by decide) ?_
    refine k_rs (As := [.int x1, .int 1, .int 6]) (rest := []) (bytes := cX6_in) S (okX6_in l D cI cZ cQ h a X f x1 1 6) gX6_line_X6_in rfl ⟨rfl, rfl⟩ ndX6_in ⟨Nat.le_of_ble_eq_true rfl, Nat.le_of_ble_eq_true rfl⟩ hK hP rfl hl rfl (Nat.le_of_ble_eq_true rfl) dX6_line_12 ⟨Nat.zero_le _, Nat.zero_le _⟩ ?_
    refine lv_if_ne (tgt := 21) hx hb dX6_line_15 (by decide) (fun c_15 => ?_) (fun c_15 => ?_)
    · have c_15 : ¬ ((kX6_in f x1 1 6) = 0) := c_15
      refine lv_aload_n hx hb dX6_line_21 rfl (lv_at hl 0 rfl) ?_
      refine k_wv (As := []) (rest := []) (bytes := cX6_remember) (C := RX6) S (okX6_remember l D cI cZ cQ h a X f _ (by assumption)) gX6_line_X6_remember rfl ⟨rfl, rfl⟩ ndX6_remember ⟨Nat.le_of_ble_eq_true rfl, Nat.le_of_ble_eq_true rfl⟩ hK hP hD hS hA 0 rfl rfl rfl hl rfl (Nat.le_of_ble_eq_true rfl) dX6_line_22 ⟨Nat.zero_le _, Nat.zero_le _⟩ (fun H locs hP hD hS => ?_)
      have hP : va_P D vwCl (MW cI h a (kX6_remember f) ++ X) H := hP
      have hD : va_D A (MW cI h a (kX6_remember f) ++ X) := hD
      refine lv_iconst (v := 1) hx hb dX6_line_25 (by decide) ?_
      refine lv_istore_n (lv' := [(3, .int 1), (0, .ref h), (1, .int x1), (2, .int x2)]) hx hb dX6_line_26 rfl hl (by decide) rfl (fun ls hl => ?_)
      have hρ : kX6_line f x1 x2 = kX6_line_27 x1 x2 83 1 (kX6_remember f) := (if_pos c_2).trans ((if_neg c_15))
      exact lpX6_line_27 l D cI cZ cQ h a X x1 x2 A hA S hr hlk hK   83 1  (kX6_remember f) _ _ (by omega) (by omega)  hP hD hS (lv_sub hl [1, 2, 3, 0] rfl) _ hρ
    have c_15 : (kX6_in f x1 1 6) = 0 := c_15
    refine lv_ldc (v := (-1000000002)) hx hb hown (hts (.constant RX6 101 (-1000000002)) (by decide +kernel)) dX6_line_18 ?_
    have hρ : kX6_line f x1 x2 = ((-1000000002), f) := (if_pos c_2).trans ((if_pos c_15))
    exact e_wi hx hb hr hlk hK hP hD hS dX6_line_20 (congrArg Prod.fst hρ).symm (congrArg (fun z => (MW cI h a z.2 ++ X)) hρ).symm
  have c_2 : ¬ (x2 = 0) := c_2
  refine lv_iconst (v := 2) hx hb dX6_line_5 (by decide) ?_
  refine lv_goto (tgt := 10) hx hb dX6_line_6 (by decide) ?_
  refine lv_bipush (v := 6) hx hb dX6_line_10 (by decide) ?_
  refine k_rs (As := [.int x1, .int 2, .int 6]) (rest := []) (bytes := cX6_in) S (okX6_in l D cI cZ cQ h a X f x1 2 6) gX6_line_X6_in rfl ⟨rfl, rfl⟩ ndX6_in ⟨Nat.le_of_ble_eq_true rfl, Nat.le_of_ble_eq_true rfl⟩ hK hP rfl hl rfl (Nat.le_of_ble_eq_true rfl) dX6_line_12 ⟨Nat.zero_le _, Nat.zero_le _⟩ ?_
  refine lv_if_ne (tgt := 21) hx hb dX6_line_15 (by decide) (fun c_15 => ?_) (fun c_15 => ?_)
  · have c_15 : ¬ ((kX6_in f x1 2 6) = 0) := c_15
    refine lv_aload_n hx hb dX6_line_21 rfl (lv_at hl 0 rfl) ?_
    refine k_wv (As := []) (rest := []) (bytes := cX6_remember) (C := RX6) S (okX6_remember l D cI cZ cQ h a X f _ (by assumption)) gX6_line_X6_remember rfl ⟨rfl, rfl⟩ ndX6_remember ⟨Nat.le_of_ble_eq_true rfl, Nat.le_of_ble_eq_true rfl⟩ hK hP hD hS hA 0 rfl rfl rfl hl rfl (Nat.le_of_ble_eq_true rfl) dX6_line_22 ⟨Nat.zero_le _, Nat.zero_le _⟩ (fun H locs hP hD hS => ?_)
    have hP : va_P D vwCl (MW cI h a (kX6_remember f) ++ X) H := hP
    have hD : va_D A (MW cI h a (kX6_remember f) ++ X) := hD
    refine lv_iconst (v := 1) hx hb dX6_line_25 (by decide) ?_
    refine lv_istore_n (lv' := [(3, .int 1), (0, .ref h), (1, .int x1), (2, .int x2)]) hx hb dX6_line_26 rfl hl (by decide) rfl (fun ls hl => ?_)
    have hρ : kX6_line f x1 x2 = kX6_line_27 x1 x2 83 1 (kX6_remember f) := (if_neg c_2).trans ((if_neg c_15))
    exact lpX6_line_27 l D cI cZ cQ h a X x1 x2 A hA S hr hlk hK   83 1  (kX6_remember f) _ _ (by omega) (by omega)  hP hD hS (lv_sub hl [1, 2, 3, 0] rfl) _ hρ
  have c_15 : (kX6_in f x1 2 6) = 0 := c_15
  refine lv_ldc (v := (-1000000002)) hx hb hown (hts (.constant RX6 101 (-1000000002)) (by decide +kernel)) dX6_line_18 ?_
  have hρ : kX6_line f x1 x2 = ((-1000000002), f) := (if_neg c_2).trans ((if_pos c_15))
  exact e_wi hx hb hr hlk hK hP hD hS dX6_line_20 (congrArg Prod.fst hρ).symm (congrArg (fun z => (MW cI h a z.2 ++ X)) hρ).symm
theorem ndX6_feelOne : yX6_feelOne.cls = RX6 ∧ yX6_feelOne.cls ≠ "java/lang/invoke/MethodHandle" ∧ yX6_feelOne.cls ≠ "java/lang/invoke/VarHandle" ∧ (parseMethodDescriptor yX6_feelOne.desc).map (fun d => d.parameters.length) = some 2 := by decide +kernel
set_option maxHeartbeats 4000000 in
set_option maxRecDepth 100000 in
theorem okX6_feelOne (l : Launch) (D : va_G) (cI cZ cQ : ClassId) (h : Nat) (a : Nat → Nat) (X : va_W) (f : Nat → Nat → Int32) (x1 x2 : Int32) (sz : Nat) (h1 : vp_in x1 7) : Met l yX6_feelOne wsX6_feelOne ({ frames := 1, cells := 0, slots := 0, locals := 20 }) (PW [.ref h, .int x1, .int x2] sz D (TY cI cZ cQ) (MW cI h a f ++ X)) (QI (kX6_feelOne f x1 x2).1 D (TY cI cZ cQ) (MW cI h a (kX6_feelOne f x1 x2).2 ++ X) (va_A (MW cI h a f ++ X) sz)) 0 0 (va_A (MW cI h a f ++ X) sz) := by
  refine m_wr (cc := cX6_feelOne) (maxL := 5) (ret := (some .int)) (by decide) rfl (Nat.le_of_ble_eq_true rfl) (lv0 := [(0, .ref h), (1, .int x1), (2, .int x2)]) rfl ?_
  intro p e s m below meth c ls A hAe S hr hlk hP hK hD hS hA hl
  rw [← hAe]
  have S : CallFix p m c cX6_feelOne 5 s ([.ref h, .int x1, .int x2] : List Value).toArray wsX6_feelOne RX6 := S
  have hx := S.1
  have hb := S.2.1
  have hown : s.vm.findClass RX6 = some m.cls := S.2.2.2.1
  have hts := S.2.2.2.2
  have hinX6 : ∀ w ∈ wsX60, w ∈ wsX6_feelOne := by decide +kernel
  refine lv_iload_n hx hb dX6_feelOne_0 rfl (lv_at hl 2 rfl) ?_
  refine k_rs (As := [.int x2]) (rest := []) (bytes := cX6_placeOf) S (okX6_placeOf l D cI cZ cQ h a X f x2) gX6_feelOne_X6_placeOf rfl ⟨rfl, rfl⟩ ndX6_placeOf ⟨Nat.le_of_ble_eq_true rfl, Nat.le_of_ble_eq_true rfl⟩ hK hP rfl hl rfl (Nat.le_of_ble_eq_true rfl) dX6_feelOne_1 ⟨Nat.zero_le _, Nat.zero_le _⟩ ?_
  refine lv_aload_n hx hb dX6_feelOne_4 rfl (lv_at hl 0 rfl) ?_
  refine va_get (v := .ref (a 0)) (C := RX6) (T := TX6) (N := 6) (ci := 6) hx hb hts hinX6 hown hK hP 0 rfl rfl 0 (by decide) (hts (.fieldLink RX6 7 "AxleKeeperModel" "w" "[I") (by decide +kernel)) (fun _ h9 => h9) rfl dX6_feelOne_5 ?_
  refine lv_bipush (v := 27) hx hb dX6_feelOne_8 (by decide) ?_
  refine lv_iload_n hx hb dX6_feelOne_10 rfl (lv_at hl 1 rfl) ?_
  refine lv_iadd hx hb dX6_feelOne_11 ?_
  refine va_iald hx hb hK hP 1 0 rfl rfl (n := 1680) (vin2 (by assumption) (by decide)) dX6_feelOne_12 ?_
  refine k_rs (As := [.int (f 0 (ix (27 + x1)))]) (rest := [.int (kX6_placeOf f x2)]) (bytes := cX6_placeOf) S (okX6_placeOf l D cI cZ cQ h a X f (f 0 (ix (27 + x1)))) gX6_feelOne_X6_placeOf rfl ⟨rfl, rfl⟩ ndX6_placeOf ⟨Nat.le_of_ble_eq_true rfl, Nat.le_of_ble_eq_true rfl⟩ hK hP rfl hl rfl (Nat.le_of_ble_eq_true rfl) dX6_feelOne_13 ⟨Nat.zero_le _, Nat.zero_le _⟩ ?_
  refine lv_isub hx hb dX6_feelOne_16 ?_
  refine lv_iconst (v := 4) hx hb dX6_feelOne_17 (by decide) ?_
  refine lv_iadd hx hb dX6_feelOne_18 ?_
  refine lv_iconst (v := 4) hx hb dX6_feelOne_19 (by decide) ?_
  refine lv_irem hx hb dX6_feelOne_20 (by decide) ?_
  refine lv_istore_n (lv' := [(3, .int (remI (((kX6_placeOf f x2) - (kX6_placeOf f (f 0 (ix (27 + x1))))) + 4) 4)), (0, .ref h), (1, .int x1), (2, .int x2)]) hx hb dX6_feelOne_21 rfl hl (by decide) rfl (fun ls hl => ?_)
  refine lv_iload_n hx hb dX6_feelOne_22 rfl (lv_at hl 0 rfl) ?_
  refine lv_iconst (v := 2) hx hb dX6_feelOne_23 (by decide) ?_
  refine lv_icmp_ne (tgt := 39) hx hb dX6_feelOne_24 (by decide) (fun c_24 => ?_) (fun c_24 => ?_)
  · have c_24 : ¬ ((remI (((kX6_placeOf f x2) - (kX6_placeOf f (f 0 (ix (27 + x1))))) + 4) 4) = 2) := c_24
    refine lv_aload_n hx hb dX6_feelOne_39 rfl (lv_at hl 1 rfl) ?_
    refine va_get (v := .ref (a 0)) (C := RX6) (T := TX6) (N := 6) (ci := 6) hx hb hts hinX6 hown hK hP 0 rfl rfl 0 (by decide) (hts (.fieldLink RX6 7 "AxleKeeperModel" "w" "[I") (by decide +kernel)) (fun _ h9 => h9) rfl dX6_feelOne_40 ?_
    refine lv_bipush (v := 27) hx hb dX6_feelOne_43 (by decide) ?_
    refine lv_iload_n hx hb dX6_feelOne_45 rfl (lv_at hl 2 rfl) ?_
    refine lv_iadd hx hb dX6_feelOne_46 ?_
    refine lv_iload_n hx hb dX6_feelOne_47 rfl (lv_at hl 3 rfl) ?_
    refine st_M0 (x := x2) hx hb hK hP hD hS (vin2 (by assumption) (by decide)) dX6_feelOne_48 (fun H locs hP hD hS => ?_)
    refine lv_aload_n hx hb dX6_feelOne_49 rfl (lv_at hl 1 rfl) ?_
    refine va_get (v := .ref (a 0)) (C := RX6) (T := TX6) (N := 6) (ci := 6) hx hb hts hinX6 hown hK hP 0 rfl rfl 0 (by decide) (hts (.fieldLink RX6 7 "AxleKeeperModel" "w" "[I") (by decide +kernel)) (fun _ h9 => h9) rfl dX6_feelOne_50 ?_
    refine lv_bipush (v := 34) hx hb dX6_feelOne_53 (by decide) ?_
    refine lv_iload_n hx hb dX6_feelOne_55 rfl (lv_at hl 2 rfl) ?_
    refine lv_iadd hx hb dX6_feelOne_56 ?_
    refine lv_dup2_11 hx hb dX6_feelOne_57 rfl rfl ?_
    refine va_iald hx hb hK hP 1 0 rfl rfl (n := 1680) (vin2 (by assumption) (by decide)) dX6_feelOne_58 ?_
    refine lv_iload_n hx hb dX6_feelOne_59 rfl (lv_at hl 0 rfl) ?_
    refine lv_iconst (v := 1) hx hb dX6_feelOne_60 (by decide) ?_
    refine lv_icmp_ne (tgt := 68) hx hb dX6_feelOne_61 (by decide) (fun c_61 => ?_) (fun c_61 => ?_)
    · have c_61 : ¬ ((remI (((kX6_placeOf f x2) - (kX6_placeOf f (f 0 (ix (27 + x1))))) + 4) 4) = 1) := c_61
      refine lv_iconst (v := (-1)) hx hb dX6_feelOne_68 (by decide) ?_
      refine lv_iadd hx hb dX6_feelOne_69 ?_
      refine st_M0 (x := (((up2 f 0 (ix (27 + x1)) x2) 0 (ix (34 + x1))) + (-1))) hx hb hK hP hD hS (vin2 (by assumption) (by decide)) dX6_feelOne_70 (fun H locs hP hD hS => ?_)
      refine lv_aload_n hx hb dX6_feelOne_71 rfl (lv_at hl 1 rfl) ?_
      refine va_get (v := .ref (a 0)) (C := RX6) (T := TX6) (N := 6) (ci := 6) hx hb hts hinX6 hown hK hP 0 rfl rfl 0 (by decide) (hts (.fieldLink RX6 7 "AxleKeeperModel" "w" "[I") (by decide +kernel)) (fun _ h9 => h9) rfl dX6_feelOne_72 ?_
      refine lv_bipush (v := 34) hx hb dX6_feelOne_75 (by decide) ?_
      refine lv_iload_n hx hb dX6_feelOne_77 rfl (lv_at hl 2 rfl) ?_
      refine lv_iadd hx hb dX6_feelOne_78 ?_
      refine va_iald hx hb hK hP 1 0 rfl rfl (n := 1680) (vin2 (by assumption) (by decide)) dX6_feelOne_79 ?_
      refine lv_istore (lv' := [(4, .int ((up2 (up2 f 0 (ix (27 + x1)) x2) 0 (ix (34 + x1)) (((up2 f 0 (ix (27 + x1)) x2) 0 (ix (34 + x1))) + (-1))) 0 (ix (34 + x1)))), (3, .int (remI (((kX6_placeOf f x2) - (kX6_placeOf f (f 0 (ix (27 + x1))))) + 4) 4)), (0, .ref h), (1, .int x1), (2, .int x2)]) hx hb dX6_feelOne_80 hl (by decide) rfl (fun ls hl => ?_)
      refine lv_iload hx hb dX6_feelOne_82 (lv_at hl 0 rfl) ?_
      refine lv_iconst (v := 4) hx hb dX6_feelOne_84 (by decide) ?_
      refine lv_icmp_eq (tgt := 97) hx hb dX6_feelOne_85 (by decide) (fun c_85 => ?_) (fun c_85 => ?_)
      · have c_85 : ((up2 (up2 f 0 (ix (27 + x1)) x2) 0 (ix (34 + x1)) (((up2 f 0 (ix (27 + x1)) x2) 0 (ix (34 + x1))) + (-1))) 0 (ix (34 + x1))) = 4 := c_85
        refine lv_aload_n hx hb dX6_feelOne_97 rfl (lv_at hl 2 rfl) ?_
        refine va_get (v := .ref (a 0)) (C := RX6) (T := TX6) (N := 6) (ci := 6) hx hb hts hinX6 hown hK hP 0 rfl rfl 0 (by decide) (hts (.fieldLink RX6 7 "AxleKeeperModel" "w" "[I") (by decide +kernel)) (fun _ h9 => h9) rfl dX6_feelOne_98 ?_
        refine lv_bipush (v := 34) hx hb dX6_feelOne_101 (by decide) ?_
        refine lv_iload_n hx hb dX6_feelOne_103 rfl (lv_at hl 3 rfl) ?_
        refine lv_iadd hx hb dX6_feelOne_104 ?_
        refine lv_iconst (v := 0) hx hb dX6_feelOne_105 (by decide) ?_
        refine st_M0 (x := 0) hx hb hK hP hD hS (vin2 (by assumption) (by decide)) dX6_feelOne_106 (fun H locs hP hD hS => ?_)
        refine lv_aload_n hx hb dX6_feelOne_107 rfl (lv_at hl 2 rfl) ?_
        refine va_get (v := .ref (a 0)) (C := RX6) (T := TX6) (N := 6) (ci := 6) hx hb hts hinX6 hown hK hP 0 rfl rfl 0 (by decide) (hts (.fieldLink RX6 7 "AxleKeeperModel" "w" "[I") (by decide +kernel)) (fun _ h9 => h9) rfl dX6_feelOne_108 ?_
        refine lv_bipush (v := 41) hx hb dX6_feelOne_111 (by decide) ?_
        refine lv_iload_n hx hb dX6_feelOne_113 rfl (lv_at hl 3 rfl) ?_
        refine lv_iadd hx hb dX6_feelOne_114 ?_
        refine lv_dup2_11 hx hb dX6_feelOne_115 rfl rfl ?_
        refine va_iald hx hb hK hP 1 0 rfl rfl (n := 1680) (vin2 (by assumption) (by decide)) dX6_feelOne_116 ?_
        refine lv_iload hx hb dX6_feelOne_117 (lv_at hl 0 rfl) ?_
        refine lv_iconst (v := 4) hx hb dX6_feelOne_119 (by decide) ?_
        refine lv_icmp_ne (tgt := 127) hx hb dX6_feelOne_120 (by decide) (fun c_120 => absurd c_85 c_120) (fun c_120 => ?_)
        refine lv_iconst (v := 1) hx hb dX6_feelOne_123 (by decide) ?_
        refine lv_goto (tgt := 128) hx hb dX6_feelOne_124 (by decide) ?_
        refine lv_iadd hx hb dX6_feelOne_128 ?_
        refine st_M0 (x := (((up2 (up2 (up2 f 0 (ix (27 + x1)) x2) 0 (ix (34 + x1)) (((up2 f 0 (ix (27 + x1)) x2) 0 (ix (34 + x1))) + (-1))) 0 (ix (34 + x1)) 0) 0 (ix (41 + x1))) + 1)) hx hb hK hP hD hS (vin2 (by assumption) (by decide)) dX6_feelOne_129 (fun H locs hP hD hS => ?_)
        refine lv_iload hx hb dX6_feelOne_130 (lv_at hl 0 rfl) ?_
        refine lv_iconst (v := 4) hx hb dX6_feelOne_132 (by decide) ?_
        refine lv_icmp_ne (tgt := 140) hx hb dX6_feelOne_133 (by decide) (fun c_133 => absurd c_85 c_133) (fun c_133 => ?_)
        refine lv_iconst (v := 1) hx hb dX6_feelOne_136 (by decide) ?_
        refine lv_goto (tgt := 141) hx hb dX6_feelOne_137 (by decide) ?_
        have hρ : kX6_feelOne f x1 x2 = (1, (up2 (up2 (up2 (up2 f 0 (ix (27 + x1)) x2) 0 (ix (34 + x1)) (((up2 f 0 (ix (27 + x1)) x2) 0 (ix (34 + x1))) + (-1))) 0 (ix (34 + x1)) 0) 0 (ix (41 + x1)) (((up2 (up2 (up2 f 0 (ix (27 + x1)) x2) 0 (ix (34 + x1)) (((up2 f 0 (ix (27 + x1)) x2) 0 (ix (34 + x1))) + (-1))) 0 (ix (34 + x1)) 0) 0 (ix (41 + x1))) + 1))) := (if_neg c_24).trans ((if_neg c_61).trans ((if_pos c_85)))
        exact e_wi hx hb hr hlk hK hP hD hS dX6_feelOne_141 (congrArg Prod.fst hρ).symm (congrArg (fun z => (MW cI h a z.2 ++ X)) hρ).symm
      have c_85 : ¬ (((up2 (up2 f 0 (ix (27 + x1)) x2) 0 (ix (34 + x1)) (((up2 f 0 (ix (27 + x1)) x2) 0 (ix (34 + x1))) + (-1))) 0 (ix (34 + x1))) = 4) := c_85
      refine lv_iload hx hb dX6_feelOne_88 (lv_at hl 0 rfl) ?_
      refine lv_bipush (v := (-4)) hx hb dX6_feelOne_90 (by decide) ?_
      refine lv_icmp_eq (tgt := 97) hx hb dX6_feelOne_92 (by decide) (fun c_92 => ?_) (fun c_92 => ?_)
      · have c_92 : ((up2 (up2 f 0 (ix (27 + x1)) x2) 0 (ix (34 + x1)) (((up2 f 0 (ix (27 + x1)) x2) 0 (ix (34 + x1))) + (-1))) 0 (ix (34 + x1))) = (-4) := c_92
        refine lv_aload_n hx hb dX6_feelOne_97 rfl (lv_at hl 2 rfl) ?_
        refine va_get (v := .ref (a 0)) (C := RX6) (T := TX6) (N := 6) (ci := 6) hx hb hts hinX6 hown hK hP 0 rfl rfl 0 (by decide) (hts (.fieldLink RX6 7 "AxleKeeperModel" "w" "[I") (by decide +kernel)) (fun _ h9 => h9) rfl dX6_feelOne_98 ?_
        refine lv_bipush (v := 34) hx hb dX6_feelOne_101 (by decide) ?_
        refine lv_iload_n hx hb dX6_feelOne_103 rfl (lv_at hl 3 rfl) ?_
        refine lv_iadd hx hb dX6_feelOne_104 ?_
        refine lv_iconst (v := 0) hx hb dX6_feelOne_105 (by decide) ?_
        refine st_M0 (x := 0) hx hb hK hP hD hS (vin2 (by assumption) (by decide)) dX6_feelOne_106 (fun H locs hP hD hS => ?_)
        refine lv_aload_n hx hb dX6_feelOne_107 rfl (lv_at hl 2 rfl) ?_
        refine va_get (v := .ref (a 0)) (C := RX6) (T := TX6) (N := 6) (ci := 6) hx hb hts hinX6 hown hK hP 0 rfl rfl 0 (by decide) (hts (.fieldLink RX6 7 "AxleKeeperModel" "w" "[I") (by decide +kernel)) (fun _ h9 => h9) rfl dX6_feelOne_108 ?_
        refine lv_bipush (v := 41) hx hb dX6_feelOne_111 (by decide) ?_
        refine lv_iload_n hx hb dX6_feelOne_113 rfl (lv_at hl 3 rfl) ?_
        refine lv_iadd hx hb dX6_feelOne_114 ?_
        refine lv_dup2_11 hx hb dX6_feelOne_115 rfl rfl ?_
        refine va_iald hx hb hK hP 1 0 rfl rfl (n := 1680) (vin2 (by assumption) (by decide)) dX6_feelOne_116 ?_
        refine lv_iload hx hb dX6_feelOne_117 (lv_at hl 0 rfl) ?_
        refine lv_iconst (v := 4) hx hb dX6_feelOne_119 (by decide) ?_
        refine lv_icmp_ne (tgt := 127) hx hb dX6_feelOne_120 (by decide) (fun c_120 => ?_) (fun c_120 => absurd c_120 c_85)
        refine lv_iconst (v := (-1)) hx hb dX6_feelOne_127 (by decide) ?_
        refine lv_iadd hx hb dX6_feelOne_128 ?_
        refine st_M0 (x := (((up2 (up2 (up2 f 0 (ix (27 + x1)) x2) 0 (ix (34 + x1)) (((up2 f 0 (ix (27 + x1)) x2) 0 (ix (34 + x1))) + (-1))) 0 (ix (34 + x1)) 0) 0 (ix (41 + x1))) + (-1))) hx hb hK hP hD hS (vin2 (by assumption) (by decide)) dX6_feelOne_129 (fun H locs hP hD hS => ?_)
        refine lv_iload hx hb dX6_feelOne_130 (lv_at hl 0 rfl) ?_
        refine lv_iconst (v := 4) hx hb dX6_feelOne_132 (by decide) ?_
        refine lv_icmp_ne (tgt := 140) hx hb dX6_feelOne_133 (by decide) (fun c_133 => ?_) (fun c_133 => absurd c_133 c_85)
        refine lv_iconst (v := 2) hx hb dX6_feelOne_140 (by decide) ?_
        have hρ : kX6_feelOne f x1 x2 = (2, (up2 (up2 (up2 (up2 f 0 (ix (27 + x1)) x2) 0 (ix (34 + x1)) (((up2 f 0 (ix (27 + x1)) x2) 0 (ix (34 + x1))) + (-1))) 0 (ix (34 + x1)) 0) 0 (ix (41 + x1)) (((up2 (up2 (up2 f 0 (ix (27 + x1)) x2) 0 (ix (34 + x1)) (((up2 f 0 (ix (27 + x1)) x2) 0 (ix (34 + x1))) + (-1))) 0 (ix (34 + x1)) 0) 0 (ix (41 + x1))) + (-1)))) := (if_neg c_24).trans ((if_neg c_61).trans ((if_neg c_85).trans ((if_pos c_92))))
        exact e_wi hx hb hr hlk hK hP hD hS dX6_feelOne_141 (congrArg Prod.fst hρ).symm (congrArg (fun z => (MW cI h a z.2 ++ X)) hρ).symm
      have c_92 : ¬ (((up2 (up2 f 0 (ix (27 + x1)) x2) 0 (ix (34 + x1)) (((up2 f 0 (ix (27 + x1)) x2) 0 (ix (34 + x1))) + (-1))) 0 (ix (34 + x1))) = (-4)) := c_92
      refine lv_iconst (v := 0) hx hb dX6_feelOne_95 (by decide) ?_
      have hρ : kX6_feelOne f x1 x2 = (0, (up2 (up2 f 0 (ix (27 + x1)) x2) 0 (ix (34 + x1)) (((up2 f 0 (ix (27 + x1)) x2) 0 (ix (34 + x1))) + (-1)))) := (if_neg c_24).trans ((if_neg c_61).trans ((if_neg c_85).trans ((if_neg c_92))))
      exact e_wi hx hb hr hlk hK hP hD hS dX6_feelOne_96 (congrArg Prod.fst hρ).symm (congrArg (fun z => (MW cI h a z.2 ++ X)) hρ).symm
    have c_61 : (remI (((kX6_placeOf f x2) - (kX6_placeOf f (f 0 (ix (27 + x1))))) + 4) 4) = 1 := c_61
    refine lv_iconst (v := 1) hx hb dX6_feelOne_64 (by decide) ?_
    refine lv_goto (tgt := 69) hx hb dX6_feelOne_65 (by decide) ?_
    refine lv_iadd hx hb dX6_feelOne_69 ?_
    refine st_M0 (x := (((up2 f 0 (ix (27 + x1)) x2) 0 (ix (34 + x1))) + 1)) hx hb hK hP hD hS (vin2 (by assumption) (by decide)) dX6_feelOne_70 (fun H locs hP hD hS => ?_)
    refine lv_aload_n hx hb dX6_feelOne_71 rfl (lv_at hl 1 rfl) ?_
    refine va_get (v := .ref (a 0)) (C := RX6) (T := TX6) (N := 6) (ci := 6) hx hb hts hinX6 hown hK hP 0 rfl rfl 0 (by decide) (hts (.fieldLink RX6 7 "AxleKeeperModel" "w" "[I") (by decide +kernel)) (fun _ h9 => h9) rfl dX6_feelOne_72 ?_
    refine lv_bipush (v := 34) hx hb dX6_feelOne_75 (by decide) ?_
    refine lv_iload_n hx hb dX6_feelOne_77 rfl (lv_at hl 2 rfl) ?_
    refine lv_iadd hx hb dX6_feelOne_78 ?_
    refine va_iald hx hb hK hP 1 0 rfl rfl (n := 1680) (vin2 (by assumption) (by decide)) dX6_feelOne_79 ?_
    refine lv_istore (lv' := [(4, .int ((up2 (up2 f 0 (ix (27 + x1)) x2) 0 (ix (34 + x1)) (((up2 f 0 (ix (27 + x1)) x2) 0 (ix (34 + x1))) + 1)) 0 (ix (34 + x1)))), (3, .int (remI (((kX6_placeOf f x2) - (kX6_placeOf f (f 0 (ix (27 + x1))))) + 4) 4)), (0, .ref h), (1, .int x1), (2, .int x2)]) hx hb dX6_feelOne_80 hl (by decide) rfl (fun ls hl => ?_)
    refine lv_iload hx hb dX6_feelOne_82 (lv_at hl 0 rfl) ?_
    refine lv_iconst (v := 4) hx hb dX6_feelOne_84 (by decide) ?_
    refine lv_icmp_eq (tgt := 97) hx hb dX6_feelOne_85 (by decide) (fun c_85 => ?_) (fun c_85 => ?_)
    · have c_85 : ((up2 (up2 f 0 (ix (27 + x1)) x2) 0 (ix (34 + x1)) (((up2 f 0 (ix (27 + x1)) x2) 0 (ix (34 + x1))) + 1)) 0 (ix (34 + x1))) = 4 := c_85
      refine lv_aload_n hx hb dX6_feelOne_97 rfl (lv_at hl 2 rfl) ?_
      refine va_get (v := .ref (a 0)) (C := RX6) (T := TX6) (N := 6) (ci := 6) hx hb hts hinX6 hown hK hP 0 rfl rfl 0 (by decide) (hts (.fieldLink RX6 7 "AxleKeeperModel" "w" "[I") (by decide +kernel)) (fun _ h9 => h9) rfl dX6_feelOne_98 ?_
      refine lv_bipush (v := 34) hx hb dX6_feelOne_101 (by decide) ?_
      refine lv_iload_n hx hb dX6_feelOne_103 rfl (lv_at hl 3 rfl) ?_
      refine lv_iadd hx hb dX6_feelOne_104 ?_
      refine lv_iconst (v := 0) hx hb dX6_feelOne_105 (by decide) ?_
      refine st_M0 (x := 0) hx hb hK hP hD hS (vin2 (by assumption) (by decide)) dX6_feelOne_106 (fun H locs hP hD hS => ?_)
      refine lv_aload_n hx hb dX6_feelOne_107 rfl (lv_at hl 2 rfl) ?_
      refine va_get (v := .ref (a 0)) (C := RX6) (T := TX6) (N := 6) (ci := 6) hx hb hts hinX6 hown hK hP 0 rfl rfl 0 (by decide) (hts (.fieldLink RX6 7 "AxleKeeperModel" "w" "[I") (by decide +kernel)) (fun _ h9 => h9) rfl dX6_feelOne_108 ?_
      refine lv_bipush (v := 41) hx hb dX6_feelOne_111 (by decide) ?_
      refine lv_iload_n hx hb dX6_feelOne_113 rfl (lv_at hl 3 rfl) ?_
      refine lv_iadd hx hb dX6_feelOne_114 ?_
      refine lv_dup2_11 hx hb dX6_feelOne_115 rfl rfl ?_
      refine va_iald hx hb hK hP 1 0 rfl rfl (n := 1680) (vin2 (by assumption) (by decide)) dX6_feelOne_116 ?_
      refine lv_iload hx hb dX6_feelOne_117 (lv_at hl 0 rfl) ?_
      refine lv_iconst (v := 4) hx hb dX6_feelOne_119 (by decide) ?_
      refine lv_icmp_ne (tgt := 127) hx hb dX6_feelOne_120 (by decide) (fun c_120 => absurd c_85 c_120) (fun c_120 => ?_)
      refine lv_iconst (v := 1) hx hb dX6_feelOne_123 (by decide) ?_
      refine lv_goto (tgt := 128) hx hb dX6_feelOne_124 (by decide) ?_
      refine lv_iadd hx hb dX6_feelOne_128 ?_
      refine st_M0 (x := (((up2 (up2 (up2 f 0 (ix (27 + x1)) x2) 0 (ix (34 + x1)) (((up2 f 0 (ix (27 + x1)) x2) 0 (ix (34 + x1))) + 1)) 0 (ix (34 + x1)) 0) 0 (ix (41 + x1))) + 1)) hx hb hK hP hD hS (vin2 (by assumption) (by decide)) dX6_feelOne_129 (fun H locs hP hD hS => ?_)
      refine lv_iload hx hb dX6_feelOne_130 (lv_at hl 0 rfl) ?_
      refine lv_iconst (v := 4) hx hb dX6_feelOne_132 (by decide) ?_
      refine lv_icmp_ne (tgt := 140) hx hb dX6_feelOne_133 (by decide) (fun c_133 => absurd c_85 c_133) (fun c_133 => ?_)
      refine lv_iconst (v := 1) hx hb dX6_feelOne_136 (by decide) ?_
      refine lv_goto (tgt := 141) hx hb dX6_feelOne_137 (by decide) ?_
      have hρ : kX6_feelOne f x1 x2 = (1, (up2 (up2 (up2 (up2 f 0 (ix (27 + x1)) x2) 0 (ix (34 + x1)) (((up2 f 0 (ix (27 + x1)) x2) 0 (ix (34 + x1))) + 1)) 0 (ix (34 + x1)) 0) 0 (ix (41 + x1)) (((up2 (up2 (up2 f 0 (ix (27 + x1)) x2) 0 (ix (34 + x1)) (((up2 f 0 (ix (27 + x1)) x2) 0 (ix (34 + x1))) + 1)) 0 (ix (34 + x1)) 0) 0 (ix (41 + x1))) + 1))) := (if_neg c_24).trans ((if_pos c_61).trans ((if_pos c_85)))
      exact e_wi hx hb hr hlk hK hP hD hS dX6_feelOne_141 (congrArg Prod.fst hρ).symm (congrArg (fun z => (MW cI h a z.2 ++ X)) hρ).symm
    have c_85 : ¬ (((up2 (up2 f 0 (ix (27 + x1)) x2) 0 (ix (34 + x1)) (((up2 f 0 (ix (27 + x1)) x2) 0 (ix (34 + x1))) + 1)) 0 (ix (34 + x1))) = 4) := c_85
    refine lv_iload hx hb dX6_feelOne_88 (lv_at hl 0 rfl) ?_
    refine lv_bipush (v := (-4)) hx hb dX6_feelOne_90 (by decide) ?_
    refine lv_icmp_eq (tgt := 97) hx hb dX6_feelOne_92 (by decide) (fun c_92 => ?_) (fun c_92 => ?_)
    · have c_92 : ((up2 (up2 f 0 (ix (27 + x1)) x2) 0 (ix (34 + x1)) (((up2 f 0 (ix (27 + x1)) x2) 0 (ix (34 + x1))) + 1)) 0 (ix (34 + x1))) = (-4) := c_92
      refine lv_aload_n hx hb dX6_feelOne_97 rfl (lv_at hl 2 rfl) ?_
      refine va_get (v := .ref (a 0)) (C := RX6) (T := TX6) (N := 6) (ci := 6) hx hb hts hinX6 hown hK hP 0 rfl rfl 0 (by decide) (hts (.fieldLink RX6 7 "AxleKeeperModel" "w" "[I") (by decide +kernel)) (fun _ h9 => h9) rfl dX6_feelOne_98 ?_
      refine lv_bipush (v := 34) hx hb dX6_feelOne_101 (by decide) ?_
      refine lv_iload_n hx hb dX6_feelOne_103 rfl (lv_at hl 3 rfl) ?_
      refine lv_iadd hx hb dX6_feelOne_104 ?_
      refine lv_iconst (v := 0) hx hb dX6_feelOne_105 (by decide) ?_
      refine st_M0 (x := 0) hx hb hK hP hD hS (vin2 (by assumption) (by decide)) dX6_feelOne_106 (fun H locs hP hD hS => ?_)
      refine lv_aload_n hx hb dX6_feelOne_107 rfl (lv_at hl 2 rfl) ?_
      refine va_get (v := .ref (a 0)) (C := RX6) (T := TX6) (N := 6) (ci := 6) hx hb hts hinX6 hown hK hP 0 rfl rfl 0 (by decide) (hts (.fieldLink RX6 7 "AxleKeeperModel" "w" "[I") (by decide +kernel)) (fun _ h9 => h9) rfl dX6_feelOne_108 ?_
      refine lv_bipush (v := 41) hx hb dX6_feelOne_111 (by decide) ?_
      refine lv_iload_n hx hb dX6_feelOne_113 rfl (lv_at hl 3 rfl) ?_
      refine lv_iadd hx hb dX6_feelOne_114 ?_
      refine lv_dup2_11 hx hb dX6_feelOne_115 rfl rfl ?_
      refine va_iald hx hb hK hP 1 0 rfl rfl (n := 1680) (vin2 (by assumption) (by decide)) dX6_feelOne_116 ?_
      refine lv_iload hx hb dX6_feelOne_117 (lv_at hl 0 rfl) ?_
      refine lv_iconst (v := 4) hx hb dX6_feelOne_119 (by decide) ?_
      refine lv_icmp_ne (tgt := 127) hx hb dX6_feelOne_120 (by decide) (fun c_120 => ?_) (fun c_120 => absurd c_120 c_85)
      refine lv_iconst (v := (-1)) hx hb dX6_feelOne_127 (by decide) ?_
      refine lv_iadd hx hb dX6_feelOne_128 ?_
      refine st_M0 (x := (((up2 (up2 (up2 f 0 (ix (27 + x1)) x2) 0 (ix (34 + x1)) (((up2 f 0 (ix (27 + x1)) x2) 0 (ix (34 + x1))) + 1)) 0 (ix (34 + x1)) 0) 0 (ix (41 + x1))) + (-1))) hx hb hK hP hD hS (vin2 (by assumption) (by decide)) dX6_feelOne_129 (fun H locs hP hD hS => ?_)
      refine lv_iload hx hb dX6_feelOne_130 (lv_at hl 0 rfl) ?_
      refine lv_iconst (v := 4) hx hb dX6_feelOne_132 (by decide) ?_
      refine lv_icmp_ne (tgt := 140) hx hb dX6_feelOne_133 (by decide) (fun c_133 => ?_) (fun c_133 => absurd c_133 c_85)
      refine lv_iconst (v := 2) hx hb dX6_feelOne_140 (by decide) ?_
      have hρ : kX6_feelOne f x1 x2 = (2, (up2 (up2 (up2 (up2 f 0 (ix (27 + x1)) x2) 0 (ix (34 + x1)) (((up2 f 0 (ix (27 + x1)) x2) 0 (ix (34 + x1))) + 1)) 0 (ix (34 + x1)) 0) 0 (ix (41 + x1)) (((up2 (up2 (up2 f 0 (ix (27 + x1)) x2) 0 (ix (34 + x1)) (((up2 f 0 (ix (27 + x1)) x2) 0 (ix (34 + x1))) + 1)) 0 (ix (34 + x1)) 0) 0 (ix (41 + x1))) + (-1)))) := (if_neg c_24).trans ((if_pos c_61).trans ((if_neg c_85).trans ((if_pos c_92))))
      exact e_wi hx hb hr hlk hK hP hD hS dX6_feelOne_141 (congrArg Prod.fst hρ).symm (congrArg (fun z => (MW cI h a z.2 ++ X)) hρ).symm
    have c_92 : ¬ (((up2 (up2 f 0 (ix (27 + x1)) x2) 0 (ix (34 + x1)) (((up2 f 0 (ix (27 + x1)) x2) 0 (ix (34 + x1))) + 1)) 0 (ix (34 + x1))) = (-4)) := c_92
    refine lv_iconst (v := 0) hx hb dX6_feelOne_95 (by decide) ?_
    have hρ : kX6_feelOne f x1 x2 = (0, (up2 (up2 f 0 (ix (27 + x1)) x2) 0 (ix (34 + x1)) (((up2 f 0 (ix (27 + x1)) x2) 0 (ix (34 + x1))) + 1))) := (if_neg c_24).trans ((if_pos c_61).trans ((if_neg c_85).trans ((if_neg c_92))))
    exact e_wi hx hb hr hlk hK hP hD hS dX6_feelOne_96 (congrArg Prod.fst hρ).symm (congrArg (fun z => (MW cI h a z.2 ++ X)) hρ).symm
  have c_24 : (remI (((kX6_placeOf f x2) - (kX6_placeOf f (f 0 (ix (27 + x1))))) + 4) 4) = 2 := c_24
  refine lv_aload_n hx hb dX6_feelOne_27 rfl (lv_at hl 1 rfl) ?_
  refine va_get (v := .ref (a 0)) (C := RX6) (T := TX6) (N := 6) (ci := 6) hx hb hts hinX6 hown hK hP 0 rfl rfl 0 (by decide) (hts (.fieldLink RX6 7 "AxleKeeperModel" "w" "[I") (by decide +kernel)) (fun _ h9 => h9) rfl dX6_feelOne_28 ?_
  refine lv_bipush (v := 62) hx hb dX6_feelOne_31 (by decide) ?_
  refine lv_iload_n hx hb dX6_feelOne_33 rfl (lv_at hl 2 rfl) ?_
  refine lv_iadd hx hb dX6_feelOne_34 ?_
  refine lv_iconst (v := 1) hx hb dX6_feelOne_35 (by decide) ?_
  refine st_M0 (x := 1) hx hb hK hP hD hS (vin2 (by assumption) (by decide)) dX6_feelOne_36 (fun H locs hP hD hS => ?_)
  refine lv_iconst (v := 3) hx hb dX6_feelOne_37 (by decide) ?_
  have hρ : kX6_feelOne f x1 x2 = (3, (up2 f 0 (ix (62 + x1)) 1)) := (if_pos c_24)
  exact e_wi hx hb hr hlk hK hP hD hS dX6_feelOne_38 (congrArg Prod.fst hρ).symm (congrArg (fun z => (MW cI h a z.2 ++ X)) hρ).symm
theorem ndX6_feel : yX6_feel.cls = RX6 ∧ yX6_feel.cls ≠ "java/lang/invoke/MethodHandle" ∧ yX6_feel.cls ≠ "java/lang/invoke/VarHandle" ∧ (parseMethodDescriptor yX6_feel.desc).map (fun d => d.parameters.length) = some 2 := by decide +kernel
set_option maxHeartbeats 4000000 in
set_option maxRecDepth 100000 in
theorem okX6_feel (l : Launch) (D : va_G) (cI cZ cQ : ClassId) (h : Nat) (a : Nat → Nat) (X : va_W) (f : Nat → Nat → Int32) (x1 x2 : Int32) (sz : Nat) (hok : okM f) (hk : vp_in (f 1 0) 17) : Met l yX6_feel wsX6_feel ({ frames := 2, cells := 0, slots := 0, locals := 44 }) (PW [.ref h, .int x1, .int x2] sz D (TY cI cZ cQ) (MW cI h a f ++ X)) (QI (kX6_feel f x1 x2).1 D (TY cI cZ cQ) (MW cI h a (kX6_feel f x1 x2).2 ++ X) (va_A (MW cI h a f ++ X) sz)) 0 0 (va_A (MW cI h a f ++ X) sz) := by
  refine m_wr (cc := cX6_feel) (maxL := 3) (ret := (some .int)) (by decide) rfl (Nat.le_of_ble_eq_true rfl) (lv0 := [(0, .ref h), (1, .int x1), (2, .int x2)]) rfl ?_
  intro p e s m below meth c ls A hAe S hr hlk hP hK hD hS hA hl
  rw [← hAe]
  have S : CallFix p m c cX6_feel 3 s ([.ref h, .int x1, .int x2] : List Value).toArray wsX6_feel RX6 := S
  have hx := S.1
  have hb := S.2.1
  have hown : s.vm.findClass RX6 = some m.cls := S.2.2.2.1
  have hts := S.2.2.2.2
  have hinX6 : ∀ w ∈ wsX60, w ∈ wsX6_feel := by decide +kernel
  refine lv_aload_n hx hb dX6_feel_0 rfl (lv_at hl 0 rfl) ?_
  refine lv_iload_n hx hb dX6_feel_1 rfl (lv_at hl 1 rfl) ?_
  refine k_rd (As := [.int x1]) (rest := []) (bytes := cX6_isHead) (C := RX6) S (okX6_isHead l D cI cZ cQ h a X f x1) gX6_feel_X6_isHead rfl ⟨rfl, rfl⟩ ndX6_isHead ⟨Nat.le_of_ble_eq_true rfl, Nat.le_of_ble_eq_true rfl⟩ hK hP 0 rfl rfl rfl hl rfl (Nat.le_of_ble_eq_true rfl) dX6_feel_2 ⟨Nat.zero_le _, Nat.zero_le _⟩ ?_
  refine lv_if_ne (tgt := 11) hx hb dX6_feel_5 (by decide) (fun c_5 => ?_) (fun c_5 => ?_)
  · have c_5 : ¬ ((kX6_isHead f x1) = 0) := c_5
    have h7 : vp_in x1 7 := mh_in hok c_5
    refine lv_iload_n hx hb dX6_feel_11 rfl (lv_at hl 2 rfl) ?_
    refine lv_iconst (v := 0) hx hb dX6_feel_12 (by decide) ?_
    refine lv_iconst (v := 3) hx hb dX6_feel_13 (by decide) ?_
    refine k_rs (As := [.int x2, .int 0, .int 3]) (rest := []) (bytes := cX6_in) S (okX6_in l D cI cZ cQ h a X f x2 0 3) gX6_feel_X6_in rfl ⟨rfl, rfl⟩ ndX6_in ⟨Nat.le_of_ble_eq_true rfl, Nat.le_of_ble_eq_true rfl⟩ hK hP rfl hl rfl (Nat.le_of_ble_eq_true rfl) dX6_feel_14 ⟨Nat.zero_le _, Nat.zero_le _⟩ ?_
    refine lv_if_ne (tgt := 23) hx hb dX6_feel_17 (by decide) (fun c_17 => ?_) (fun c_17 => ?_)
    · have c_17 : ¬ ((kX6_in f x2 0 3) = 0) := c_17
      refine lv_aload_n hx hb dX6_feel_23 rfl (lv_at hl 0 rfl) ?_
      refine va_get (v := .ref (a 0)) (C := RX6) (T := TX6) (N := 6) (ci := 6) hx hb hts hinX6 hown hK hP 0 rfl rfl 0 (by decide) (hts (.fieldLink RX6 7 "AxleKeeperModel" "w" "[I") (by decide +kernel)) (fun _ h9 => h9) rfl dX6_feel_24 ?_
      refine lv_bipush (v := 62) hx hb dX6_feel_27 (by decide) ?_
      refine lv_iload_n hx hb dX6_feel_29 rfl (lv_at hl 1 rfl) ?_
      refine lv_iadd hx hb dX6_feel_30 ?_
      refine va_iald hx hb hK hP 1 0 rfl rfl (n := 1680) (vin2 (by assumption) (by decide)) dX6_feel_31 ?_
      refine lv_iconst (v := 1) hx hb dX6_feel_32 (by decide) ?_
      refine lv_icmp_eq (tgt := 49) hx hb dX6_feel_33 (by decide) (fun c_33 => ?_) (fun c_33 => ?_)
      · have c_33 : (f 0 (ix (62 + x1))) = 1 := c_33
        refine lv_ldc (v := (-1000000003)) hx hb hown (hts (.constant RX6 124 (-1000000003)) (by decide +kernel)) dX6_feel_49 ?_
        have hρ : kX6_feel f x1 x2 = ((-1000000003), f) := (if_neg c_5).trans ((if_neg c_17).trans ((if_pos c_33)))
        exact e_wi hx hb hr hlk hK hP hD hS dX6_feel_51 (congrArg Prod.fst hρ).symm (congrArg (fun z => (MW cI h a z.2 ++ X)) hρ).symm
      have c_33 : ¬ ((f 0 (ix (62 + x1))) = 1) := c_33
      refine lv_aload_n hx hb dX6_feel_36 rfl (lv_at hl 0 rfl) ?_
      refine va_get (v := .ref (a 0)) (C := RX6) (T := TX6) (N := 6) (ci := 6) hx hb hts hinX6 hown hK hP 0 rfl rfl 0 (by decide) (hts (.fieldLink RX6 7 "AxleKeeperModel" "w" "[I") (by decide +kernel)) (fun _ h9 => h9) rfl dX6_feel_37 ?_
      refine lv_bipush (v := 27) hx hb dX6_feel_40 (by decide) ?_
      refine lv_iload_n hx hb dX6_feel_42 rfl (lv_at hl 1 rfl) ?_
      refine lv_iadd hx hb dX6_feel_43 ?_
      refine va_iald hx hb hK hP 1 0 rfl rfl (n := 1680) (vin2 (by assumption) (by decide)) dX6_feel_44 ?_
      refine lv_iload_n hx hb dX6_feel_45 rfl (lv_at hl 2 rfl) ?_
      refine lv_icmp_ne (tgt := 52) hx hb dX6_feel_46 (by decide) (fun c_46 => ?_) (fun c_46 => ?_)
      · have c_46 : ¬ ((f 0 (ix (27 + x1))) = x2) := c_46
        refine lv_aload_n hx hb dX6_feel_52 rfl (lv_at hl 0 rfl) ?_
        refine k_wv (As := []) (rest := []) (bytes := cX6_remember) (C := RX6) S (okX6_remember l D cI cZ cQ h a X f _ (by assumption)) gX6_feel_X6_remember rfl ⟨rfl, rfl⟩ ndX6_remember ⟨Nat.le_of_ble_eq_true rfl, Nat.le_of_ble_eq_true rfl⟩ hK hP hD hS hA 0 rfl rfl rfl hl rfl (Nat.le_of_ble_eq_true rfl) dX6_feel_53 ⟨Nat.zero_le _, Nat.zero_le _⟩ (fun H locs hP hD hS => ?_)
        have hP : va_P D vwCl (MW cI h a (kX6_remember f) ++ X) H := hP
        have hD : va_D A (MW cI h a (kX6_remember f) ++ X) := hD
        refine lv_aload_n hx hb dX6_feel_56 rfl (lv_at hl 0 rfl) ?_
        refine lv_iload_n hx hb dX6_feel_57 rfl (lv_at hl 1 rfl) ?_
        refine lv_iload_n hx hb dX6_feel_58 rfl (lv_at hl 2 rfl) ?_
        refine k_wi (As := [.int x1, .int x2]) (rest := []) (bytes := cX6_feelOne) (C := RX6) S (okX6_feelOne l D cI cZ cQ h a X (kX6_remember f) x1 x2 _ (by assumption)) gX6_feel_X6_feelOne rfl ⟨rfl, rfl⟩ ndX6_feelOne ⟨Nat.le_of_ble_eq_true rfl, Nat.le_of_ble_eq_true rfl⟩ hK hP hD hS hA 0 rfl rfl rfl hl rfl (Nat.le_of_ble_eq_true rfl) dX6_feel_59 ⟨Nat.zero_le _, Nat.zero_le _⟩ (fun H locs hP hD hS => ?_)
        have hP : va_P D vwCl (MW cI h a (kX6_feelOne (kX6_remember f) x1 x2).2 ++ X) H := hP
        have hD : va_D A (MW cI h a (kX6_feelOne (kX6_remember f) x1 x2).2 ++ X) := hD
        have hρ : kX6_feel f x1 x2 = ((kX6_feelOne (kX6_remember f) x1 x2).1, (kX6_feelOne (kX6_remember f) x1 x2).2) := (if_neg c_5).trans ((if_neg c_17).trans ((if_neg c_33).trans ((if_neg c_46))))
        exact e_wi hx hb hr hlk hK hP hD hS dX6_feel_62 (congrArg Prod.fst hρ).symm (congrArg (fun z => (MW cI h a z.2 ++ X)) hρ).symm
      have c_46 : (f 0 (ix (27 + x1))) = x2 := c_46
      refine lv_ldc (v := (-1000000003)) hx hb hown (hts (.constant RX6 124 (-1000000003)) (by decide +kernel)) dX6_feel_49 ?_
      have hρ : kX6_feel f x1 x2 = ((-1000000003), f) := (if_neg c_5).trans ((if_neg c_17).trans ((if_neg c_33).trans ((if_pos c_46))))
      exact e_wi hx hb hr hlk hK hP hD hS dX6_feel_51 (congrArg Prod.fst hρ).symm (congrArg (fun z => (MW cI h a z.2 ++ X)) hρ).symm
    have c_17 : (kX6_in f x2 0 3) = 0 := c_17
    refine lv_ldc (v := (-1000000002)) hx hb hown (hts (.constant RX6 101 (-1000000002)) (by decide +kernel)) dX6_feel_20 ?_
    have hρ : kX6_feel f x1 x2 = ((-1000000002), f) := (if_neg c_5).trans ((if_pos c_17))
    exact e_wi hx hb hr hlk hK hP hD hS dX6_feel_22 (congrArg Prod.fst hρ).symm (congrArg (fun z => (MW cI h a z.2 ++ X)) hρ).symm
  have c_5 : (kX6_isHead f x1) = 0 := c_5
  refine lv_ldc (v := (-1000000001)) hx hb hown (hts (.constant RX6 102 (-1000000001)) (by decide +kernel)) dX6_feel_8 ?_
  have hρ : kX6_feel f x1 x2 = ((-1000000001), f) := (if_pos c_5)
  exact e_wi hx hb hr hlk hK hP hD hS dX6_feel_10 (congrArg Prod.fst hρ).symm (congrArg (fun z => (MW cI h a z.2 ++ X)) hρ).symm
theorem ndX6_canGo : yX6_canGo.cls = RX6 ∧ yX6_canGo.cls ≠ "java/lang/invoke/MethodHandle" ∧ yX6_canGo.cls ≠ "java/lang/invoke/VarHandle" ∧ (parseMethodDescriptor yX6_canGo.desc).map (fun d => d.parameters.length) = some 3 := by decide +kernel
set_option maxHeartbeats 4000000 in
set_option maxRecDepth 100000 in
theorem okX6_canGo (l : Launch) (D : va_G) (cI cZ cQ : ClassId) (h : Nat) (a : Nat → Nat) (X : va_W) (f : Nat → Nat → Int32) (x1 x2 x3 : Int32) (hok : okM f) (h1 : vp_in x1 7) : Met l yX6_canGo wsX6_canGo ({ frames := 1, cells := 0, slots := 0, locals := 21 }) (PR [.ref h, .int x1, .int x2, .int x3] D (TY cI cZ cQ) (MW cI h a f ++ X)) (QR (kX6_canGo f x1 x2 x3)) 0 0 (fun _ => False) := by
  refine m_rd (cc := cX6_canGo) (maxL := 5) (ret := (some .boolean)) (by decide) rfl (Nat.le_of_ble_eq_true rfl) (lv0 := [(0, .ref h), (1, .int x1), (2, .int x2), (3, .int x3)]) rfl ?_
  intro p e s m below meth c ls S hr hlk hP hK hl
  have S : CallFix p m c cX6_canGo 5 s ([.ref h, .int x1, .int x2, .int x3] : List Value).toArray wsX6_canGo RX6 := S
  have hx := S.1
  have hb := S.2.1
  have hown : s.vm.findClass RX6 = some m.cls := S.2.2.2.1
  have hts := S.2.2.2.2
  have hinX6 : ∀ w ∈ wsX60, w ∈ wsX6_canGo := by decide +kernel
  refine lv_iload_n hx hb dX6_canGo_0 rfl (lv_at hl 2 rfl) ?_
  refine lv_if_ne (tgt := 12) hx hb dX6_canGo_1 (by decide) (fun c_1 => ?_) (fun c_1 => ?_)
  · have c_1 : ¬ (x2 = 0) := c_1
    refine lv_aload_n hx hb dX6_canGo_12 rfl (lv_at hl 0 rfl) ?_
    refine lv_iload_n hx hb dX6_canGo_13 rfl (lv_at hl 1 rfl) ?_
    refine k_rd (As := [.int x1]) (rest := []) (bytes := cX6_rightOf) (C := RX6) S (okX6_rightOf l D cI cZ cQ h a X f x1) gX6_canGo_X6_rightOf rfl ⟨rfl, rfl⟩ ndX6_rightOf ⟨Nat.le_of_ble_eq_true rfl, Nat.le_of_ble_eq_true rfl⟩ hK hP 0 rfl rfl rfl hl rfl (Nat.le_of_ble_eq_true rfl) dX6_canGo_14 ⟨Nat.zero_le _, Nat.zero_le _⟩ ?_
    refine lv_istore (lv' := [(4, .int (kX6_rightOf f x1)), (0, .ref h), (1, .int x1), (2, .int x2), (3, .int x3)]) hx hb dX6_canGo_17 hl (by decide) rfl (fun ls hl => ?_)
    refine lv_iload hx hb dX6_canGo_19 (lv_at hl 0 rfl) ?_
    refine lv_iconst (v := (-1)) hx hb dX6_canGo_21 (by decide) ?_
    refine lv_icmp_eq (tgt := 39) hx hb dX6_canGo_22 (by decide) (fun c_22 => ?_) (fun c_22 => ?_)
    · have c_22 : (kX6_rightOf f x1) = (-1) := c_22
      refine lv_iconst (v := 1) hx hb dX6_canGo_39 (by decide) ?_
      refine lv_goto (tgt := 44) hx hb dX6_canGo_40 (by decide) ?_
      have hρ : kX6_canGo f x1 x2 x3 = 1 := (if_neg c_1).trans ((if_pos c_22))
      exact e_rz hx hb hr hlk dX6_canGo_44 rfl hρ.symm
    have c_22 : ¬ ((kX6_rightOf f x1) = (-1)) := c_22
    have hv1 : vp_in _ 6 := (by first | exact ml_in hok h1 c_22 | exact mr_in hok h1 c_22)
    refine lv_aload_n hx hb dX6_canGo_25 rfl (lv_at hl 1 rfl) ?_
    refine va_get (v := .ref (a 0)) (C := RX6) (T := TX6) (N := 6) (ci := 6) hx hb hts hinX6 hown hK hP 0 rfl rfl 0 (by decide) (hts (.fieldLink RX6 7 "AxleKeeperModel" "w" "[I") (by decide +kernel)) (fun _ h9 => h9) rfl dX6_canGo_26 ?_
    refine lv_bipush (v := 15) hx hb dX6_canGo_29 (by decide) ?_
    refine lv_iload hx hb dX6_canGo_31 (lv_at hl 0 rfl) ?_
    refine lv_iadd hx hb dX6_canGo_33 ?_
    refine va_iald hx hb hK hP 1 0 rfl rfl (n := 1680) (vin2 (by assumption) (by decide)) dX6_canGo_34 ?_
    refine lv_iload_n hx hb dX6_canGo_35 rfl (lv_at hl 4 rfl) ?_
    refine lv_icmp_lt (tgt := 43) hx hb dX6_canGo_36 (by decide) (fun c_36 => ?_) (fun c_36 => ?_)
    · have c_36 : (f 0 (ix (15 + (kX6_rightOf f x1)))) < x3 := c_36
      refine lv_iconst (v := 0) hx hb dX6_canGo_43 (by decide) ?_
      have hρ : kX6_canGo f x1 x2 x3 = 0 := (if_neg c_1).trans ((if_neg c_22).trans ((if_pos c_36)))
      exact e_rz hx hb hr hlk dX6_canGo_44 rfl hρ.symm
    have c_36 : ¬ ((f 0 (ix (15 + (kX6_rightOf f x1)))) < x3) := c_36
    refine lv_iconst (v := 1) hx hb dX6_canGo_39 (by decide) ?_
    refine lv_goto (tgt := 44) hx hb dX6_canGo_40 (by decide) ?_
    have hρ : kX6_canGo f x1 x2 x3 = 1 := (if_neg c_1).trans ((if_neg c_22).trans ((if_neg c_36)))
    exact e_rz hx hb hr hlk dX6_canGo_44 rfl hρ.symm
  have c_1 : x2 = 0 := c_1
  refine lv_aload_n hx hb dX6_canGo_4 rfl (lv_at hl 0 rfl) ?_
  refine lv_iload_n hx hb dX6_canGo_5 rfl (lv_at hl 1 rfl) ?_
  refine k_rd (As := [.int x1]) (rest := []) (bytes := cX6_leftOf) (C := RX6) S (okX6_leftOf l D cI cZ cQ h a X f x1) gX6_canGo_X6_leftOf rfl ⟨rfl, rfl⟩ ndX6_leftOf ⟨Nat.le_of_ble_eq_true rfl, Nat.le_of_ble_eq_true rfl⟩ hK hP 0 rfl rfl rfl hl rfl (Nat.le_of_ble_eq_true rfl) dX6_canGo_6 ⟨Nat.zero_le _, Nat.zero_le _⟩ ?_
  refine lv_goto (tgt := 17) hx hb dX6_canGo_9 (by decide) ?_
  refine lv_istore (lv' := [(4, .int (kX6_leftOf f x1)), (0, .ref h), (1, .int x1), (2, .int x2), (3, .int x3)]) hx hb dX6_canGo_17 hl (by decide) rfl (fun ls hl => ?_)
  refine lv_iload hx hb dX6_canGo_19 (lv_at hl 0 rfl) ?_
  refine lv_iconst (v := (-1)) hx hb dX6_canGo_21 (by decide) ?_
  refine lv_icmp_eq (tgt := 39) hx hb dX6_canGo_22 (by decide) (fun c_22 => ?_) (fun c_22 => ?_)
  · have c_22 : (kX6_leftOf f x1) = (-1) := c_22
    refine lv_iconst (v := 1) hx hb dX6_canGo_39 (by decide) ?_
    refine lv_goto (tgt := 44) hx hb dX6_canGo_40 (by decide) ?_
    have hρ : kX6_canGo f x1 x2 x3 = 1 := (if_pos c_1).trans ((if_pos c_22))
    exact e_rz hx hb hr hlk dX6_canGo_44 rfl hρ.symm
  have c_22 : ¬ ((kX6_leftOf f x1) = (-1)) := c_22
  have hv1 : vp_in _ 6 := (by first | exact ml_in hok h1 c_22 | exact mr_in hok h1 c_22)
  refine lv_aload_n hx hb dX6_canGo_25 rfl (lv_at hl 1 rfl) ?_
  refine va_get (v := .ref (a 0)) (C := RX6) (T := TX6) (N := 6) (ci := 6) hx hb hts hinX6 hown hK hP 0 rfl rfl 0 (by decide) (hts (.fieldLink RX6 7 "AxleKeeperModel" "w" "[I") (by decide +kernel)) (fun _ h9 => h9) rfl dX6_canGo_26 ?_
  refine lv_bipush (v := 15) hx hb dX6_canGo_29 (by decide) ?_
  refine lv_iload hx hb dX6_canGo_31 (lv_at hl 0 rfl) ?_
  refine lv_iadd hx hb dX6_canGo_33 ?_
  refine va_iald hx hb hK hP 1 0 rfl rfl (n := 1680) (vin2 (by assumption) (by decide)) dX6_canGo_34 ?_
  refine lv_iload_n hx hb dX6_canGo_35 rfl (lv_at hl 4 rfl) ?_
  refine lv_icmp_lt (tgt := 43) hx hb dX6_canGo_36 (by decide) (fun c_36 => ?_) (fun c_36 => ?_)
  · have c_36 : (f 0 (ix (15 + (kX6_leftOf f x1)))) < x3 := c_36
    refine lv_iconst (v := 0) hx hb dX6_canGo_43 (by decide) ?_
    have hρ : kX6_canGo f x1 x2 x3 = 0 := (if_pos c_1).trans ((if_neg c_22).trans ((if_pos c_36)))
    exact e_rz hx hb hr hlk dX6_canGo_44 rfl hρ.symm
  have c_36 : ¬ ((f 0 (ix (15 + (kX6_leftOf f x1)))) < x3) := c_36
  refine lv_iconst (v := 1) hx hb dX6_canGo_39 (by decide) ?_
  refine lv_goto (tgt := 44) hx hb dX6_canGo_40 (by decide) ?_
  have hρ : kX6_canGo f x1 x2 x3 = 1 := (if_pos c_1).trans ((if_neg c_22).trans ((if_neg c_36)))
  exact e_rz hx hb hr hlk dX6_canGo_44 rfl hρ.symm
theorem ndX6_feels : yX6_feels.cls = RX6 ∧ yX6_feels.cls ≠ "java/lang/invoke/MethodHandle" ∧ yX6_feels.cls ≠ "java/lang/invoke/VarHandle" ∧ (parseMethodDescriptor yX6_feels.desc).map (fun d => d.parameters.length) = some 1 := by decide +kernel
set_option maxHeartbeats 4000000 in
set_option maxRecDepth 100000 in
theorem okX6_feels (l : Launch) (D : va_G) (cI cZ cQ : ClassId) (h : Nat) (a : Nat → Nat) (X : va_W) (f : Nat → Nat → Int32) (x1 : Int32) (h1 : vp_in x1 7) : Met l yX6_feels wsX6_feels ({ frames := 0, cells := 0, slots := 0, locals := 0 }) (PR [.ref h, .int x1] D (TY cI cZ cQ) (MW cI h a f ++ X)) (QR (kX6_feels f x1)) 0 0 (fun _ => False) := by
  refine m_rd (cc := cX6_feels) (maxL := 2) (ret := (some .boolean)) (by decide) rfl (Nat.le_of_ble_eq_true rfl) (lv0 := [(0, .ref h), (1, .int x1)]) rfl ?_
  intro p e s m below meth c ls S hr hlk hP hK hl
  have S : CallFix p m c cX6_feels 2 s ([.ref h, .int x1] : List Value).toArray wsX6_feels RX6 := S
  have hx := S.1
  have hb := S.2.1
  have hown : s.vm.findClass RX6 = some m.cls := S.2.2.2.1
  have hts := S.2.2.2.2
  have hinX6 : ∀ w ∈ wsX60, w ∈ wsX6_feels := by decide +kernel
  refine lv_aload_n hx hb dX6_feels_0 rfl (lv_at hl 0 rfl) ?_
  refine va_get (v := .ref (a 0)) (C := RX6) (T := TX6) (N := 6) (ci := 6) hx hb hts hinX6 hown hK hP 0 rfl rfl 0 (by decide) (hts (.fieldLink RX6 7 "AxleKeeperModel" "w" "[I") (by decide +kernel)) (fun _ h9 => h9) rfl dX6_feels_1 ?_
  refine lv_bipush (v := 62) hx hb dX6_feels_4 (by decide) ?_
  refine lv_iload_n hx hb dX6_feels_6 rfl (lv_at hl 1 rfl) ?_
  refine lv_iadd hx hb dX6_feels_7 ?_
  refine va_iald hx hb hK hP 1 0 rfl rfl (n := 1680) (vin2 (by assumption) (by decide)) dX6_feels_8 ?_
  refine lv_if_ne (tgt := 28) hx hb dX6_feels_9 (by decide) (fun c_9 => ?_) (fun c_9 => ?_)
  · have c_9 : ¬ ((f 0 (ix (62 + x1))) = 0) := c_9
    refine lv_iconst (v := 0) hx hb dX6_feels_28 (by decide) ?_
    have hρ : kX6_feels f x1 = 0 := (if_neg c_9)
    exact e_rz hx hb hr hlk dX6_feels_29 rfl hρ.symm
  have c_9 : (f 0 (ix (62 + x1))) = 0 := c_9
  refine lv_aload_n hx hb dX6_feels_12 rfl (lv_at hl 0 rfl) ?_
  refine va_get (v := .ref (a 0)) (C := RX6) (T := TX6) (N := 6) (ci := 6) hx hb hts hinX6 hown hK hP 0 rfl rfl 0 (by decide) (hts (.fieldLink RX6 7 "AxleKeeperModel" "w" "[I") (by decide +kernel)) (fun _ h9 => h9) rfl dX6_feels_13 ?_
  refine lv_bipush (v := 27) hx hb dX6_feels_16 (by decide) ?_
  refine lv_iload_n hx hb dX6_feels_18 rfl (lv_at hl 1 rfl) ?_
  refine lv_iadd hx hb dX6_feels_19 ?_
  refine va_iald hx hb hK hP 1 0 rfl rfl (n := 1680) (vin2 (by assumption) (by decide)) dX6_feels_20 ?_
  refine lv_if_ne (tgt := 28) hx hb dX6_feels_21 (by decide) (fun c_21 => ?_) (fun c_21 => ?_)
  · have c_21 : ¬ ((f 0 (ix (27 + x1))) = 0) := c_21
    refine lv_iconst (v := 0) hx hb dX6_feels_28 (by decide) ?_
    have hρ : kX6_feels f x1 = 0 := (if_pos c_9).trans ((if_neg c_21))
    exact e_rz hx hb hr hlk dX6_feels_29 rfl hρ.symm
  have c_21 : (f 0 (ix (27 + x1))) = 0 := c_21
  refine lv_iconst (v := 1) hx hb dX6_feels_24 (by decide) ?_
  refine lv_goto (tgt := 29) hx hb dX6_feels_25 (by decide) ?_
  have hρ : kX6_feels f x1 = 1 := (if_pos c_9).trans ((if_pos c_21))
  exact e_rz hx hb hr hlk dX6_feels_29 rfl hρ.symm
