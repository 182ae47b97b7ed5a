theorem ndX6_undo : yX6_undo.cls = RX6 ∧ yX6_undo.cls ≠ "java/lang/invoke/MethodHandle" ∧ yX6_undo.cls ≠ "java/lang/invoke/VarHandle" ∧ (parseMethodDescriptor yX6_undo.desc).map (fun d => d.parameters.length) = some 1 := by decide +kernel
set_option maxHeartbeats 4000000 in
set_option maxRecDepth 100000 in
theorem okX6_undo (l : Launch) (D : va_G) (cI cZ cQ : ClassId) (h : Nat) (a : Nat → Nat) (X : va_W) (f : Nat → Nat → Int32) (x1 : Int32) (sz : Nat) (hk : vp_in (f 1 0) 17) : Met l yX6_undo wsX6_undo ({ frames := 1, cells := 0, slots := 0, locals := 23 }) (PW [.ref h, .int x1] sz D (TY cI cZ cQ) (MW cI h a f ++ X)) (QI (kX6_undo f x1).1 D (TY cI cZ cQ) (MW cI h a (kX6_undo f x1).2 ++ X) (va_A (MW cI h a f ++ X) sz)) 0 0 (va_A (MW cI h a f ++ X) sz) := by
  refine m_wr (cc := cX6_undo) (maxL := 3) (ret := (some .int)) (by decide) rfl (Nat.le_of_ble_eq_true rfl) (lv0 := [(0, .ref h), (1, .int x1)]) rfl ?_
  intro p e s m below meth c ls A hAe S hr hlk hP hK hD hS hA hl
  rw [← hAe]
  have S : CallFix p m c cX6_undo 3 s ([.ref h, .int x1] : List Value).toArray wsX6_undo RX6 := S
  have hx := S.1
  have hb := S.2.1
  have hown : s.vm.findClass RX6 = some m.cls := S.2.2.2.1
  have hts := S.2.2.2.2
  have hinX6 : ∀ w ∈ wsX60, w ∈ wsX6_undo := by decide +kernel
  refine lv_iload_n hx hb dX6_undo_0 rfl (lv_at hl 1 rfl) ?_
  refine lv_iconst (v := 1) hx hb dX6_undo_1 (by decide) ?_
  refine lv_bipush (v := 16) hx hb dX6_undo_2 (by decide) ?_
  refine k_rs (As := [.int x1, .int 1, .int 16]) (rest := []) (bytes := cX6_in) S (okX6_in l D cI cZ cQ h a X f x1 1 16) gX6_undo_X6_in rfl ⟨rfl, rfl⟩ ndX6_in ⟨Nat.le_of_ble_eq_true rfl, Nat.le_of_ble_eq_true rfl⟩ hK hP rfl hl rfl (Nat.le_of_ble_eq_true rfl) dX6_undo_4 ⟨Nat.zero_le _, Nat.zero_le _⟩ ?_
  refine lv_if_ne (tgt := 13) hx hb dX6_undo_7 (by decide) (fun c_7 => ?_) (fun c_7 => ?_)
  · have c_7 : ¬ ((kX6_in f x1 1 16) = 0) := c_7
    refine lv_iload_n hx hb dX6_undo_13 rfl (lv_at hl 1 rfl) ?_
    refine lv_aload_n hx hb dX6_undo_14 rfl (lv_at hl 0 rfl) ?_
    refine va_get (v := .int (f 1 0)) (C := RX6) (T := TX6) (N := 6) (ci := 6) hx hb hts hinX6 hown hK hP 0 rfl rfl 1 (by decide) (hts (.fieldLink RX6 98 "AxleKeeperModel" "known" "I") (by decide +kernel)) (fun _ h9 => h9) rfl dX6_undo_15 ?_
    refine lv_icmp_le (tgt := 24) hx hb dX6_undo_18 (by decide) (fun c_18 => ?_) (fun c_18 => ?_)
    · have c_18 : x1 ≤ (f 1 0) := c_18
      refine lv_aload_n hx hb dX6_undo_24 rfl (lv_at hl 0 rfl) ?_
      refine va_get (v := .ref (a 0)) (C := RX6) (T := TX6) (N := 6) (ci := 6) hx hb hts hinX6 hown hK hP 0 rfl rfl 0 (by decide) (hts (.fieldLink RX6 7 "AxleKeeperModel" "w" "[I") (by decide +kernel)) (fun _ h9 => h9) rfl dX6_undo_25 ?_
      refine lv_bipush (v := 83) hx hb dX6_undo_28 (by decide) ?_
      refine va_iald hx hb hK hP 1 0 rfl rfl (n := 1680) (vin_c (by decide)) dX6_undo_30 ?_
      refine lv_istore_n (lv' := [(2, .int (f 0 (ix 83))), (0, .ref h), (1, .int x1)]) hx hb dX6_undo_31 rfl hl (by decide) rfl (fun ls hl => ?_)
      refine lv_aload_n hx hb dX6_undo_32 rfl (lv_at hl 1 rfl) ?_
      refine lv_dup hx hb dX6_undo_33 rfl ?_
      refine va_get (v := .int (f 1 0)) (C := RX6) (T := TX6) (N := 6) (ci := 6) hx hb hts hinX6 hown hK hP 0 rfl rfl 1 (by decide) (hts (.fieldLink RX6 98 "AxleKeeperModel" "known" "I") (by decide +kernel)) (fun _ h9 => h9) rfl dX6_undo_34 ?_
      refine lv_iload_n hx hb dX6_undo_37 rfl (lv_at hl 2 rfl) ?_
      refine lv_isub hx hb dX6_undo_38 ?_
      refine pf_M1 (x := ((f 1 0) - x1)) S hinX6 hK hP hD hS (hts (.fieldLink RX6 98 "AxleKeeperModel" "known" "I") (by decide +kernel)) dX6_undo_39 (fun H locs hP hD hS => ?_)
      refine lv_aload_n hx hb dX6_undo_42 rfl (lv_at hl 1 rfl) ?_
      refine lv_bipush (v := 84) hx hb dX6_undo_43 (by decide) ?_
      refine lv_aload_n hx hb dX6_undo_45 rfl (lv_at hl 1 rfl) ?_
      refine va_get (v := .int ((f 1 0) - x1)) (C := RX6) (T := TX6) (N := 6) (ci := 6) hx hb hts hinX6 hown hK hP 0 rfl rfl 1 (by decide) (hts (.fieldLink RX6 98 "AxleKeeperModel" "known" "I") (by decide +kernel)) (fun _ h9 => h9) rfl dX6_undo_46 ?_
      refine lv_iconst (v := 1) hx hb dX6_undo_49 (by decide) ?_
      refine lv_iadd hx hb dX6_undo_50 ?_
      refine lv_imul hx hb dX6_undo_51 ?_
      refine lv_iconst (v := 0) hx hb dX6_undo_52 (by decide) ?_
      refine k_wv (As := [.int (84 * (((f 1 0) - x1) + 1)), .int 0]) (rest := []) (bytes := cX6_copyRow) (C := RX6) S (okX6_copyRow l D cI cZ cQ h a X (up2 f 1 0 ((f 1 0) - x1)) (84 * (((f 1 0) - x1) + 1)) 0 _ (un84 hk c_7 c_18) (vin_c (by decide))) gX6_undo_X6_copyRow rfl ⟨rfl, rfl⟩ ndX6_copyRow ⟨Nat.le_of_ble_eq_true rfl, Nat.le_of_ble_eq_true rfl⟩ hK hP hD hS hA 0 rfl rfl rfl hl rfl (Nat.le_of_ble_eq_true rfl) dX6_undo_53 ⟨Nat.zero_le _, Nat.zero_le _⟩ (fun H locs hP hD hS => ?_)
      have hP : va_P D vwCl (MW cI h a (kX6_copyRow (up2 f 1 0 ((f 1 0) - x1)) (84 * (((f 1 0) - x1) + 1)) 0) ++ X) H := hP
      have hD : va_D A (MW cI h a (kX6_copyRow (up2 f 1 0 ((f 1 0) - x1)) (84 * (((f 1 0) - x1) + 1)) 0) ++ X) := hD
      refine lv_aload_n hx hb dX6_undo_56 rfl (lv_at hl 1 rfl) ?_
      refine va_get (v := .ref (a 0)) (C := RX6) (T := TX6) (N := 6) (ci := 6) hx hb hts hinX6 hown hK hP 0 rfl rfl 0 (by decide) (hts (.fieldLink RX6 7 "AxleKeeperModel" "w" "[I") (by decide +kernel)) (fun _ h9 => h9) rfl dX6_undo_57 ?_
      refine lv_bipush (v := 83) hx hb dX6_undo_60 (by decide) ?_
      refine lv_iload_n hx hb dX6_undo_62 rfl (lv_at hl 0 rfl) ?_
      refine st_M0 (x := (f 0 (ix 83))) hx hb hK hP hD hS (vin_c (by decide)) dX6_undo_63 (fun H locs hP hD hS => ?_)
      refine lv_aload_n hx hb dX6_undo_64 rfl (lv_at hl 1 rfl) ?_
      refine va_get (v := .int ((up2 (kX6_copyRow (up2 f 1 0 ((f 1 0) - x1)) (84 * (((f 1 0) - x1) + 1)) 0) 0 (ix 83) (f 0 (ix 83))) 1 0)) (C := RX6) (T := TX6) (N := 6) (ci := 6) hx hb hts hinX6 hown hK hP 0 rfl rfl 1 (by decide) (hts (.fieldLink RX6 98 "AxleKeeperModel" "known" "I") (by decide +kernel)) (fun _ h9 => h9) rfl dX6_undo_65 ?_
      have hρ : kX6_undo f x1 = (((up2 (kX6_copyRow (up2 f 1 0 ((f 1 0) - x1)) (84 * (((f 1 0) - x1) + 1)) 0) 0 (ix 83) (f 0 (ix 83))) 1 0), (up2 (kX6_copyRow (up2 f 1 0 ((f 1 0) - x1)) (84 * (((f 1 0) - x1) + 1)) 0) 0 (ix 83) (f 0 (ix 83)))) := (if_neg c_7).trans ((if_pos c_18))
      exact e_wi hx hb hr hlk hK hP hD hS dX6_undo_68 (congrArg Prod.fst hρ).symm (congrArg (fun z => (MW cI h a z.2 ++ X)) hρ).symm
    have c_18 : ¬ (x1 ≤ (f 1 0)) := c_18
    refine lv_ldc (v := (-1000000003)) hx hb hown (hts (.constant RX6 124 (-1000000003)) (by decide +kernel)) dX6_undo_21 ?_
    have hρ : kX6_undo f x1 = ((-1000000003), f) := (if_neg c_7).trans ((if_neg c_18))
    exact e_wi hx hb hr hlk hK hP hD hS dX6_undo_23 (congrArg Prod.fst hρ).symm (congrArg (fun z => (MW cI h a z.2 ++ X)) hρ).symm
  have c_7 : (kX6_in f x1 1 16) = 0 := c_7
  refine lv_ldc (v := (-1000000002)) hx hb hown (hts (.constant RX6 101 (-1000000002)) (by decide +kernel)) dX6_undo_10 ?_
  have hρ : kX6_undo f x1 = ((-1000000002), f) := (if_pos c_7)
  exact e_wi hx hb hr hlk hK hP hD hS dX6_undo_12 (congrArg Prod.fst hρ).symm (congrArg (fun z => (MW cI h a z.2 ++ X)) hρ).symm
theorem ndX6_would : yX6_would.cls = RX6 ∧ yX6_would.cls ≠ "java/lang/invoke/MethodHandle" ∧ yX6_would.cls ≠ "java/lang/invoke/VarHandle" ∧ (parseMethodDescriptor yX6_would.desc).map (fun d => d.parameters.length) = some 1 := by decide +kernel
set_option maxHeartbeats 4000000 in
set_option maxRecDepth 100000 in
theorem okX6_would (l : Launch) (D : va_G) (cI cZ cQ : ClassId) (h : Nat) (a : Nat → Nat) (X : va_W) (f : Nat → Nat → Int32) (x1 : Int32) (sz : Nat) (hok : okM f) : Met l yX6_would wsX6_would ({ frames := 5, cells := 0, slots := 0, locals := 113 }) (PW [.ref h, .int x1] sz D (TY cI cZ cQ) (MW cI h a f ++ X)) (QI (kX6_would f x1).1 D (TY cI cZ cQ) (MW cI h a (kX6_would f x1).2 ++ X) (va_A (MW cI h a f ++ X) sz)) 0 0 (va_A (MW cI h a f ++ X) sz) := by
  refine m_wr (cc := cX6_would) (maxL := 2) (ret := (some .int)) (by decide) rfl (Nat.le_of_ble_eq_true rfl) (lv0 := [(0, .ref h), (1, .int x1)]) rfl ?_
  intro p e s m below meth c ls A hAe S hr hlk hP hK hD hS hA hl
  rw [← hAe]
  have S : CallFix p m c cX6_would 2 s ([.ref h, .int x1] : List Value).toArray wsX6_would RX6 := S
  have hx := S.1
  have hb := S.2.1
  have hown : s.vm.findClass RX6 = some m.cls := S.2.2.2.1
  have hts := S.2.2.2.2
  refine lv_aload_n hx hb dX6_would_0 rfl (lv_at hl 0 rfl) ?_
  refine lv_iload_n hx hb dX6_would_1 rfl (lv_at hl 1 rfl) ?_
  refine k_rd (As := [.int x1]) (rest := []) (bytes := cX6_isSet) (C := RX6) S (okX6_isSet l D cI cZ cQ h a X f x1) gX6_would_X6_isSet rfl ⟨rfl, rfl⟩ ndX6_isSet ⟨Nat.le_of_ble_eq_true rfl, Nat.le_of_ble_eq_true rfl⟩ hK hP 0 rfl rfl rfl hl rfl (Nat.le_of_ble_eq_true rfl) dX6_would_2 ⟨Nat.zero_le _, Nat.zero_le _⟩ ?_
  refine lv_if_ne (tgt := 11) hx hb dX6_would_5 (by decide) (fun c_5 => ?_) (fun c_5 => ?_)
  · have c_5 : ¬ ((kX6_isSet f x1) = 0) := c_5
    refine lv_aload_n hx hb dX6_would_11 rfl (lv_at hl 0 rfl) ?_
    refine lv_iconst (v := 0) hx hb dX6_would_12 (by decide) ?_
    refine lv_sipush (v := 1596) hx hb dX6_would_13 (by decide) ?_
    refine k_wv (As := [.int 0, .int 1596]) (rest := []) (bytes := cX6_copyRow) (C := RX6) S (okX6_copyRow l D cI cZ cQ h a X f 0 1596 _ (vin_c (by decide)) (vin_c (by decide))) gX6_would_X6_copyRow rfl ⟨rfl, rfl⟩ ndX6_copyRow ⟨Nat.le_of_ble_eq_true rfl, Nat.le_of_ble_eq_true rfl⟩ hK hP hD hS hA 0 rfl rfl rfl hl rfl (Nat.le_of_ble_eq_true rfl) dX6_would_16 ⟨Nat.zero_le _, Nat.zero_le _⟩ (fun H locs hP hD hS => ?_)
    have hP : va_P D vwCl (MW cI h a (kX6_copyRow f 0 1596) ++ X) H := hP
    have hD : va_D A (MW cI h a (kX6_copyRow f 0 1596) ++ X) := hD
    refine lv_aload_n hx hb dX6_would_19 rfl (lv_at hl 0 rfl) ?_
    refine lv_sipush (v := 1596) hx hb dX6_would_20 (by decide) ?_
    refine lv_iload_n hx hb dX6_would_23 rfl (lv_at hl 1 rfl) ?_
    refine k_wv (As := [.int 1596, .int x1]) (rest := []) (bytes := cX6_tickIn) (C := RX6) S (okX6_tickIn l D cI cZ cQ h a X (kX6_copyRow f 0 1596) 1596 x1 _ (okM_cr hok) (vin_c (by decide))) gX6_would_X6_tickIn rfl ⟨rfl, rfl⟩ ndX6_tickIn ⟨Nat.le_of_ble_eq_true rfl, Nat.le_of_ble_eq_true rfl⟩ hK hP hD hS hA 0 rfl rfl rfl hl rfl (Nat.le_of_ble_eq_true rfl) dX6_would_24 ⟨Nat.zero_le _, Nat.zero_le _⟩ (fun H locs hP hD hS => ?_)
    have hP : va_P D vwCl (MW cI h a (kX6_tickIn (kX6_copyRow f 0 1596) 1596 x1) ++ X) H := hP
    have hD : va_D A (MW cI h a (kX6_tickIn (kX6_copyRow f 0 1596) 1596 x1) ++ X) := hD
    refine lv_aload_n hx hb dX6_would_27 rfl (lv_at hl 0 rfl) ?_
    refine lv_sipush (v := 1596) hx hb dX6_would_28 (by decide) ?_
    refine lv_iconst (v := 0) hx hb dX6_would_31 (by decide) ?_
    refine k_rd (As := [.int 1596, .int 0]) (rest := []) (bytes := cX6_called) (C := RX6) S (okX6_called l D cI cZ cQ h a X (kX6_tickIn (kX6_copyRow f 0 1596) 1596 x1) 1596 0 (okM_tick (okM_cr hok) (vin_c (by decide))) (vin_c (by decide))) gX6_would_X6_called rfl ⟨rfl, rfl⟩ ndX6_called ⟨Nat.le_of_ble_eq_true rfl, Nat.le_of_ble_eq_true rfl⟩ hK hP 0 rfl rfl rfl hl rfl (Nat.le_of_ble_eq_true rfl) dX6_would_32 ⟨Nat.zero_le _, Nat.zero_le _⟩ ?_
    have hρ : kX6_would f x1 = ((kX6_called (kX6_tickIn (kX6_copyRow f 0 1596) 1596 x1) 1596 0), (kX6_tickIn (kX6_copyRow f 0 1596) 1596 x1)) := (if_neg c_5)
    exact e_wi hx hb hr hlk hK hP hD hS dX6_would_35 (congrArg Prod.fst hρ).symm (congrArg (fun z => (MW cI h a z.2 ++ X)) hρ).symm
  have c_5 : (kX6_isSet f x1) = 0 := c_5
  refine lv_ldc (v := (-1000000001)) hx hb hown (hts (.constant RX6 102 (-1000000001)) (by decide +kernel)) dX6_would_8 ?_
  have hρ : kX6_would f x1 = ((-1000000001), f) := (if_pos c_5)
  exact e_wi hx hb hr hlk hK hP hD hS dX6_would_10 (congrArg Prod.fst hρ).symm (congrArg (fun z => (MW cI h a z.2 ++ X)) hρ).symm
theorem ndX6_write : yX6_write.cls = RX6 ∧ yX6_write.cls ≠ "java/lang/invoke/MethodHandle" ∧ yX6_write.cls ≠ "java/lang/invoke/VarHandle" ∧ (parseMethodDescriptor yX6_write.desc).map (fun d => d.parameters.length) = some 2 := by decide +kernel
set_option maxHeartbeats 4000000 in
set_option maxRecDepth 100000 in
theorem okX6_write (l : Launch) (D : va_G) (cI cZ cQ : ClassId) (h : Nat) (a : Nat → Nat) (X : va_W) (f : Nat → Nat → Int32) (x1 x2 : Int32) (sz : Nat) (hok : okM f) (hw : vp_in (f 5 0) 21) : Met l yX6_write wsX6_write ({ frames := 2, cells := 0, slots := 0, locals := 43 }) (PW [.ref h, .int x1, .int x2] sz D (TY cI cZ cQ) (MW cI h a f ++ X)) (QI (kX6_write f x1 x2).1 D (TY cI cZ cQ) (MW cI h a (kX6_write f x1 x2).2 ++ X) (va_A (MW cI h a f ++ X) sz)) 0 0 (va_A (MW cI h a f ++ X) sz) := by
  refine m_wr (cc := cX6_write) (maxL := 3) (ret := (some .int)) (by decide) rfl (Nat.le_of_ble_eq_true rfl) (lv0 := [(0, .ref h), (1, .int x1), (2, .int x2)]) rfl ?_
  intro p e s m below meth c ls A hAe S hr hlk hP hK hD hS hA hl
  rw [← hAe]
  have S : CallFix p m c cX6_write 3 s ([.ref h, .int x1, .int x2] : List Value).toArray wsX6_write RX6 := S
  have hx := S.1
  have hb := S.2.1
  have hown : s.vm.findClass RX6 = some m.cls := S.2.2.2.1
  have hts := S.2.2.2.2
  have hinX6 : ∀ w ∈ wsX60, w ∈ wsX6_write := by decide +kernel
  refine lv_aload_n hx hb dX6_write_0 rfl (lv_at hl 0 rfl) ?_
  refine lv_iload_n hx hb dX6_write_1 rfl (lv_at hl 1 rfl) ?_
  refine k_rd (As := [.int x1]) (rest := []) (bytes := cX6_isSection) (C := RX6) S (okX6_isSection l D cI cZ cQ h a X f x1) gX6_write_X6_isSection rfl ⟨rfl, rfl⟩ ndX6_isSection ⟨Nat.le_of_ble_eq_true rfl, Nat.le_of_ble_eq_true rfl⟩ hK hP 0 rfl rfl rfl hl rfl (Nat.le_of_ble_eq_true rfl) dX6_write_2 ⟨Nat.zero_le _, Nat.zero_le _⟩ ?_
  refine lv_if_ne (tgt := 11) hx hb dX6_write_5 (by decide) (fun c_5 => ?_) (fun c_5 => ?_)
  · have c_5 : ¬ ((kX6_isSection f x1) = 0) := c_5
    refine lv_iload_n hx hb dX6_write_11 rfl (lv_at hl 2 rfl) ?_
    refine lv_iconst (v := 0) hx hb dX6_write_12 (by decide) ?_
    refine lv_iconst (v := 3) hx hb dX6_write_13 (by decide) ?_
    refine k_rs (As := [.int x2, .int 0, .int 3]) (rest := []) (bytes := cX6_in) S (okX6_in l D cI cZ cQ h a X f x2 0 3) gX6_write_X6_in rfl ⟨rfl, rfl⟩ ndX6_in ⟨Nat.le_of_ble_eq_true rfl, Nat.le_of_ble_eq_true rfl⟩ hK hP rfl hl rfl (Nat.le_of_ble_eq_true rfl) dX6_write_14 ⟨Nat.zero_le _, Nat.zero_le _⟩ ?_
    refine lv_if_ne (tgt := 23) hx hb dX6_write_17 (by decide) (fun c_17 => ?_) (fun c_17 => ?_)
    · have c_17 : ¬ ((kX6_in f x2 0 3) = 0) := c_17
      refine lv_aload_n hx hb dX6_write_23 rfl (lv_at hl 0 rfl) ?_
      refine va_get (v := .int (f 5 0)) (C := RX6) (T := TX6) (N := 6) (ci := 6) hx hb hts hinX6 hown hK hP 0 rfl rfl 5 (by decide) (hts (.fieldLink RX6 74 "AxleKeeperModel" "written" "I") (by decide +kernel)) (fun _ h9 => h9) rfl dX6_write_24 ?_
      refine lv_bipush (v := 20) hx hb dX6_write_27 (by decide) ?_
      refine lv_icmp_ne (tgt := 35) hx hb dX6_write_29 (by decide) (fun c_29 => ?_) (fun c_29 => ?_)
      · have c_29 : ¬ ((f 5 0) = 20) := c_29
        have hv : vp_in (f 5 0) 20 := wr20 hw c_29
        refine lv_aload_n hx hb dX6_write_35 rfl (lv_at hl 0 rfl) ?_
        refine va_get (v := .ref (a 3)) (C := RX6) (T := TX6) (N := 6) (ci := 6) hx hb hts hinX6 hown hK hP 0 rfl rfl 3 (by decide) (hts (.fieldLink RX6 13 "AxleKeeperModel" "bookOf" "[I") (by decide +kernel)) (fun _ h9 => h9) rfl dX6_write_36 ?_
        refine lv_aload_n hx hb dX6_write_39 rfl (lv_at hl 0 rfl) ?_
        refine va_get (v := .int (f 5 0)) (C := RX6) (T := TX6) (N := 6) (ci := 6) hx hb hts hinX6 hown hK hP 0 rfl rfl 5 (by decide) (hts (.fieldLink RX6 74 "AxleKeeperModel" "written" "I") (by decide +kernel)) (fun _ h9 => h9) rfl dX6_write_40 ?_
        refine lv_iload_n hx hb dX6_write_43 rfl (lv_at hl 1 rfl) ?_
        refine st_M3 (x := x1) hx hb hK hP hD hS (by assumption) dX6_write_44 (fun H locs hP hD hS => ?_)
        refine lv_aload_n hx hb dX6_write_45 rfl (lv_at hl 0 rfl) ?_
        refine va_get (v := .ref (a 4)) (C := RX6) (T := TX6) (N := 6) (ci := 6) hx hb hts hinX6 hown hK hP 0 rfl rfl 4 (by decide) (hts (.fieldLink RX6 16 "AxleKeeperModel" "bookCall" "[I") (by decide +kernel)) (fun _ h9 => h9) rfl dX6_write_46 ?_
        refine lv_aload_n hx hb dX6_write_49 rfl (lv_at hl 0 rfl) ?_
        refine va_get (v := .int (f 5 0)) (C := RX6) (T := TX6) (N := 6) (ci := 6) hx hb hts hinX6 hown hK hP 0 rfl rfl 5 (by decide) (hts (.fieldLink RX6 74 "AxleKeeperModel" "written" "I") (by decide +kernel)) (fun _ h9 => h9) rfl dX6_write_50 ?_
        refine lv_iload_n hx hb dX6_write_53 rfl (lv_at hl 2 rfl) ?_
        refine st_M4 (x := x2) hx hb hK hP hD hS (by assumption) dX6_write_54 (fun H locs hP hD hS => ?_)
        refine lv_aload_n hx hb dX6_write_55 rfl (lv_at hl 0 rfl) ?_
        refine lv_dup hx hb dX6_write_56 rfl ?_
        refine va_get (v := .int (f 5 0)) (C := RX6) (T := TX6) (N := 6) (ci := 6) hx hb hts hinX6 hown hK hP 0 rfl rfl 5 (by decide) (hts (.fieldLink RX6 74 "AxleKeeperModel" "written" "I") (by decide +kernel)) (fun _ h9 => h9) rfl dX6_write_57 ?_
        refine lv_iconst (v := 1) hx hb dX6_write_60 (by decide) ?_
        refine lv_iadd hx hb dX6_write_61 ?_
        refine pf_M5 (x := ((f 5 0) + 1)) S hinX6 hK hP hD hS (hts (.fieldLink RX6 74 "AxleKeeperModel" "written" "I") (by decide +kernel)) dX6_write_62 (fun H locs hP hD hS => ?_)
        refine lv_aload_n hx hb dX6_write_65 rfl (lv_at hl 0 rfl) ?_
        refine va_get (v := .int ((f 5 0) + 1)) (C := RX6) (T := TX6) (N := 6) (ci := 6) hx hb hts hinX6 hown hK hP 0 rfl rfl 5 (by decide) (hts (.fieldLink RX6 74 "AxleKeeperModel" "written" "I") (by decide +kernel)) (fun _ h9 => h9) rfl dX6_write_66 ?_
        have hρ : kX6_write f x1 x2 = (((f 5 0) + 1), (up2 (up2 (up2 f 3 (ix (f 5 0)) x1) 4 (ix (f 5 0)) x2) 5 0 ((f 5 0) + 1))) := (if_neg c_5).trans ((if_neg c_17).trans ((if_neg c_29)))
        exact e_wi hx hb hr hlk hK hP hD hS dX6_write_69 (congrArg Prod.fst hρ).symm (congrArg (fun z => (MW cI h a z.2 ++ X)) hρ).symm
      have c_29 : (f 5 0) = 20 := c_29
      refine lv_ldc (v := (-1000000004)) hx hb hown (hts (.constant RX6 160 (-1000000004)) (by decide +kernel)) dX6_write_32 ?_
      have hρ : kX6_write f x1 x2 = ((-1000000004), f) := (if_neg c_5).trans ((if_neg c_17).trans ((if_pos c_29)))
      exact e_wi hx hb hr hlk hK hP hD hS dX6_write_34 (congrArg Prod.fst hρ).symm (congrArg (fun z => (MW cI h a z.2 ++ X)) hρ).symm
    have c_17 : (kX6_in f x2 0 3) = 0 := c_17
    refine lv_ldc (v := (-1000000002)) hx hb hown (hts (.constant RX6 101 (-1000000002)) (by decide +kernel)) dX6_write_20 ?_
    have hρ : kX6_write f x1 x2 = ((-1000000002), f) := (if_neg c_5).trans ((if_pos c_17))
    exact e_wi hx hb hr hlk hK hP hD hS dX6_write_22 (congrArg Prod.fst hρ).symm (congrArg (fun z => (MW cI h a z.2 ++ X)) hρ).symm
  have c_5 : (kX6_isSection f x1) = 0 := c_5
  refine lv_ldc (v := (-1000000001)) hx hb hown (hts (.constant RX6 102 (-1000000001)) (by decide +kernel)) dX6_write_8 ?_
  have hρ : kX6_write f x1 x2 = ((-1000000001), f) := (if_pos c_5)
  exact e_wi hx hb hr hlk hK hP hD hS dX6_write_10 (congrArg Prod.fst hρ).symm (congrArg (fun z => (MW cI h a z.2 ++ X)) hρ).symm
theorem ndX6_tear : yX6_tear.cls = RX6 ∧ yX6_tear.cls ≠ "java/lang/invoke/MethodHandle" ∧ yX6_tear.cls ≠ "java/lang/invoke/VarHandle" ∧ (parseMethodDescriptor yX6_tear.desc).map (fun d => d.parameters.length) = some 0 := by decide +kernel
set_option maxHeartbeats 4000000 in
set_option maxRecDepth 100000 in
theorem okX6_tear (l : Launch) (D : va_G) (cI cZ cQ : ClassId) (h : Nat) (a : Nat → Nat) (X : va_W) (f : Nat → Nat → Int32) (sz : Nat) : Met l yX6_tear wsX6_tear ({ frames := 0, cells := 0, slots := 0, locals := 0 }) (PW [.ref h] sz D (TY cI cZ cQ) (MW cI h a f ++ X)) (QI (kX6_tear f).1 D (TY cI cZ cQ) (MW cI h a (kX6_tear f).2 ++ X) (va_A (MW cI h a f ++ X) sz)) 0 0 (va_A (MW cI h a f ++ X) sz) := by
  refine m_wr (cc := cX6_tear) (maxL := 2) (ret := (some .int)) (by decide) rfl (Nat.le_of_ble_eq_true rfl) (lv0 := [(0, .ref h)]) rfl ?_
  intro p e s m below meth c ls A hAe S hr hlk hP hK hD hS hA hl
  rw [← hAe]
  have S : CallFix p m c cX6_tear 2 s ([.ref h] : List Value).toArray wsX6_tear RX6 := S
  have hx := S.1
  have hb := S.2.1
  have hown : s.vm.findClass RX6 = some m.cls := S.2.2.2.1
  have hts := S.2.2.2.2
  have hinX6 : ∀ w ∈ wsX60, w ∈ wsX6_tear := by decide +kernel
  refine lv_aload_n hx hb dX6_tear_0 rfl (lv_at hl 0 rfl) ?_
  refine va_get (v := .int (f 5 0)) (C := RX6) (T := TX6) (N := 6) (ci := 6) hx hb hts hinX6 hown hK hP 0 rfl rfl 5 (by decide) (hts (.fieldLink RX6 74 "AxleKeeperModel" "written" "I") (by decide +kernel)) (fun _ h9 => h9) rfl dX6_tear_1 ?_
  refine lv_istore_n (lv' := [(1, .int (f 5 0)), (0, .ref h)]) hx hb dX6_tear_4 rfl hl (by decide) rfl (fun ls hl => ?_)
  refine lv_aload_n hx hb dX6_tear_5 rfl (lv_at hl 1 rfl) ?_
  refine lv_iconst (v := 0) hx hb dX6_tear_6 (by decide) ?_
  refine pf_M5 (x := 0) S hinX6 hK hP hD hS (hts (.fieldLink RX6 74 "AxleKeeperModel" "written" "I") (by decide +kernel)) dX6_tear_7 (fun H locs hP hD hS => ?_)
  refine lv_iload_n hx hb dX6_tear_10 rfl (lv_at hl 0 rfl) ?_
  have hρ : kX6_tear f = ((f 5 0), (up2 f 5 0 0)) := rfl
  exact e_wi hx hb hr hlk hK hP hD hS dX6_tear_11 (congrArg Prod.fst hρ).symm (congrArg (fun z => (MW cI h a z.2 ++ X)) hρ).symm
theorem ndX6_seed : yX6_seed.cls = RX6 ∧ yX6_seed.cls ≠ "java/lang/invoke/MethodHandle" ∧ yX6_seed.cls ≠ "java/lang/invoke/VarHandle" ∧ (parseMethodDescriptor yX6_seed.desc).map (fun d => d.parameters.length) = some 1 := by decide +kernel
set_option maxHeartbeats 4000000 in
set_option maxRecDepth 100000 in
theorem okX6_seed (l : Launch) (D : va_G) (cI cZ cQ : ClassId) (h : Nat) (a : Nat → Nat) (X : va_W) (f : Nat → Nat → Int32) (x1 : Int32) (sz : Nat) : Met l yX6_seed wsX6_seed ({ frames := 0, cells := 0, slots := 0, locals := 0 }) (PW [.ref h, .int x1] sz D (TY cI cZ cQ) (MW cI h a f ++ X)) (QI (kX6_seed f x1).1 D (TY cI cZ cQ) (MW cI h a (kX6_seed f x1).2 ++ X) (va_A (MW cI h a f ++ X) sz)) 0 0 (va_A (MW cI h a f ++ X) sz) := by
  refine m_wr (cc := cX6_seed) (maxL := 3) (ret := (some .int)) (by decide) rfl (Nat.le_of_ble_eq_true rfl) (lv0 := [(0, .ref h), (1, .int x1)]) rfl ?_
  intro p e s m below meth c ls A hAe S hr hlk hP hK hD hS hA hl
  rw [← hAe]
  have S : CallFix p m c cX6_seed 3 s ([.ref h, .int x1] : List Value).toArray wsX6_seed RX6 := S
  have hx := S.1
  have hb := S.2.1
  have hown : s.vm.findClass RX6 = some m.cls := S.2.2.2.1
  have hts := S.2.2.2.2
  have hinX6 : ∀ w ∈ wsX60, w ∈ wsX6_seed := by decide +kernel
  refine lv_iload_n hx hb dX6_seed_0 rfl (lv_at hl 1 rfl) ?_
  refine lv_if_ge (tgt := 7) hx hb dX6_seed_1 (by decide) (fun c_1 => ?_) (fun c_1 => ?_)
  · have c_1 : 0 ≤ x1 := c_1
    refine lv_aload_n hx hb dX6_seed_7 rfl (lv_at hl 0 rfl) ?_
    refine va_get (v := .ref (a 0)) (C := RX6) (T := TX6) (N := 6) (ci := 6) hx hb hts hinX6 hown hK hP 0 rfl rfl 0 (by decide) (hts (.fieldLink RX6 7 "AxleKeeperModel" "w" "[I") (by decide +kernel)) (fun _ h9 => h9) rfl dX6_seed_8 ?_
    refine lv_bipush (v := 83) hx hb dX6_seed_11 (by decide) ?_
    refine va_iald hx hb hK hP 1 0 rfl rfl (n := 1680) (vin_c (by decide)) dX6_seed_13 ?_
    refine lv_istore_n (lv' := [(2, .int (f 0 (ix 83))), (0, .ref h), (1, .int x1)]) hx hb dX6_seed_14 rfl hl (by decide) rfl (fun ls hl => ?_)
    refine lv_aload_n hx hb dX6_seed_15 rfl (lv_at hl 1 rfl) ?_
    refine va_get (v := .ref (a 0)) (C := RX6) (T := TX6) (N := 6) (ci := 6) hx hb hts hinX6 hown hK hP 0 rfl rfl 0 (by decide) (hts (.fieldLink RX6 7 "AxleKeeperModel" "w" "[I") (by decide +kernel)) (fun _ h9 => h9) rfl dX6_seed_16 ?_
    refine lv_bipush (v := 83) hx hb dX6_seed_19 (by decide) ?_
    refine lv_iload_n hx hb dX6_seed_21 rfl (lv_at hl 2 rfl) ?_
    refine st_M0 (x := x1) hx hb hK hP hD hS (vin_c (by decide)) dX6_seed_22 (fun H locs hP hD hS => ?_)
    refine lv_iload_n hx hb dX6_seed_23 rfl (lv_at hl 0 rfl) ?_
    have hρ : kX6_seed f x1 = ((f 0 (ix 83)), (up2 f 0 (ix 83) x1)) := (if_pos c_1)
    exact e_wi hx hb hr hlk hK hP hD hS dX6_seed_24 (congrArg Prod.fst hρ).symm (congrArg (fun z => (MW cI h a z.2 ++ X)) hρ).symm
  have c_1 : ¬ (0 ≤ x1) := c_1
  refine lv_ldc (v := (-1000000002)) hx hb hown (hts (.constant RX6 101 (-1000000002)) (by decide +kernel)) dX6_seed_4 ?_
  have hρ : kX6_seed f x1 = ((-1000000002), f) := (if_neg c_1)
  exact e_wi hx hb hr hlk hK hP hD hS dX6_seed_6 (congrArg Prod.fst hρ).symm (congrArg (fun z => (MW cI h a z.2 ++ X)) hρ).symm
theorem ndX6_keep : yX6_keep.cls = RX6 ∧ yX6_keep.cls ≠ "java/lang/invoke/MethodHandle" ∧ yX6_keep.cls ≠ "java/lang/invoke/VarHandle" ∧ (parseMethodDescriptor yX6_keep.desc).map (fun d => d.parameters.length) = some 1 := by decide +kernel
set_option maxHeartbeats 4000000 in
set_option maxRecDepth 100000 in
theorem okX6_keep (l : Launch) (D : va_G) (cI cZ cQ : ClassId) (h : Nat) (a : Nat → Nat) (X : va_W) (f : Nat → Nat → Int32) (x1 : Int32) (sz : Nat) : Met l yX6_keep wsX6_keep ({ frames := 1, cells := 0, slots := 0, locals := 23 }) (PW [.ref h, .int x1] sz D (TY cI cZ cQ) (MW cI h a f ++ X)) (QI (kX6_keep f x1).1 D (TY cI cZ cQ) (MW cI h a (kX6_keep f x1).2 ++ X) (va_A (MW cI h a f ++ X) sz)) 0 0 (va_A (MW cI h a f ++ X) sz) := by
  refine m_wr (cc := cX6_keep) (maxL := 2) (ret := (some .int)) (by decide) rfl (Nat.le_of_ble_eq_true rfl) (lv0 := [(0, .ref h), (1, .int x1)]) rfl ?_
  intro p e s m below meth c ls A hAe S hr hlk hP hK hD hS hA hl
  rw [← hAe]
  have S : CallFix p m c cX6_keep 2 s ([.ref h, .int x1] : List Value).toArray wsX6_keep RX6 := S
  have hx := S.1
  have hb := S.2.1
  have hown : s.vm.findClass RX6 = some m.cls := S.2.2.2.1
  have hts := S.2.2.2.2
  have hinX6 : ∀ w ∈ wsX60, w ∈ wsX6_keep := by decide +kernel
  refine lv_iload_n hx hb dX6_keep_0 rfl (lv_at hl 1 rfl) ?_
  refine lv_iconst (v := 0) hx hb dX6_keep_1 (by decide) ?_
  refine lv_iconst (v := 1) hx hb dX6_keep_2 (by decide) ?_
  refine k_rs (As := [.int x1, .int 0, .int 1]) (rest := []) (bytes := cX6_in) S (okX6_in l D cI cZ cQ h a X f x1 0 1) gX6_keep_X6_in rfl ⟨rfl, rfl⟩ ndX6_in ⟨Nat.le_of_ble_eq_true rfl, Nat.le_of_ble_eq_true rfl⟩ hK hP rfl hl rfl (Nat.le_of_ble_eq_true rfl) dX6_keep_3 ⟨Nat.zero_le _, Nat.zero_le _⟩ ?_
  refine lv_if_ne (tgt := 12) hx hb dX6_keep_6 (by decide) (fun c_6 => ?_) (fun c_6 => ?_)
  · have c_6 : ¬ ((kX6_in f x1 0 1) = 0) := c_6
    refine lv_aload_n hx hb dX6_keep_12 rfl (lv_at hl 0 rfl) ?_
    refine lv_iconst (v := 0) hx hb dX6_keep_13 (by decide) ?_
    refine lv_sipush (v := 1428) hx hb dX6_keep_14 (by decide) ?_
    refine lv_bipush (v := 84) hx hb dX6_keep_17 (by decide) ?_
    refine lv_iload_n hx hb dX6_keep_19 rfl (lv_at hl 1 rfl) ?_
    refine lv_imul hx hb dX6_keep_20 ?_
    refine lv_iadd hx hb dX6_keep_21 ?_
    refine k_wv (As := [.int 0, .int (1428 + (84 * x1))]) (rest := []) (bytes := cX6_copyRow) (C := RX6) S (okX6_copyRow l D cI cZ cQ h a X f 0 (1428 + (84 * x1)) _ (vin_c (by decide)) (im84 c_6)) gX6_keep_X6_copyRow rfl ⟨rfl, rfl⟩ ndX6_copyRow ⟨Nat.le_of_ble_eq_true rfl, Nat.le_of_ble_eq_true rfl⟩ hK hP hD hS hA 0 rfl rfl rfl hl rfl (Nat.le_of_ble_eq_true rfl) dX6_keep_22 ⟨Nat.zero_le _, Nat.zero_le _⟩ (fun H locs hP hD hS => ?_)
    have hP : va_P D vwCl (MW cI h a (kX6_copyRow f 0 (1428 + (84 * x1))) ++ X) H := hP
    have hD : va_D A (MW cI h a (kX6_copyRow f 0 (1428 + (84 * x1))) ++ X) := hD
    refine lv_aload_n hx hb dX6_keep_25 rfl (lv_at hl 0 rfl) ?_
    refine lv_dup hx hb dX6_keep_26 rfl ?_
    refine va_get (v := .int ((kX6_copyRow f 0 (1428 + (84 * x1))) 2 0)) (C := RX6) (T := TX6) (N := 6) (ci := 6) hx hb hts hinX6 hown hK hP 0 rfl rfl 2 (by decide) (hts (.fieldLink RX6 161 "AxleKeeperModel" "kept" "I") (by decide +kernel)) (fun _ h9 => h9) rfl dX6_keep_27 ?_
    refine lv_iconst (v := 1) hx hb dX6_keep_30 (by decide) ?_
    refine lv_iload_n hx hb dX6_keep_31 rfl (lv_at hl 1 rfl) ?_
    refine lv_ishl hx hb dX6_keep_32 ?_
    refine lv_ior hx hb dX6_keep_33 ?_
    refine pf_M2 (x := (((kX6_copyRow f 0 (1428 + (84 * x1))) 2 0) ||| ((1 : Int32) <<< (x1 &&& 31)))) S hinX6 hK hP hD hS (hts (.fieldLink RX6 161 "AxleKeeperModel" "kept" "I") (by decide +kernel)) dX6_keep_34 (fun H locs hP hD hS => ?_)
    refine lv_aload_n hx hb dX6_keep_37 rfl (lv_at hl 0 rfl) ?_
    refine lv_iconst (v := 0) hx hb dX6_keep_38 (by decide) ?_
    refine pf_M1 (x := 0) S hinX6 hK hP hD hS (hts (.fieldLink RX6 98 "AxleKeeperModel" "known" "I") (by decide +kernel)) dX6_keep_39 (fun H locs hP hD hS => ?_)
    refine lv_iconst (v := 1) hx hb dX6_keep_42 (by decide) ?_
    have hρ : kX6_keep f x1 = (1, (up2 (up2 (kX6_copyRow f 0 (1428 + (84 * x1))) 2 0 (((kX6_copyRow f 0 (1428 + (84 * x1))) 2 0) ||| ((1 : Int32) <<< (x1 &&& 31)))) 1 0 0)) := (if_neg c_6)
    exact e_wi hx hb hr hlk hK hP hD hS dX6_keep_43 (congrArg Prod.fst hρ).symm (congrArg (fun z => (MW cI h a z.2 ++ X)) hρ).symm
  have c_6 : (kX6_in f x1 0 1) = 0 := c_6
  refine lv_ldc (v := (-1000000001)) hx hb hown (hts (.constant RX6 102 (-1000000001)) (by decide +kernel)) dX6_keep_9 ?_
  have hρ : kX6_keep f x1 = ((-1000000001), f) := (if_pos c_6)
  exact e_wi hx hb hr hlk hK hP hD hS dX6_keep_11 (congrArg Prod.fst hρ).symm (congrArg (fun z => (MW cI h a z.2 ++ X)) hρ).symm
theorem ndX6_goBack : yX6_goBack.cls = RX6 ∧ yX6_goBack.cls ≠ "java/lang/invoke/MethodHandle" ∧ yX6_goBack.cls ≠ "java/lang/invoke/VarHandle" ∧ (parseMethodDescriptor yX6_goBack.desc).map (fun d => d.parameters.length) = some 1 := by decide +kernel
set_option maxHeartbeats 4000000 in
set_option maxRecDepth 100000 in
theorem okX6_goBack (l : Launch) (D : va_G) (cI cZ cQ : ClassId) (h : Nat) (a : Nat → Nat) (X : va_W) (f : Nat → Nat → Int32) (x1 : Int32) (sz : Nat) : Met l yX6_goBack wsX6_goBack ({ frames := 1, cells := 0, slots := 0, locals := 23 }) (PW [.ref h, .int x1] sz D (TY cI cZ cQ) (MW cI h a f ++ X)) (QI (kX6_goBack f x1).1 D (TY cI cZ cQ) (MW cI h a (kX6_goBack f x1).2 ++ X) (va_A (MW cI h a f ++ X) sz)) 0 0 (va_A (MW cI h a f ++ X) sz) := by
  refine m_wr (cc := cX6_goBack) (maxL := 2) (ret := (some .int)) (by decide) rfl (Nat.le_of_ble_eq_true rfl) (lv0 := [(0, .ref h), (1, .int x1)]) rfl ?_
  intro p e s m below meth c ls A hAe S hr hlk hP hK hD hS hA hl
  rw [← hAe]
  have S : CallFix p m c cX6_goBack 2 s ([.ref h, .int x1] : List Value).toArray wsX6_goBack RX6 := S
  have hx := S.1
  have hb := S.2.1
  have hown : s.vm.findClass RX6 = some m.cls := S.2.2.2.1
  have hts := S.2.2.2.2
  have hinX6 : ∀ w ∈ wsX60, w ∈ wsX6_goBack := by decide +kernel
  refine lv_iload_n hx hb dX6_goBack_0 rfl (lv_at hl 1 rfl) ?_
  refine lv_iconst (v := 0) hx hb dX6_goBack_1 (by decide) ?_
  refine lv_iconst (v := 1) hx hb dX6_goBack_2 (by decide) ?_
  refine k_rs (As := [.int x1, .int 0, .int 1]) (rest := []) (bytes := cX6_in) S (okX6_in l D cI cZ cQ h a X f x1 0 1) gX6_goBack_X6_in rfl ⟨rfl, rfl⟩ ndX6_in ⟨Nat.le_of_ble_eq_true rfl, Nat.le_of_ble_eq_true rfl⟩ hK hP rfl hl rfl (Nat.le_of_ble_eq_true rfl) dX6_goBack_3 ⟨Nat.zero_le _, Nat.zero_le _⟩ ?_
  refine lv_if_ne (tgt := 12) hx hb dX6_goBack_6 (by decide) (fun c_6 => ?_) (fun c_6 => ?_)
  · have c_6 : ¬ ((kX6_in f x1 0 1) = 0) := c_6
    refine lv_aload_n hx hb dX6_goBack_12 rfl (lv_at hl 0 rfl) ?_
    refine va_get (v := .int (f 2 0)) (C := RX6) (T := TX6) (N := 6) (ci := 6) hx hb hts hinX6 hown hK hP 0 rfl rfl 2 (by decide) (hts (.fieldLink RX6 161 "AxleKeeperModel" "kept" "I") (by decide +kernel)) (fun _ h9 => h9) rfl dX6_goBack_13 ?_
    refine lv_iload_n hx hb dX6_goBack_16 rfl (lv_at hl 1 rfl) ?_
    refine k_rs (As := [.int (f 2 0), .int x1]) (rest := []) (bytes := cX6_has) S (okX6_has l D cI cZ cQ h a X f (f 2 0) x1) gX6_goBack_X6_has rfl ⟨rfl, rfl⟩ ndX6_has ⟨Nat.le_of_ble_eq_true rfl, Nat.le_of_ble_eq_true rfl⟩ hK hP rfl hl rfl (Nat.le_of_ble_eq_true rfl) dX6_goBack_17 ⟨Nat.zero_le _, Nat.zero_le _⟩ ?_
    refine lv_if_ne (tgt := 26) hx hb dX6_goBack_20 (by decide) (fun c_20 => ?_) (fun c_20 => ?_)
    · have c_20 : ¬ ((kX6_has f (f 2 0) x1) = 0) := c_20
      refine lv_aload_n hx hb dX6_goBack_26 rfl (lv_at hl 0 rfl) ?_
      refine lv_sipush (v := 1428) hx hb dX6_goBack_27 (by decide) ?_
      refine lv_bipush (v := 84) hx hb dX6_goBack_30 (by decide) ?_
      refine lv_iload_n hx hb dX6_goBack_32 rfl (lv_at hl 1 rfl) ?_
      refine lv_imul hx hb dX6_goBack_33 ?_
      refine lv_iadd hx hb dX6_goBack_34 ?_
      refine lv_iconst (v := 0) hx hb dX6_goBack_35 (by decide) ?_
      refine k_wv (As := [.int (1428 + (84 * x1)), .int 0]) (rest := []) (bytes := cX6_copyRow) (C := RX6) S (okX6_copyRow l D cI cZ cQ h a X f (1428 + (84 * x1)) 0 _ (im84 c_6) (vin_c (by decide))) gX6_goBack_X6_copyRow rfl ⟨rfl, rfl⟩ ndX6_copyRow ⟨Nat.le_of_ble_eq_true rfl, Nat.le_of_ble_eq_true rfl⟩ hK hP hD hS hA 0 rfl rfl rfl hl rfl (Nat.le_of_ble_eq_true rfl) dX6_goBack_36 ⟨Nat.zero_le _, Nat.zero_le _⟩ (fun H locs hP hD hS => ?_)
      have hP : va_P D vwCl (MW cI h a (kX6_copyRow f (1428 + (84 * x1)) 0) ++ X) H := hP
      have hD : va_D A (MW cI h a (kX6_copyRow f (1428 + (84 * x1)) 0) ++ X) := hD
      refine lv_aload_n hx hb dX6_goBack_39 rfl (lv_at hl 0 rfl) ?_
      refine lv_iconst (v := 0) hx hb dX6_goBack_40 (by decide) ?_
      refine pf_M1 (x := 0) S hinX6 hK hP hD hS (hts (.fieldLink RX6 98 "AxleKeeperModel" "known" "I") (by decide +kernel)) dX6_goBack_41 (fun H locs hP hD hS => ?_)
      refine lv_iconst (v := 1) hx hb dX6_goBack_44 (by decide) ?_
      have hρ : kX6_goBack f x1 = (1, (up2 (kX6_copyRow f (1428 + (84 * x1)) 0) 1 0 0)) := (if_neg c_6).trans ((if_neg c_20))
      exact e_wi hx hb hr hlk hK hP hD hS dX6_goBack_45 (congrArg Prod.fst hρ).symm (congrArg (fun z => (MW cI h a z.2 ++ X)) hρ).symm
    have c_20 : (kX6_has f (f 2 0) x1) = 0 := c_20
    refine lv_ldc (v := (-1000000003)) hx hb hown (hts (.constant RX6 124 (-1000000003)) (by decide +kernel)) dX6_goBack_23 ?_
    have hρ : kX6_goBack f x1 = ((-1000000003), f) := (if_neg c_6).trans ((if_pos c_20))
    exact e_wi hx hb hr hlk hK hP hD hS dX6_goBack_25 (congrArg Prod.fst hρ).symm (congrArg (fun z => (MW cI h a z.2 ++ X)) hρ).symm
  have c_6 : (kX6_in f x1 0 1) = 0 := c_6
  refine lv_ldc (v := (-1000000001)) hx hb hown (hts (.constant RX6 102 (-1000000001)) (by decide +kernel)) dX6_goBack_9 ?_
  have hρ : kX6_goBack f x1 = ((-1000000001), f) := (if_pos c_6)
  exact e_wi hx hb hr hlk hK hP hD hS dX6_goBack_11 (congrArg Prod.fst hρ).symm (congrArg (fun z => (MW cI h a z.2 ++ X)) hρ).symm
