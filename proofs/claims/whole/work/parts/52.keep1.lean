theorem ndX3_stepTo : yX3_stepTo.cls = RX3 ∧ yX3_stepTo.cls ≠ "java/lang/invoke/MethodHandle" ∧ yX3_stepTo.cls ≠ "java/lang/invoke/VarHandle" ∧ (parseMethodDescriptor yX3_stepTo.desc).map (fun d => d.parameters.length) = some 2 := by decide +kernel
set_option maxHeartbeats 4000000 in
set_option maxRecDepth 100000 in
theorem okX3_stepTo (l : Launch) (D : va_G) (cI cZ cQ : ClassId) (h : Nat) (a : Nat → Nat) (X : va_W) (f : Nat → Nat → Int32) (x1 x2 : Int32) (sz : Nat) (t : Nat) (h1 : vp_in x1 7) : Met l yX3_stepTo wsX3_stepTo ({ frames := 1, cells := 0, slots := 0, locals := 21 }) (PWt [.ref h, .int x1, .int x2] sz D (TY cI cZ cQ) (LW cI h a f ++ X) t) (QI (kX3_stepTo f x1 x2).1 D (TY cI cZ cQ) (LW cI h a (kX3_stepTo f x1 x2).2 ++ X) (va_A (LW cI h a f ++ X) sz)) 0 0 (va_A (LW cI h a f ++ X) sz) := by
  refine m_wt (cc := cX3_stepTo) (maxL := 4) (ret := (some .int)) (by decide) rfl (Nat.le_of_ble_eq_true rfl) (lv0 := [(0, .ref h), (1, .int x1), (2, .int x2)]) rfl ?_
  intro p e s m below meth c ls A hAe S hr hlk hP hK hD hS hA hPT hl
  rw [← hAe]
  have S : CallFix p m c cX3_stepTo 4 s ([.ref h, .int x1, .int x2] : List Value).toArray wsX3_stepTo RX3 := S
  have hx := S.1
  have hb := S.2.1
  have hown : s.vm.findClass RX3 = some m.cls := S.2.2.2.1
  have hts := S.2.2.2.2
  have hinX3 : ∀ w ∈ wsX30, w ∈ wsX3_stepTo := by decide +kernel
  refine va_gets hx hb hPT.1 hS hown (hts (.fieldLink RX3 80 "AxleKeeper$Line" "PLACE" "[I") (by decide +kernel)) (fun _ h9 => h9) dX3_stepTo_0 ?_
  refine lv_iload_n hx hb dX3_stepTo_3 rfl (lv_at hl 2 rfl) ?_
  refine lv_iconst (v := 3) hx hb dX3_stepTo_4 (by decide) ?_
  refine lv_iand hx hb dX3_stepTo_5 ?_
  refine va_ti hx hb hPT.2 hS (and3_in _) (v := .int (plcI (ix (x2 &&& 3)))) rfl dX3_stepTo_6 ?_
  refine va_gets hx hb hPT.1 hS hown (hts (.fieldLink RX3 80 "AxleKeeper$Line" "PLACE" "[I") (by decide +kernel)) (fun _ h9 => h9) dX3_stepTo_7 ?_
  refine lv_aload_n hx hb dX3_stepTo_10 rfl (lv_at hl 0 rfl) ?_
  refine va_get (v := .ref (a 3)) (C := RX3) (T := TX3) (N := 15) (ci := 3) hx hb hts hinX3 hown hK hP 0 rfl rfl 3 (by decide) (hts (.fieldLink RX3 11 "AxleKeeper$Line" "state" "[I") (by decide +kernel)) (fun _ h9 => h9) rfl dX3_stepTo_11 ?_
  refine lv_iload_n hx hb dX3_stepTo_14 rfl (lv_at hl 1 rfl) ?_
  refine va_iald hx hb hK hP 1 0 rfl rfl (n := 7) (by assumption) dX3_stepTo_15 ?_
  refine lv_iconst (v := 3) hx hb dX3_stepTo_16 (by decide) ?_
  refine lv_iand hx hb dX3_stepTo_17 ?_
  refine va_ti hx hb hPT.2 hS (and3_in _) (v := .int (plcI (ix ((f 3 (ix x1)) &&& 3)))) rfl dX3_stepTo_18 ?_
  refine lv_isub hx hb dX3_stepTo_19 ?_
  refine lv_iconst (v := 3) hx hb dX3_stepTo_20 (by decide) ?_
  refine lv_iand hx hb dX3_stepTo_21 ?_
  refine lv_istore_n (lv' := [(3, .int (((plcI (ix (x2 &&& 3))) - (plcI (ix ((f 3 (ix x1)) &&& 3)))) &&& 3)), (0, .ref h), (1, .int x1), (2, .int x2)]) hx hb dX3_stepTo_22 rfl hl (by decide) rfl (fun ls hl => ?_)
  refine lv_iload_n hx hb dX3_stepTo_23 rfl (lv_at hl 0 rfl) ?_
  refine lv_iconst (v := 2) hx hb dX3_stepTo_24 (by decide) ?_
  refine lv_icmp_ne (tgt := 37) hx hb dX3_stepTo_25 (by decide) (fun c_25 => ?_) (fun c_25 => ?_)
  · have c_25 : ¬ ((((plcI (ix (x2 &&& 3))) - (plcI (ix ((f 3 (ix x1)) &&& 3)))) &&& 3) = 2) := c_25
    refine lv_aload_n hx hb dX3_stepTo_37 rfl (lv_at hl 1 rfl) ?_
    refine va_get (v := .ref (a 3)) (C := RX3) (T := TX3) (N := 15) (ci := 3) hx hb hts hinX3 hown hK hP 0 rfl rfl 3 (by decide) (hts (.fieldLink RX3 11 "AxleKeeper$Line" "state" "[I") (by decide +kernel)) (fun _ h9 => h9) rfl dX3_stepTo_38 ?_
    refine lv_iload_n hx hb dX3_stepTo_41 rfl (lv_at hl 2 rfl) ?_
    refine lv_iload_n hx hb dX3_stepTo_42 rfl (lv_at hl 3 rfl) ?_
    refine st_L3 (x := x2) hx hb hK hP hD hS (by assumption) dX3_stepTo_43 (fun H locs hP hD hS => ?_)
    refine lv_aload_n hx hb dX3_stepTo_44 rfl (lv_at hl 1 rfl) ?_
    refine va_get (v := .ref (a 4)) (C := RX3) (T := TX3) (N := 15) (ci := 3) hx hb hts hinX3 hown hK hP 0 rfl rfl 4 (by decide) (hts (.fieldLink RX3 15 "AxleKeeper$Line" "wheel" "[I") (by decide +kernel)) (fun _ h9 => h9) rfl dX3_stepTo_45 ?_
    refine lv_iload_n hx hb dX3_stepTo_48 rfl (lv_at hl 2 rfl) ?_
    refine lv_dup2_11 hx hb dX3_stepTo_49 rfl rfl ?_
    refine va_iald hx hb hK hP 2 0 rfl rfl (n := 7) (by assumption) dX3_stepTo_50 ?_
    refine lv_iload_n hx hb dX3_stepTo_51 rfl (lv_at hl 0 rfl) ?_
    refine lv_iconst (v := 1) hx hb dX3_stepTo_52 (by decide) ?_
    refine lv_icmp_ne (tgt := 60) hx hb dX3_stepTo_53 (by decide) (fun c_53 => ?_) (fun c_53 => ?_)
    · have c_53 : ¬ ((((plcI (ix (x2 &&& 3))) - (plcI (ix ((f 3 (ix x1)) &&& 3)))) &&& 3) = 1) := c_53
      refine lv_iconst (v := (-1)) hx hb dX3_stepTo_60 (by decide) ?_
      refine lv_iadd hx hb dX3_stepTo_61 ?_
      refine st_L4 (x := ((f 4 (ix x1)) + (-1))) hx hb hK hP hD hS (by assumption) dX3_stepTo_62 (fun H locs hP hD hS => ?_)
      refine lv_aload_n hx hb dX3_stepTo_63 rfl (lv_at hl 1 rfl) ?_
      refine lv_iload_n hx hb dX3_stepTo_64 rfl (lv_at hl 2 rfl) ?_
      refine k_wi (As := [.int x1]) (rest := []) (bytes := cX3_countWheel) (C := RX3) S (okX3_countWheel l D cI cZ cQ h a X (up2 (up2 f 3 (ix x1) x2) 4 (ix x1) ((f 4 (ix x1)) + (-1))) x1 _ (by assumption)) gX3_stepTo_X3_countWheel rfl ⟨rfl, rfl⟩ ndX3_countWheel ⟨Nat.le_of_ble_eq_true rfl, Nat.le_of_ble_eq_true rfl⟩ hK hP hD hS hA 0 rfl rfl rfl hl rfl (Nat.le_of_ble_eq_true rfl) dX3_stepTo_65 ⟨Nat.zero_le _, Nat.zero_le _⟩ (fun H locs hP hD hS => ?_)
      have hP : va_P D vwCl (LW cI h a (kX3_countWheel (up2 (up2 f 3 (ix x1) x2) 4 (ix x1) ((f 4 (ix x1)) + (-1))) x1).2 ++ X) H := hP
      have hD : va_D A (LW cI h a (kX3_countWheel (up2 (up2 f 3 (ix x1) x2) 4 (ix x1) ((f 4 (ix x1)) + (-1))) x1).2 ++ X) := hD
      have hρ : kX3_stepTo f x1 x2 = ((kX3_countWheel (up2 (up2 f 3 (ix x1) x2) 4 (ix x1) ((f 4 (ix x1)) + (-1))) x1).1, (kX3_countWheel (up2 (up2 f 3 (ix x1) x2) 4 (ix x1) ((f 4 (ix x1)) + (-1))) x1).2) := (if_neg c_25).trans ((if_neg c_53))
      exact e_wi hx hb hr hlk hK hP hD hS dX3_stepTo_68 (congrArg Prod.fst hρ).symm (congrArg (fun z => (LW cI h a z.2 ++ X)) hρ).symm
    have c_53 : (((plcI (ix (x2 &&& 3))) - (plcI (ix ((f 3 (ix x1)) &&& 3)))) &&& 3) = 1 := c_53
    refine lv_iconst (v := 1) hx hb dX3_stepTo_56 (by decide) ?_
    refine lv_goto (tgt := 61) hx hb dX3_stepTo_57 (by decide) ?_
    refine lv_iadd hx hb dX3_stepTo_61 ?_
    refine st_L4 (x := ((f 4 (ix x1)) + 1)) hx hb hK hP hD hS (by assumption) dX3_stepTo_62 (fun H locs hP hD hS => ?_)
    refine lv_aload_n hx hb dX3_stepTo_63 rfl (lv_at hl 1 rfl) ?_
    refine lv_iload_n hx hb dX3_stepTo_64 rfl (lv_at hl 2 rfl) ?_
    refine k_wi (As := [.int x1]) (rest := []) (bytes := cX3_countWheel) (C := RX3) S (okX3_countWheel l D cI cZ cQ h a X (up2 (up2 f 3 (ix x1) x2) 4 (ix x1) ((f 4 (ix x1)) + 1)) x1 _ (by assumption)) gX3_stepTo_X3_countWheel rfl ⟨rfl, rfl⟩ ndX3_countWheel ⟨Nat.le_of_ble_eq_true rfl, Nat.le_of_ble_eq_true rfl⟩ hK hP hD hS hA 0 rfl rfl rfl hl rfl (Nat.le_of_ble_eq_true rfl) dX3_stepTo_65 ⟨Nat.zero_le _, Nat.zero_le _⟩ (fun H locs hP hD hS => ?_)
    have hP : va_P D vwCl (LW cI h a (kX3_countWheel (up2 (up2 f 3 (ix x1) x2) 4 (ix x1) ((f 4 (ix x1)) + 1)) x1).2 ++ X) H := hP
    have hD : va_D A (LW cI h a (kX3_countWheel (up2 (up2 f 3 (ix x1) x2) 4 (ix x1) ((f 4 (ix x1)) + 1)) x1).2 ++ X) := hD
    have hρ : kX3_stepTo f x1 x2 = ((kX3_countWheel (up2 (up2 f 3 (ix x1) x2) 4 (ix x1) ((f 4 (ix x1)) + 1)) x1).1, (kX3_countWheel (up2 (up2 f 3 (ix x1) x2) 4 (ix x1) ((f 4 (ix x1)) + 1)) x1).2) := (if_neg c_25).trans ((if_pos c_53))
    exact e_wi hx hb hr hlk hK hP hD hS dX3_stepTo_68 (congrArg Prod.fst hρ).symm (congrArg (fun z => (LW cI h a z.2 ++ X)) hρ).symm
  have c_25 : (((plcI (ix (x2 &&& 3))) - (plcI (ix ((f 3 (ix x1)) &&& 3)))) &&& 3) = 2 := c_25
  refine lv_aload_n hx hb dX3_stepTo_28 rfl (lv_at hl 1 rfl) ?_
  refine va_get (v := .ref (a 6)) (C := RX3) (T := TX3) (N := 15) (ci := 3) hx hb hts hinX3 hown hK hP 0 rfl rfl 6 (by decide) (hts (.fieldLink RX3 21 "AxleKeeper$Line" "faulty" "[I") (by decide +kernel)) (fun _ h9 => h9) rfl dX3_stepTo_29 ?_
  refine lv_iload_n hx hb dX3_stepTo_32 rfl (lv_at hl 2 rfl) ?_
  refine lv_iconst (v := 1) hx hb dX3_stepTo_33 (by decide) ?_
  refine st_L6 (x := 1) hx hb hK hP hD hS (by assumption) dX3_stepTo_34 (fun H locs hP hD hS => ?_)
  refine lv_iconst (v := 3) hx hb dX3_stepTo_35 (by decide) ?_
  have hρ : kX3_stepTo f x1 x2 = (3, (up2 f 6 (ix x1) 1)) := (if_pos c_25)
  exact e_wi hx hb hr hlk hK hP hD hS dX3_stepTo_36 (congrArg Prod.fst hρ).symm (congrArg (fun z => (LW cI h a z.2 ++ X)) hρ).symm
theorem ndX4_add : yX4_add.cls = RX4 ∧ yX4_add.cls ≠ "java/lang/invoke/MethodHandle" ∧ yX4_add.cls ≠ "java/lang/invoke/VarHandle" ∧ (parseMethodDescriptor yX4_add.desc).map (fun d => d.parameters.length) = some 1 := by decide +kernel
set_option maxHeartbeats 4000000 in
set_option maxRecDepth 100000 in
theorem okX4_add (l : Launch) (D : va_G) (cI cZ cQ : ClassId) (h : Nat) (a b : Nat → Nat) (X : va_W) (f g : Nat → Nat → Int32) (sz : Nat) (hn : vp_in (g 2 0) 16) : Met l yX4_add wsX4_add ({ frames := 3, cells := 0, slots := 0, locals := 62 }) (PW [.ref (b 2), .ref h] sz D (TY cI cZ cQ) (LW cI h a f ++ (KR cI cZ cQ h b g ++ X))) (QV D (TY cI cZ cQ) (LW cI h a f ++ (KR cI cZ cQ h b (kX4_add f g) ++ X)) (va_A (LW cI h a f ++ (KR cI cZ cQ h b g ++ X)) sz)) 0 0 (va_A (LW cI h a f ++ (KR cI cZ cQ h b g ++ X)) sz) := by
  refine m_wr (cc := cX4_add) (maxL := 2) (ret := none) (by decide) rfl (Nat.le_of_ble_eq_true rfl) (lv0 := [(0, .ref (b 2)), (1, .ref h)]) rfl ?_
  intro p e s m below meth c ls A hAe S hr hlk hP hK hD hS hA hl
  rw [← hAe]
  have S : CallFix p m c cX4_add 2 s ([.ref (b 2), .ref h] : List Value).toArray wsX4_add RX4 := S
  have hx := S.1
  have hb := S.2.1
  have hown : s.vm.findClass RX4 = some m.cls := S.2.2.2.1
  have hts := S.2.2.2.2
  have hinX4 : ∀ w ∈ wsX40, w ∈ wsX4_add := by decide +kernel
  refine lv_aload_n hx hb dX4_add_0 rfl (lv_at hl 1 rfl) ?_
  refine lv_aload_n hx hb dX4_add_1 rfl (lv_at hl 0 rfl) ?_
  refine va_get (v := .ref (b 3)) (C := RX4) (T := TX4) (N := 3) (ci := 4) hx hb hts hinX4 hown hK hP 15 rfl rfl 0 (by decide) (hts (.fieldLink RX4 13 "AxleKeeper$Past" "rows" "[[I") (by decide +kernel)) (fun _ h9 => h9) rfl dX4_add_2 ?_
  refine lv_aload_n hx hb dX4_add_5 rfl (lv_at hl 0 rfl) ?_
  refine va_get (v := .int (g 2 0)) (C := RX4) (T := TX4) (N := 3) (ci := 4) hx hb hts hinX4 hown hK hP 15 rfl rfl 1 (by decide) (hts (.fieldLink RX4 16 "AxleKeeper$Past" "next" "I") (by decide +kernel)) (fun _ h9 => h9) rfl dX4_add_6 ?_
  refine ld_row hx hb hK hP 16 2 rfl rfl hn (r := b (14 + (ix (g 2 0)))) (rw16_at hn) dX4_add_9 ?_
  refine k_wv (As := [.ref (b (14 + (ix (g 2 0))))]) (rest := []) (bytes := cX3_save) (C := RX3) S (okX3_saveK l D cI cZ cQ h a b X f g (14 + (ix (g 2 0))) _ (row16 hn)) gX4_add_X3_save rfl ⟨rfl, rfl⟩ ndX3_save ⟨Nat.le_of_ble_eq_true rfl, Nat.le_of_ble_eq_true rfl⟩ hK hP hD hS hA 0 rfl rfl rfl hl rfl (Nat.le_of_ble_eq_true rfl) dX4_add_10 ⟨Nat.zero_le _, Nat.zero_le _⟩ (fun H locs hP hD hS => ?_)
  refine lv_aload_n hx hb dX4_add_13 rfl (lv_at hl 0 rfl) ?_
  refine lv_aload_n hx hb dX4_add_14 rfl (lv_at hl 0 rfl) ?_
  refine va_get (v := .int ((rp g (14 + (ix (g 2 0))) (pkL f (g (14 + (ix (g 2 0)))))) 2 0)) (C := RX4) (T := TX4) (N := 3) (ci := 4) hx hb hts hinX4 hown hK hP 15 rfl rfl 1 (by decide) (hts (.fieldLink RX4 16 "AxleKeeper$Past" "next" "I") (by decide +kernel)) (fun _ h9 => h9) rfl dX4_add_15 ?_
  refine lv_iconst (v := 1) hx hb dX4_add_18 (by decide) ?_
  refine lv_iadd hx hb dX4_add_19 ?_
  refine lv_bipush (v := 16) hx hb dX4_add_20 (by decide) ?_
  refine lv_irem hx hb dX4_add_22 (by decide) ?_
  refine pf_K2 (x := (remI (((rp g (14 + (ix (g 2 0))) (pkL f (g (14 + (ix (g 2 0)))))) 2 0) + 1) 16)) S hinX4 hK hP hD hS (hts (.fieldLink RX4 16 "AxleKeeper$Past" "next" "I") (by decide +kernel)) dX4_add_23 (fun H locs hP hD hS => ?_)
  refine lv_aload_n hx hb dX4_add_26 rfl (lv_at hl 0 rfl) ?_
  refine va_get (v := .int ((rp g (14 + (ix (g 2 0))) (pkL f (g (14 + (ix (g 2 0)))))) 3 0)) (C := RX4) (T := TX4) (N := 3) (ci := 4) hx hb hts hinX4 hown hK hP 15 rfl rfl 2 (by decide) (hts (.fieldLink RX4 24 "AxleKeeper$Past" "size" "I") (by decide +kernel)) (fun _ h9 => h9) rfl dX4_add_27 ?_
  refine lv_bipush (v := 16) hx hb dX4_add_30 (by decide) ?_
  refine lv_icmp_ge (tgt := 45) hx hb dX4_add_32 (by decide) (fun c_32 => ?_) (fun c_32 => ?_)
  · have c_32 : 16 ≤ ((rp g (14 + (ix (g 2 0))) (pkL f (g (14 + (ix (g 2 0)))))) 3 0) := c_32
    have hρ : kX4_add f g = (up2 (rp g (14 + (ix (g 2 0))) (pkL f (g (14 + (ix (g 2 0)))))) 2 0 (remI (((rp g (14 + (ix (g 2 0))) (pkL f (g (14 + (ix (g 2 0)))))) 2 0) + 1) 16)) := (if_pos c_32)
    exact e_wv hx hb hr hlk hK hP hD hS dX4_add_45 (congrArg (fun z => (LW cI h a f ++ (KR cI cZ cQ h b z ++ X))) hρ).symm
  have c_32 : ¬ (16 ≤ ((rp g (14 + (ix (g 2 0))) (pkL f (g (14 + (ix (g 2 0)))))) 3 0)) := c_32
  refine lv_aload_n hx hb dX4_add_35 rfl (lv_at hl 0 rfl) ?_
  refine lv_dup hx hb dX4_add_36 rfl ?_
  refine va_get (v := .int ((rp g (14 + (ix (g 2 0))) (pkL f (g (14 + (ix (g 2 0)))))) 3 0)) (C := RX4) (T := TX4) (N := 3) (ci := 4) hx hb hts hinX4 hown hK hP 15 rfl rfl 2 (by decide) (hts (.fieldLink RX4 24 "AxleKeeper$Past" "size" "I") (by decide +kernel)) (fun _ h9 => h9) rfl dX4_add_37 ?_
  refine lv_iconst (v := 1) hx hb dX4_add_40 (by decide) ?_
  refine lv_iadd hx hb dX4_add_41 ?_
  refine pf_K3 (x := (((rp g (14 + (ix (g 2 0))) (pkL f (g (14 + (ix (g 2 0)))))) 3 0) + 1)) S hinX4 hK hP hD hS (hts (.fieldLink RX4 24 "AxleKeeper$Past" "size" "I") (by decide +kernel)) dX4_add_42 (fun H locs hP hD hS => ?_)
  have hρ : kX4_add f g = (up2 (up2 (rp g (14 + (ix (g 2 0))) (pkL f (g (14 + (ix (g 2 0)))))) 2 0 (remI (((rp g (14 + (ix (g 2 0))) (pkL f (g (14 + (ix (g 2 0)))))) 2 0) + 1) 16)) 3 0 (((rp g (14 + (ix (g 2 0))) (pkL f (g (14 + (ix (g 2 0)))))) 3 0) + 1)) := (if_neg c_32)
  exact e_wv hx hb hr hlk hK hP hD hS dX4_add_45 (congrArg (fun z => (LW cI h a f ++ (KR cI cZ cQ h b z ++ X))) hρ).symm
theorem ndX4_takeBack : yX4_takeBack.cls = RX4 ∧ yX4_takeBack.cls ≠ "java/lang/invoke/MethodHandle" ∧ yX4_takeBack.cls ≠ "java/lang/invoke/VarHandle" ∧ (parseMethodDescriptor yX4_takeBack.desc).map (fun d => d.parameters.length) = some 2 := by decide +kernel
set_option maxHeartbeats 4000000 in
set_option maxRecDepth 100000 in
theorem okX4_takeBack (l : Launch) (D : va_G) (cI cZ cQ : ClassId) (h : Nat) (a b : Nat → Nat) (X : va_W) (f g : Nat → Nat → Int32) (x1 : Int32) (sz : Nat) (hn : vp_in (g 2 0) 16) (hsz : vp_in (g 3 0) 17) : Met l yX4_takeBack wsX4_takeBack ({ frames := 3, cells := 0, slots := 0, locals := 62 }) (PW [.ref (b 2), .int x1, .ref h] sz D (TY cI cZ cQ) (LW cI h a f ++ (KR cI cZ cQ h b g ++ X))) (QV D (TY cI cZ cQ) (LW cI h a (kX4_takeBack f g x1).1 ++ (KR cI cZ cQ h b (kX4_takeBack f g x1).2 ++ X)) (va_A (LW cI h a f ++ (KR cI cZ cQ h b g ++ X)) sz)) 0 0 (va_A (LW cI h a f ++ (KR cI cZ cQ h b g ++ X)) sz) := by
  refine m_wr (cc := cX4_takeBack) (maxL := 3) (ret := none) (by decide) rfl (Nat.le_of_ble_eq_true rfl) (lv0 := [(0, .ref (b 2)), (1, .int x1), (2, .ref h)]) rfl ?_
  intro p e s m below meth c ls A hAe S hr hlk hP hK hD hS hA hl
  rw [← hAe]
  have S : CallFix p m c cX4_takeBack 3 s ([.ref (b 2), .int x1, .ref h] : List Value).toArray wsX4_takeBack RX4 := S
  have hx := S.1
  have hb := S.2.1
  have hown : s.vm.findClass RX4 = some m.cls := S.2.2.2.1
  have hts := S.2.2.2.2
  have hinX4 : ∀ w ∈ wsX40, w ∈ wsX4_takeBack := by decide +kernel
  refine lv_iload_n hx hb dX4_takeBack_0 rfl (lv_at hl 1 rfl) ?_
  refine lv_iconst (v := 1) hx hb dX4_takeBack_1 (by decide) ?_
  refine lv_icmp_lt (tgt := 13) hx hb dX4_takeBack_2 (by decide) (fun c_2 => ?_) (fun c_2 => ?_)
  · have c_2 : x1 < 1 := c_2
    have hρ : kX4_takeBack f g x1 = (f, g) := (if_pos c_2)
    exact e_wv hx hb hr hlk hK hP hD hS dX4_takeBack_13 (congrArg (fun z => (LW cI h a z.1 ++ (KR cI cZ cQ h b z.2 ++ X))) hρ).symm
  have c_2 : ¬ (x1 < 1) := c_2
  refine lv_iload_n hx hb dX4_takeBack_5 rfl (lv_at hl 1 rfl) ?_
  refine lv_aload_n hx hb dX4_takeBack_6 rfl (lv_at hl 0 rfl) ?_
  refine va_get (v := .int (g 3 0)) (C := RX4) (T := TX4) (N := 3) (ci := 4) hx hb hts hinX4 hown hK hP 15 rfl rfl 2 (by decide) (hts (.fieldLink RX4 24 "AxleKeeper$Past" "size" "I") (by decide +kernel)) (fun _ h9 => h9) rfl dX4_takeBack_7 ?_
  refine lv_icmp_le (tgt := 14) hx hb dX4_takeBack_10 (by decide) (fun c_10 => ?_) (fun c_10 => ?_)
  · have c_10 : x1 ≤ (g 3 0) := c_10
    refine lv_aload_n hx hb dX4_takeBack_14 rfl (lv_at hl 0 rfl) ?_
    refine lv_aload_n hx hb dX4_takeBack_15 rfl (lv_at hl 0 rfl) ?_
    refine va_get (v := .int (g 2 0)) (C := RX4) (T := TX4) (N := 3) (ci := 4) hx hb hts hinX4 hown hK hP 15 rfl rfl 1 (by decide) (hts (.fieldLink RX4 16 "AxleKeeper$Past" "next" "I") (by decide +kernel)) (fun _ h9 => h9) rfl dX4_takeBack_16 ?_
    refine lv_bipush (v := 16) hx hb dX4_takeBack_19 (by decide) ?_
    refine lv_iadd hx hb dX4_takeBack_21 ?_
    refine lv_iload_n hx hb dX4_takeBack_22 rfl (lv_at hl 1 rfl) ?_
    refine lv_isub hx hb dX4_takeBack_23 ?_
    refine lv_bipush (v := 16) hx hb dX4_takeBack_24 (by decide) ?_
    refine lv_irem hx hb dX4_takeBack_26 (by decide) ?_
    refine pf_K2 (x := (remI (((g 2 0) + 16) - x1) 16)) S hinX4 hK hP hD hS (hts (.fieldLink RX4 16 "AxleKeeper$Past" "next" "I") (by decide +kernel)) dX4_takeBack_27 (fun H locs hP hD hS => ?_)
    refine lv_aload_n hx hb dX4_takeBack_30 rfl (lv_at hl 0 rfl) ?_
    refine lv_dup hx hb dX4_takeBack_31 rfl ?_
    refine va_get (v := .int (g 3 0)) (C := RX4) (T := TX4) (N := 3) (ci := 4) hx hb hts hinX4 hown hK hP 15 rfl rfl 2 (by decide) (hts (.fieldLink RX4 24 "AxleKeeper$Past" "size" "I") (by decide +kernel)) (fun _ h9 => h9) rfl dX4_takeBack_32 ?_
    refine lv_iload_n hx hb dX4_takeBack_35 rfl (lv_at hl 1 rfl) ?_
    refine lv_isub hx hb dX4_takeBack_36 ?_
    refine pf_K3 (x := ((g 3 0) - x1)) S hinX4 hK hP hD hS (hts (.fieldLink RX4 24 "AxleKeeper$Past" "size" "I") (by decide +kernel)) dX4_takeBack_37 (fun H locs hP hD hS => ?_)
    refine lv_aload_n hx hb dX4_takeBack_40 rfl (lv_at hl 2 rfl) ?_
    refine lv_aload_n hx hb dX4_takeBack_41 rfl (lv_at hl 0 rfl) ?_
    refine va_get (v := .ref (b 3)) (C := RX4) (T := TX4) (N := 3) (ci := 4) hx hb hts hinX4 hown hK hP 15 rfl rfl 0 (by decide) (hts (.fieldLink RX4 13 "AxleKeeper$Past" "rows" "[[I") (by decide +kernel)) (fun _ h9 => h9) rfl dX4_takeBack_42 ?_
    refine lv_aload_n hx hb dX4_takeBack_45 rfl (lv_at hl 0 rfl) ?_
    refine va_get (v := .int (remI (((g 2 0) + 16) - x1) 16)) (C := RX4) (T := TX4) (N := 3) (ci := 4) hx hb hts hinX4 hown hK hP 15 rfl rfl 1 (by decide) (hts (.fieldLink RX4 16 "AxleKeeper$Past" "next" "I") (by decide +kernel)) (fun _ h9 => h9) rfl dX4_takeBack_46 ?_
    refine ld_row hx hb hK hP 16 2 rfl rfl (tb_in hn hsz c_2 c_10) (r := b (14 + (ix (remI (((g 2 0) + 16) - x1) 16)))) (rw16_at (tb_in hn hsz c_2 c_10)) dX4_takeBack_49 ?_
    refine k_wv (As := [.ref (b (14 + (ix (remI (((g 2 0) + 16) - x1) 16))))]) (rest := []) (bytes := cX3_load) (C := RX3) S (okX3_loadK l D cI cZ cQ h a b X f (up2 (up2 g 2 0 (remI (((g 2 0) + 16) - x1) 16)) 3 0 ((g 3 0) - x1)) (14 + (ix (remI (((g 2 0) + 16) - x1) 16))) _ (row16 (tb_in hn hsz c_2 c_10))) gX4_takeBack_X3_load rfl ⟨rfl, rfl⟩ ndX3_load ⟨Nat.le_of_ble_eq_true rfl, Nat.le_of_ble_eq_true rfl⟩ hK hP hD hS hA 0 rfl rfl rfl hl rfl (Nat.le_of_ble_eq_true rfl) dX4_takeBack_50 ⟨Nat.zero_le _, Nat.zero_le _⟩ (fun H locs hP hD hS => ?_)
    have hρ : kX4_takeBack f g x1 = ((unL f ((up2 (up2 g 2 0 (remI (((g 2 0) + 16) - x1) 16)) 3 0 ((g 3 0) - x1)) (14 + (ix (remI (((g 2 0) + 16) - x1) 16))))), (up2 (up2 g 2 0 (remI (((g 2 0) + 16) - x1) 16)) 3 0 ((g 3 0) - x1))) := (if_neg c_2).trans ((if_pos c_10))
    exact e_wv hx hb hr hlk hK hP hD hS dX4_takeBack_53 (congrArg (fun z => (LW cI h a z.1 ++ (KR cI cZ cQ h b z.2 ++ X))) hρ).symm
  have c_10 : ¬ (x1 ≤ (g 3 0)) := c_10
  have hρ : kX4_takeBack f g x1 = (f, g) := (if_neg c_2).trans ((if_neg c_10))
  exact e_wv hx hb hr hlk hK hP hD hS dX4_takeBack_13 (congrArg (fun z => (LW cI h a z.1 ++ (KR cI cZ cQ h b z.2 ++ X))) hρ).symm
theorem ndX2_hasPlace : yX2_hasPlace.cls = RX2 ∧ yX2_hasPlace.cls ≠ "java/lang/invoke/MethodHandle" ∧ yX2_hasPlace.cls ≠ "java/lang/invoke/VarHandle" ∧ (parseMethodDescriptor yX2_hasPlace.desc).map (fun d => d.parameters.length) = some 1 := by decide +kernel
set_option maxHeartbeats 4000000 in
set_option maxRecDepth 100000 in
theorem okX2_hasPlace (l : Launch) (D : va_G) (cI cZ cQ : ClassId) (h : Nat) (a b : Nat → Nat) (X : va_W) (f g : Nat → Nat → Int32) (x1 : Int32) : Met l yX2_hasPlace wsX2_hasPlace ({ frames := 0, cells := 0, slots := 0, locals := 0 }) (PR [.ref (b 8), .int x1] D (TY cI cZ cQ) (LW cI h a f ++ (KR cI cZ cQ h b g ++ X))) (QR (kX2_hasPlace f g x1)) 0 0 (fun _ => False) := by
  refine m_rd (cc := cX2_hasPlace) (maxL := 2) (ret := (some .boolean)) (by decide) rfl (Nat.le_of_ble_eq_true rfl) (lv0 := [(0, .ref (b 8)), (1, .int x1)]) rfl ?_
  intro p e s m below meth c ls S hr hlk hP hK hl
  have S : CallFix p m c cX2_hasPlace 2 s ([.ref (b 8), .int x1] : List Value).toArray wsX2_hasPlace RX2 := S
  have hx := S.1
  have hb := S.2.1
  have hown : s.vm.findClass RX2 = some m.cls := S.2.2.2.1
  have hts := S.2.2.2.2
  refine lv_iload_n hx hb dX2_hasPlace_0 rfl (lv_at hl 1 rfl) ?_
  refine lv_if_lt (tgt := 13) hx hb dX2_hasPlace_1 (by decide) (fun c_1 => ?_) (fun c_1 => ?_)
  · have c_1 : x1 < 0 := c_1
    refine lv_iconst (v := 0) hx hb dX2_hasPlace_13 (by decide) ?_
    have hρ : kX2_hasPlace f g x1 = 0 := (if_pos c_1)
    exact e_rz hx hb hr hlk dX2_hasPlace_14 rfl hρ.symm
  have c_1 : ¬ (x1 < 0) := c_1
  refine lv_iload_n hx hb dX2_hasPlace_4 rfl (lv_at hl 1 rfl) ?_
  refine lv_iconst (v := 2) hx hb dX2_hasPlace_5 (by decide) ?_
  refine lv_icmp_ge (tgt := 13) hx hb dX2_hasPlace_6 (by decide) (fun c_6 => ?_) (fun c_6 => ?_)
  · have c_6 : 2 ≤ x1 := c_6
    refine lv_iconst (v := 0) hx hb dX2_hasPlace_13 (by decide) ?_
    have hρ : kX2_hasPlace f g x1 = 0 := (if_neg c_1).trans ((if_pos c_6))
    exact e_rz hx hb hr hlk dX2_hasPlace_14 rfl hρ.symm
  have c_6 : ¬ (2 ≤ x1) := c_6
  refine lv_iconst (v := 1) hx hb dX2_hasPlace_9 (by decide) ?_
  refine lv_goto (tgt := 14) hx hb dX2_hasPlace_10 (by decide) ?_
  have hρ : kX2_hasPlace f g x1 = 1 := (if_neg c_1).trans ((if_neg c_6))
  exact e_rz hx hb hr hlk dX2_hasPlace_14 rfl hρ.symm
theorem ndX2_take : yX2_take.cls = RX2 ∧ yX2_take.cls ≠ "java/lang/invoke/MethodHandle" ∧ yX2_take.cls ≠ "java/lang/invoke/VarHandle" ∧ (parseMethodDescriptor yX2_take.desc).map (fun d => d.parameters.length) = some 3 := by decide +kernel
set_option maxHeartbeats 4000000 in
set_option maxRecDepth 100000 in
theorem okX2_take (l : Launch) (D : va_G) (cI cZ cQ : ClassId) (h : Nat) (a b : Nat → Nat) (X : va_W) (f g : Nat → Nat → Int32) (x1 : Int32) (sz : Nat) (h1 : vp_in x1 2) : Met l yX2_take wsX2_take ({ frames := 3, cells := 0, slots := 0, locals := 62 }) (PW [.ref (b 8), .int x1, .ref h, .ref (b 7)] sz D (TY cI cZ cQ) (LW cI h a f ++ (KR cI cZ cQ h b g ++ X))) (QV D (TY cI cZ cQ) (LW cI h a f ++ (KR cI cZ cQ h b (kX2_take f g x1) ++ X)) (va_A (LW cI h a f ++ (KR cI cZ cQ h b g ++ X)) sz)) 0 0 (va_A (LW cI h a f ++ (KR cI cZ cQ h b g ++ X)) sz) := by
  refine m_wr (cc := cX2_take) (maxL := 4) (ret := none) (by decide) rfl (Nat.le_of_ble_eq_true rfl) (lv0 := [(0, .ref (b 8)), (1, .int x1), (2, .ref h), (3, .ref (b 7))]) rfl ?_
  intro p e s m below meth c ls A hAe S hr hlk hP hK hD hS hA hl
  rw [← hAe]
  have S : CallFix p m c cX2_take 4 s ([.ref (b 8), .int x1, .ref h, .ref (b 7)] : List Value).toArray wsX2_take RX2 := S
  have hx := S.1
  have hb := S.2.1
  have hown : s.vm.findClass RX2 = some m.cls := S.2.2.2.1
  have hts := S.2.2.2.2
  have hinX1 : ∀ w ∈ wsX10, w ∈ wsX2_take := by decide +kernel
  have hinX2 : ∀ w ∈ wsX20, w ∈ wsX2_take := by decide +kernel
  refine lv_aload_n hx hb dX2_take_0 rfl (lv_at hl 2 rfl) ?_
  refine lv_aload_n hx hb dX2_take_1 rfl (lv_at hl 0 rfl) ?_
  refine va_get (v := .ref (b 9)) (C := RX2) (T := TX2) (N := 3) (ci := 2) hx hb hts hinX2 hown hK hP 21 rfl rfl 0 (by decide) (hts (.fieldLink RX2 13 "AxleKeeper$Images" "rows" "[[I") (by decide +kernel)) (fun _ h9 => h9) rfl dX2_take_2 ?_
  refine lv_iload_n hx hb dX2_take_5 rfl (lv_at hl 1 rfl) ?_
  refine ld_row hx hb hK hP 22 2 rfl rfl h1 (r := b (12 + (ix x1))) (rw2_at h1) dX2_take_6 ?_
  refine k_wv (As := [.ref (b (12 + (ix x1)))]) (rest := []) (bytes := cX3_save) (C := RX3) S (okX3_saveK l D cI cZ cQ h a b X f g (12 + (ix x1)) _ (row2 h1)) gX2_take_X3_save rfl ⟨rfl, rfl⟩ ndX3_save ⟨Nat.le_of_ble_eq_true rfl, Nat.le_of_ble_eq_true rfl⟩ hK hP hD hS hA 0 rfl rfl rfl hl rfl (Nat.le_of_ble_eq_true rfl) dX2_take_7 ⟨Nat.zero_le _, Nat.zero_le _⟩ (fun H locs hP hD hS => ?_)
  refine lv_aload_n hx hb dX2_take_10 rfl (lv_at hl 0 rfl) ?_
  refine va_get (v := .ref (b 10)) (C := RX2) (T := TX2) (N := 3) (ci := 2) hx hb hts hinX2 hown hK hP 21 rfl rfl 1 (by decide) (hts (.fieldLink RX2 16 "AxleKeeper$Images" "seeds" "[I") (by decide +kernel)) (fun _ h9 => h9) rfl dX2_take_11 ?_
  refine lv_iload_n hx hb dX2_take_14 rfl (lv_at hl 1 rfl) ?_
  refine lv_aload_n hx hb dX2_take_15 rfl (lv_at hl 3 rfl) ?_
  refine va_get (v := .int ((rp g (12 + (ix x1)) (pkL f (g (12 + (ix x1))))) 7 0)) (C := RX1) (T := TX1) (N := 1) (ci := 1) hx hb hts hinX1 hown hK hP 20 rfl rfl 0 (by decide) (hts (.fieldLink RX2 28 "AxleKeeper$Draws" "latest" "I") (by decide +kernel)) (fun _ h9 => h9) rfl dX2_take_16 ?_
  refine st_K10 (x := ((rp g (12 + (ix x1)) (pkL f (g (12 + (ix x1))))) 7 0)) hx hb hK hP hD hS (by assumption) dX2_take_19 (fun H locs hP hD hS => ?_)
  refine lv_aload_n hx hb dX2_take_20 rfl (lv_at hl 0 rfl) ?_
  refine va_get (v := .ref (b 11)) (C := RX2) (T := TX2) (N := 3) (ci := 2) hx hb hts hinX2 hown hK hP 21 rfl rfl 2 (by decide) (hts (.fieldLink RX2 20 "AxleKeeper$Images" "kept" "[Z") (by decide +kernel)) (fun _ h9 => h9) rfl dX2_take_21 ?_
  refine lv_iload_n hx hb dX2_take_24 rfl (lv_at hl 1 rfl) ?_
  refine lv_iconst (v := 1) hx hb dX2_take_25 (by decide) ?_
  refine st_K11 (x := 1) hx hb hK hP hD hS (by assumption) dX2_take_26 (fun H locs hP hD hS => ?_)
  have hρ : kX2_take f g x1 = (up2 (up2 (rp g (12 + (ix x1)) (pkL f (g (12 + (ix x1))))) 10 (ix x1) ((rp g (12 + (ix x1)) (pkL f (g (12 + (ix x1))))) 7 0)) 11 (ix x1) (vp_nar .boolean 1)) := rfl
  exact e_wv hx hb hr hlk hK hP hD hS dX2_take_27 (congrArg (fun z => (LW cI h a f ++ (KR cI cZ cQ h b z ++ X))) hρ).symm
theorem ndX2_giveBack : yX2_giveBack.cls = RX2 ∧ yX2_giveBack.cls ≠ "java/lang/invoke/MethodHandle" ∧ yX2_giveBack.cls ≠ "java/lang/invoke/VarHandle" ∧ (parseMethodDescriptor yX2_giveBack.desc).map (fun d => d.parameters.length) = some 3 := by decide +kernel
set_option maxHeartbeats 4000000 in
set_option maxRecDepth 100000 in
theorem okX2_giveBack (l : Launch) (D : va_G) (cI cZ cQ : ClassId) (h : Nat) (a b : Nat → Nat) (X : va_W) (f g : Nat → Nat → Int32) (x1 : Int32) (sz : Nat) (h1 : vp_in x1 2) : Met l yX2_giveBack wsX2_giveBack ({ frames := 3, cells := 0, slots := 0, locals := 62 }) (PW [.ref (b 8), .int x1, .ref h, .ref (b 7)] sz D (TY cI cZ cQ) (LW cI h a f ++ (KR cI cZ cQ h b g ++ X))) (QV D (TY cI cZ cQ) (LW cI h a (kX2_giveBack f g x1).1 ++ (KR cI cZ cQ h b (kX2_giveBack f g x1).2 ++ X)) (va_A (LW cI h a f ++ (KR cI cZ cQ h b g ++ X)) sz)) 0 0 (va_A (LW cI h a f ++ (KR cI cZ cQ h b g ++ X)) sz) := by
  refine m_wr (cc := cX2_giveBack) (maxL := 4) (ret := none) (by decide) rfl (Nat.le_of_ble_eq_true rfl) (lv0 := [(0, .ref (b 8)), (1, .int x1), (2, .ref h), (3, .ref (b 7))]) rfl ?_
  intro p e s m below meth c ls A hAe S hr hlk hP hK hD hS hA hl
  rw [← hAe]
  have S : CallFix p m c cX2_giveBack 4 s ([.ref (b 8), .int x1, .ref h, .ref (b 7)] : List Value).toArray wsX2_giveBack RX2 := S
  have hx := S.1
  have hb := S.2.1
  have hown : s.vm.findClass RX2 = some m.cls := S.2.2.2.1
  have hts := S.2.2.2.2
  have hinX1 : ∀ w ∈ wsX10, w ∈ wsX2_giveBack := by decide +kernel
  have hinX2 : ∀ w ∈ wsX20, w ∈ wsX2_giveBack := by decide +kernel
  refine lv_aload_n hx hb dX2_giveBack_0 rfl (lv_at hl 2 rfl) ?_
  refine lv_aload_n hx hb dX2_giveBack_1 rfl (lv_at hl 0 rfl) ?_
  refine va_get (v := .ref (b 9)) (C := RX2) (T := TX2) (N := 3) (ci := 2) hx hb hts hinX2 hown hK hP 21 rfl rfl 0 (by decide) (hts (.fieldLink RX2 13 "AxleKeeper$Images" "rows" "[[I") (by decide +kernel)) (fun _ h9 => h9) rfl dX2_giveBack_2 ?_
  refine lv_iload_n hx hb dX2_giveBack_5 rfl (lv_at hl 1 rfl) ?_
  refine ld_row hx hb hK hP 22 2 rfl rfl h1 (r := b (12 + (ix x1))) (rw2_at h1) dX2_giveBack_6 ?_
  refine k_wv (As := [.ref (b (12 + (ix x1)))]) (rest := []) (bytes := cX3_load) (C := RX3) S (okX3_loadK l D cI cZ cQ h a b X f g (12 + (ix x1)) _ (row2 h1)) gX2_giveBack_X3_load rfl ⟨rfl, rfl⟩ ndX3_load ⟨Nat.le_of_ble_eq_true rfl, Nat.le_of_ble_eq_true rfl⟩ hK hP hD hS hA 0 rfl rfl rfl hl rfl (Nat.le_of_ble_eq_true rfl) dX2_giveBack_7 ⟨Nat.zero_le _, Nat.zero_le _⟩ (fun H locs hP hD hS => ?_)
  refine lv_aload_n hx hb dX2_giveBack_10 rfl (lv_at hl 3 rfl) ?_
  refine lv_aload_n hx hb dX2_giveBack_11 rfl (lv_at hl 0 rfl) ?_
  refine va_get (v := .ref (b 10)) (C := RX2) (T := TX2) (N := 3) (ci := 2) hx hb hts hinX2 hown hK hP 21 rfl rfl 1 (by decide) (hts (.fieldLink RX2 16 "AxleKeeper$Images" "seeds" "[I") (by decide +kernel)) (fun _ h9 => h9) rfl dX2_giveBack_12 ?_
  refine lv_iload_n hx hb dX2_giveBack_15 rfl (lv_at hl 1 rfl) ?_
  refine va_iald hx hb hK hP 23 0 rfl rfl (n := 2) (by assumption) dX2_giveBack_16 ?_
  refine pf_K7 (x := (g 10 (ix x1))) S hinX1 hK hP hD hS (hts (.fieldLink RX2 28 "AxleKeeper$Draws" "latest" "I") (by decide +kernel)) dX2_giveBack_17 (fun H locs hP hD hS => ?_)
  have hρ : kX2_giveBack f g x1 = ((unL f (g (12 + (ix x1)))), (up2 g 7 0 (g 10 (ix x1)))) := rfl
  exact e_wv hx hb hr hlk hK hP hD hS dX2_giveBack_20 (congrArg (fun z => (LW cI h a z.1 ++ (KR cI cZ cQ h b z.2 ++ X))) hρ).symm
theorem ndX0_add : yX0_add.cls = RX0 ∧ yX0_add.cls ≠ "java/lang/invoke/MethodHandle" ∧ yX0_add.cls ≠ "java/lang/invoke/VarHandle" ∧ (parseMethodDescriptor yX0_add.desc).map (fun d => d.parameters.length) = some 2 := by decide +kernel
set_option maxHeartbeats 4000000 in
set_option maxRecDepth 100000 in
theorem okX0_add (l : Launch) (D : va_G) (cI cZ cQ : ClassId) (h : Nat) (a b : Nat → Nat) (X : va_W) (f g : Nat → Nat → Int32) (x1 x2 : Int32) (sz : Nat) : Met l yX0_add wsX0_add ({ frames := 0, cells := 0, slots := 0, locals := 0 }) (PW [.ref (b 4), .int x1, .int x2] sz D (TY cI cZ cQ) (LW cI h a f ++ (KR cI cZ cQ h b g ++ X))) (QV D (TY cI cZ cQ) (LW cI h a f ++ (KR cI cZ cQ h b (kX0_add f g x1 x2) ++ X)) (va_A (LW cI h a f ++ (KR cI cZ cQ h b g ++ X)) sz)) 0 0 (va_A (LW cI h a f ++ (KR cI cZ cQ h b g ++ X)) sz) := by
  refine m_wr (cc := cX0_add) (maxL := 3) (ret := none) (by decide) rfl (Nat.le_of_ble_eq_true rfl) (lv0 := [(0, .ref (b 4)), (1, .int x1), (2, .int x2)]) rfl ?_
  intro p e s m below meth c ls A hAe S hr hlk hP hK hD hS hA hl
  rw [← hAe]
  have S : CallFix p m c cX0_add 3 s ([.ref (b 4), .int x1, .int x2] : List Value).toArray wsX0_add RX0 := S
  have hx := S.1
  have hb := S.2.1
  have hown : s.vm.findClass RX0 = some m.cls := S.2.2.2.1
  have hts := S.2.2.2.2
  have hinX0 : ∀ w ∈ wsX00, w ∈ wsX0_add := by decide +kernel
  refine lv_aload_n hx hb dX0_add_0 rfl (lv_at hl 0 rfl) ?_
  refine va_get (v := .int (g 4 0)) (C := RX0) (T := TX0) (N := 3) (ci := 0) hx hb hts hinX0 hown hK hP 17 rfl rfl 2 (by decide) (hts (.fieldLink RX0 18 "AxleKeeper$Book" "size" "I") (by decide +kernel)) (fun _ h9 => h9) rfl dX0_add_1 ?_
  refine lv_if_lt (tgt := 16) hx hb dX0_add_4 (by decide) (fun c_4 => ?_) (fun c_4 => ?_)
  · have c_4 : (g 4 0) < 0 := c_4
    have hρ : kX0_add f g x1 x2 = g := (if_pos c_4)
    exact e_wv hx hb hr hlk hK hP hD hS dX0_add_16 (congrArg (fun z => (LW cI h a f ++ (KR cI cZ cQ h b z ++ X))) hρ).symm
  have c_4 : ¬ ((g 4 0) < 0) := c_4
  refine lv_aload_n hx hb dX0_add_7 rfl (lv_at hl 0 rfl) ?_
  refine va_get (v := .int (g 4 0)) (C := RX0) (T := TX0) (N := 3) (ci := 0) hx hb hts hinX0 hown hK hP 17 rfl rfl 2 (by decide) (hts (.fieldLink RX0 18 "AxleKeeper$Book" "size" "I") (by decide +kernel)) (fun _ h9 => h9) rfl dX0_add_8 ?_
  refine lv_bipush (v := 20) hx hb dX0_add_11 (by decide) ?_
  refine lv_icmp_lt (tgt := 17) hx hb dX0_add_13 (by decide) (fun c_13 => ?_) (fun c_13 => ?_)
  · have c_13 : (g 4 0) < 20 := c_13
    have hv : vp_in (g 4 0) 20 := bk_in c_4 c_13
    refine lv_aload_n hx hb dX0_add_17 rfl (lv_at hl 0 rfl) ?_
    refine va_get (v := .ref (b 5)) (C := RX0) (T := TX0) (N := 3) (ci := 0) hx hb hts hinX0 hown hK hP 17 rfl rfl 0 (by decide) (hts (.fieldLink RX0 11 "AxleKeeper$Book" "sectionOf" "[I") (by decide +kernel)) (fun _ h9 => h9) rfl dX0_add_18 ?_
    refine lv_aload_n hx hb dX0_add_21 rfl (lv_at hl 0 rfl) ?_
    refine va_get (v := .int (g 4 0)) (C := RX0) (T := TX0) (N := 3) (ci := 0) hx hb hts hinX0 hown hK hP 17 rfl rfl 2 (by decide) (hts (.fieldLink RX0 18 "AxleKeeper$Book" "size" "I") (by decide +kernel)) (fun _ h9 => h9) rfl dX0_add_22 ?_
    refine lv_iload_n hx hb dX0_add_25 rfl (lv_at hl 1 rfl) ?_
    refine st_K5 (x := x1) hx hb hK hP hD hS (by assumption) dX0_add_26 (fun H locs hP hD hS => ?_)
    refine lv_aload_n hx hb dX0_add_27 rfl (lv_at hl 0 rfl) ?_
    refine va_get (v := .ref (b 6)) (C := RX0) (T := TX0) (N := 3) (ci := 0) hx hb hts hinX0 hown hK hP 17 rfl rfl 1 (by decide) (hts (.fieldLink RX0 15 "AxleKeeper$Book" "callOf" "[I") (by decide +kernel)) (fun _ h9 => h9) rfl dX0_add_28 ?_
    refine lv_aload_n hx hb dX0_add_31 rfl (lv_at hl 0 rfl) ?_
    refine va_get (v := .int (g 4 0)) (C := RX0) (T := TX0) (N := 3) (ci := 0) hx hb hts hinX0 hown hK hP 17 rfl rfl 2 (by decide) (hts (.fieldLink RX0 18 "AxleKeeper$Book" "size" "I") (by decide +kernel)) (fun _ h9 => h9) rfl dX0_add_32 ?_
    refine lv_iload_n hx hb dX0_add_35 rfl (lv_at hl 2 rfl) ?_
    refine st_K6 (x := x2) hx hb hK hP hD hS (by assumption) dX0_add_36 (fun H locs hP hD hS => ?_)
    refine lv_aload_n hx hb dX0_add_37 rfl (lv_at hl 0 rfl) ?_
    refine lv_dup hx hb dX0_add_38 rfl ?_
    refine va_get (v := .int (g 4 0)) (C := RX0) (T := TX0) (N := 3) (ci := 0) hx hb hts hinX0 hown hK hP 17 rfl rfl 2 (by decide) (hts (.fieldLink RX0 18 "AxleKeeper$Book" "size" "I") (by decide +kernel)) (fun _ h9 => h9) rfl dX0_add_39 ?_
    refine lv_iconst (v := 1) hx hb dX0_add_42 (by decide) ?_
    refine lv_iadd hx hb dX0_add_43 ?_
    refine pf_K4 (x := ((g 4 0) + 1)) S hinX0 hK hP hD hS (hts (.fieldLink RX0 18 "AxleKeeper$Book" "size" "I") (by decide +kernel)) dX0_add_44 (fun H locs hP hD hS => ?_)
    have hρ : kX0_add f g x1 x2 = (up2 (up2 (up2 g 5 (ix (g 4 0)) x1) 6 (ix (g 4 0)) x2) 4 0 ((g 4 0) + 1)) := (if_neg c_4).trans ((if_pos c_13))
    exact e_wv hx hb hr hlk hK hP hD hS dX0_add_47 (congrArg (fun z => (LW cI h a f ++ (KR cI cZ cQ h b z ++ X))) hρ).symm
  have c_13 : ¬ ((g 4 0) < 20) := c_13
  have hρ : kX0_add f g x1 x2 = g := (if_neg c_4).trans ((if_neg c_13))
  exact e_wv hx hb hr hlk hK hP hD hS dX0_add_16 (congrArg (fun z => (LW cI h a f ++ (KR cI cZ cQ h b z ++ X))) hρ).symm
theorem ndX0_firstWrong : yX0_firstWrong.cls = RX0 ∧ yX0_firstWrong.cls ≠ "java/lang/invoke/MethodHandle" ∧ yX0_firstWrong.cls ≠ "java/lang/invoke/VarHandle" ∧ (parseMethodDescriptor yX0_firstWrong.desc).map (fun d => d.parameters.length) = some 1 := by decide +kernel
set_option maxHeartbeats 4000000 in
set_option maxRecDepth 100000 in
theorem lpX0_firstWrong_2 {p : Program} {e : Env} {s : State} {m : MethodId} {below : List Frame} {meth : Method} {c : Code} (l : Launch) (D : va_G) (cI cZ cQ : ClassId) (h : Nat) (a b : Nat → Nat) (X : va_W) (f g : Nat → Nat → Int32) (S : CallFix p m c cX0_firstWrong 4 s ([.ref (b 4), .ref h] : List Value).toArray wsX0_firstWrong RX0) (hr : meth.sig.returnType = (some .int)) (hlk : meth.locks = false) (hK : va_K D vwCl (TY cI cZ cQ) s) (hok : okL f) (hP : va_P D vwCl (LW cI h a f ++ (KR cI cZ cQ h b g ++ X)) s.heap) : ∀ (n i : Nat), i ≤ 20 → 20 - i < n → ∀ {ls : Array Slot}, lv_has ls 4 [(0, .ref (b 4)), (1, .ref h), (2, .int (nI i))] → ∀ ρ : Int32, ρ = kX0_firstWrong_2  n i f g → W p l e { frames := 1, cells := 0, slots := 0, locals := 21 } s m ([.ref (b 4), .ref h] : List Value).toArray below meth c s.heap [] 0 0 (MQ below (QR ρ) ([.ref (b 4), .ref h] : List Value).toArray s 0 0 (fun _ => False)) (F0 m 2 ls []) := by
  have hx := S.1
  have hb := S.2.1
  have hown : s.vm.findClass RX0 = some m.cls := S.2.2.2.1
  have hts := S.2.2.2.2
  have hinX0 : ∀ w ∈ wsX00, w ∈ wsX0_firstWrong := by decide +kernel
  have hinX3 : ∀ w ∈ wsX30, w ∈ wsX0_firstWrong := by decide +kernel
  intro n
  induction n with
  | zero =>
    intro i  hi hn
    exact absurd hn (Nat.not_lt_zero _)
  | succ n ih =>
    intro i  hi hn  ls hl ρ hρ0
    refine lv_iload_n hx hb dX0_firstWrong_2 rfl (lv_at hl 2 rfl) ?_
    refine lv_aload_n hx hb dX0_firstWrong_3 rfl (lv_at hl 0 rfl) ?_
    refine va_get (v := .int (g 4 0)) (C := RX0) (T := TX0) (N := 3) (ci := 0) hx hb hts hinX0 hown hK hP 17 rfl rfl 2 (by decide) (hts (.fieldLink RX0 18 "AxleKeeper$Book" "size" "I") (by decide +kernel)) (fun _ h9 => h9) rfl dX0_firstWrong_4 ?_
    refine lv_icmp_ge (tgt := 54) hx hb dX0_firstWrong_7 (by decide) (fun c_7 => ?_) (fun c_7 => ?_)
    · have c_7 : (g 4 0) ≤ (nI i) := c_7
      refine lv_iconst (v := (-1)) hx hb dX0_firstWrong_54 (by decide) ?_
      have hρ : kX0_firstWrong_2  (n + 1) i f g = (-1) := (if_pos c_7)
      have hρ := hρ0.trans hρ
      exact e_rd hx hb hr hlk dX0_firstWrong_55 hρ.symm
    have c_7 : ¬ ((g 4 0) ≤ (nI i)) := c_7
    refine lv_iload_n hx hb dX0_firstWrong_10 rfl (lv_at hl 2 rfl) ?_
    refine lv_bipush (v := 20) hx hb dX0_firstWrong_11 (by decide) ?_
    refine lv_icmp_ge (tgt := 54) hx hb dX0_firstWrong_13 (by decide) (fun c_13 => ?_) (fun c_13 => ?_)
    · have c_13 : 20 ≤ (nI i) := c_13
      refine lv_iconst (v := (-1)) hx hb dX0_firstWrong_54 (by decide) ?_
      have hρ : kX0_firstWrong_2  (n + 1) i f g = (-1) := (if_neg c_7).trans ((if_pos c_13))
      have hρ := hρ0.trans hρ
      exact e_rd hx hb hr hlk dX0_firstWrong_55 hρ.symm
    have c_13 : ¬ (20 ≤ (nI i)) := c_13
    have hlt : i < 20 := il_lt (Int32.le_refl _) (by decide) hi c_13
    have hvi : vp_in (nI i) 20 := vp_in_nI hlt (by decide)
    refine lv_aload_n hx hb dX0_firstWrong_16 rfl (lv_at hl 0 rfl) ?_
    refine va_get (v := .ref (b 5)) (C := RX0) (T := TX0) (N := 3) (ci := 0) hx hb hts hinX0 hown hK hP 17 rfl rfl 0 (by decide) (hts (.fieldLink RX0 11 "AxleKeeper$Book" "sectionOf" "[I") (by decide +kernel)) (fun _ h9 => h9) rfl dX0_firstWrong_17 ?_
    refine lv_iload_n hx hb dX0_firstWrong_20 rfl (lv_at hl 2 rfl) ?_
    refine va_iald hx hb hK hP 18 0 rfl rfl (n := 20) (by assumption) dX0_firstWrong_21 ?_
    refine lv_istore_n (lv' := [(3, .int (g 5 (ix (nI i)))), (0, .ref (b 4)), (1, .ref h), (2, .int (nI i))]) hx hb dX0_firstWrong_22 rfl hl (by decide) rfl (fun ls hl => ?_)
    refine lv_aload_n hx hb dX0_firstWrong_23 rfl (lv_at hl 2 rfl) ?_
    refine lv_iload_n hx hb dX0_firstWrong_24 rfl (lv_at hl 0 rfl) ?_
    refine k_rd (As := [.int (g 5 (ix (nI i)))]) (rest := []) (bytes := cX3_hasSection) (C := RX3) S (okX3_hasSection l D cI cZ cQ h a (KR cI cZ cQ h b g ++ X) f (g 5 (ix (nI i)))) gX0_firstWrong_X3_hasSection rfl ⟨rfl, rfl⟩ ndX3_hasSection ⟨Nat.le_of_ble_eq_true rfl, Nat.le_of_ble_eq_true rfl⟩ hK hP 0 rfl rfl rfl hl rfl (Nat.le_of_ble_eq_true rfl) dX0_firstWrong_25 ⟨Nat.zero_le _, Nat.zero_le _⟩ ?_
    refine lv_if_eq (tgt := 46) hx hb dX0_firstWrong_28 (by decide) (fun c_28 => ?_) (fun c_28 => ?_)
    · have c_28 : (kX3_hasSection f (g 5 (ix (nI i)))) = 0 := c_28
      refine lv_iload_n hx hb dX0_firstWrong_46 rfl (lv_at hl 3 rfl) ?_
      have hρ : kX0_firstWrong_2  (n + 1) i f g = (nI i) := (if_neg c_7).trans ((if_neg c_13).trans ((if_pos c_28)))
      have hρ := hρ0.trans hρ
      exact e_rd hx hb hr hlk dX0_firstWrong_47 hρ.symm
    have c_28 : ¬ ((kX3_hasSection f (g 5 (ix (nI i)))) = 0) := c_28
    have hv1 : vp_in _ 6 := hs_in hok c_28
    refine lv_aload_n hx hb dX0_firstWrong_31 rfl (lv_at hl 2 rfl) ?_
    refine va_get (v := .ref (a 12)) (C := RX3) (T := TX3) (N := 15) (ci := 3) hx hb hts hinX3 hown hK hP 0 rfl rfl 12 (by decide) (hts (.fieldLink RX0 28 "AxleKeeper$Line" "call" "[I") (by decide +kernel)) (fun _ h9 => h9) rfl dX0_firstWrong_32 ?_
    refine lv_iload_n hx hb dX0_firstWrong_35 rfl (lv_at hl 0 rfl) ?_
    refine va_iald hx hb hK hP 10 0 rfl rfl (n := 6) (by assumption) dX0_firstWrong_36 ?_
    refine lv_aload_n hx hb dX0_firstWrong_37 rfl (lv_at hl 1 rfl) ?_
    refine va_get (v := .ref (b 6)) (C := RX0) (T := TX0) (N := 3) (ci := 0) hx hb hts hinX0 hown hK hP 17 rfl rfl 1 (by decide) (hts (.fieldLink RX0 15 "AxleKeeper$Book" "callOf" "[I") (by decide +kernel)) (fun _ h9 => h9) rfl dX0_firstWrong_38 ?_
    refine lv_iload_n hx hb dX0_firstWrong_41 rfl (lv_at hl 3 rfl) ?_
    refine va_iald hx hb hK hP 19 0 rfl rfl (n := 20) (by assumption) dX0_firstWrong_42 ?_
    refine lv_icmp_eq (tgt := 48) hx hb dX0_firstWrong_43 (by decide) (fun c_43 => ?_) (fun c_43 => ?_)
    · have c_43 : (f 12 (ix (g 5 (ix (nI i))))) = (g 6 (ix (nI i))) := c_43
      refine lv_iinc (v := (nI (i + 1))) (lv' := [(2, .int (nI (i + 1))), (3, .int (g 5 (ix (nI i)))), (0, .ref (b 4)), (1, .ref h)]) hx hb dX0_firstWrong_48 hl (k := 3) rfl (nI_1 i) (by decide) rfl (fun ls hl => ?_)
      refine lv_goto (tgt := 2) hx hb dX0_firstWrong_51 (by decide) ?_
      have hρ : kX0_firstWrong_2  (n + 1) i f g = kX0_firstWrong_2  n (i + 1) f g := (if_neg c_7).trans ((if_neg c_13).trans ((if_neg c_28).trans ((if_pos c_43))))
      have hρ := hρ0.trans hρ
      exact ih  (i + 1)    (by omega) (by omega)  (lv_sub hl [2, 3, 0] rfl) _ hρ
    have c_43 : ¬ ((f 12 (ix (g 5 (ix (nI i))))) = (g 6 (ix (nI i)))) := c_43
    refine lv_iload_n hx hb dX0_firstWrong_46 rfl (lv_at hl 3 rfl) ?_
    have hρ : kX0_firstWrong_2  (n + 1) i f g = (nI i) := (if_neg c_7).trans ((if_neg c_13).trans ((if_neg c_28).trans ((if_neg c_43))))
    have hρ := hρ0.trans hρ
    exact e_rd hx hb hr hlk dX0_firstWrong_47 hρ.symm
set_option maxHeartbeats 4000000 in
set_option maxRecDepth 100000 in
theorem okX0_firstWrong (l : Launch) (D : va_G) (cI cZ cQ : ClassId) (h : Nat) (a b : Nat → Nat) (X : va_W) (f g : Nat → Nat → Int32) (hok : okL f) : Met l yX0_firstWrong wsX0_firstWrong ({ frames := 1, cells := 0, slots := 0, locals := 21 }) (PR [.ref (b 4), .ref h] D (TY cI cZ cQ) (LW cI h a f ++ (KR cI cZ cQ h b g ++ X))) (QR (kX0_firstWrong f g)) 0 0 (fun _ => False) := by
  refine m_rd (cc := cX0_firstWrong) (maxL := 4) (ret := (some .int)) (by decide) rfl (Nat.le_of_ble_eq_true rfl) (lv0 := [(0, .ref (b 4)), (1, .ref h)]) rfl ?_
  intro p e s m below meth c ls S hr hlk hP hK hl
  have S : CallFix p m c cX0_firstWrong 4 s ([.ref (b 4), .ref h] : List Value).toArray wsX0_firstWrong RX0 := S
  have hx := S.1
  have hb := S.2.1
  have hown : s.vm.findClass RX0 = some m.cls := S.2.2.2.1
  have hts := S.2.2.2.2
  have hinX0 : ∀ w ∈ wsX00, w ∈ wsX0_firstWrong := by decide +kernel
  have hinX3 : ∀ w ∈ wsX30, w ∈ wsX0_firstWrong := by decide +kernel
  refine lv_iconst (v := 0) hx hb dX0_firstWrong_0 (by decide) ?_
  refine lv_istore_n (lv' := [(2, .int 0), (0, .ref (b 4)), (1, .ref h)]) hx hb dX0_firstWrong_1 rfl hl (by decide) rfl (fun ls hl => ?_)
  have hρ : kX0_firstWrong f g = kX0_firstWrong_2  21 0 f g := rfl
  exact lpX0_firstWrong_2 l D cI cZ cQ h a b X f g S hr hlk hK hok hP 21 0    (by omega) (by omega)  (lv_sub hl [1, 2, 0] rfl) _ hρ
theorem ndX1_next : yX1_next.cls = RX1 ∧ yX1_next.cls ≠ "java/lang/invoke/MethodHandle" ∧ yX1_next.cls ≠ "java/lang/invoke/VarHandle" ∧ (parseMethodDescriptor yX1_next.desc).map (fun d => d.parameters.length) = some 1 := by decide +kernel
set_option maxHeartbeats 4000000 in
set_option maxRecDepth 100000 in
theorem okX1_next (l : Launch) (D : va_G) (cI cZ cQ : ClassId) (h : Nat) (a b : Nat → Nat) (X : va_W) (f g : Nat → Nat → Int32) (x1 : Int32) (sz : Nat) : Met l yX1_next wsX1_next ({ frames := 0, cells := 0, slots := 0, locals := 0 }) (PW [.ref (b 7), .int x1] sz D (TY cI cZ cQ) (LW cI h a f ++ (KR cI cZ cQ h b g ++ X))) (QI (kX1_next f g x1).1 D (TY cI cZ cQ) (LW cI h a f ++ (KR cI cZ cQ h b (kX1_next f g x1).2 ++ X)) (va_A (LW cI h a f ++ (KR cI cZ cQ h b g ++ X)) sz)) 0 0 (va_A (LW cI h a f ++ (KR cI cZ cQ h b g ++ X)) sz) := by
  refine m_wr (cc := cX1_next) (maxL := 2) (ret := (some .int)) (by decide) rfl (Nat.le_of_ble_eq_true rfl) (lv0 := [(0, .ref (b 7)), (1, .int x1)]) rfl ?_
  intro p e s m below meth c ls A hAe S hr hlk hP hK hD hS hA hl
  rw [← hAe]
  have S : CallFix p m c cX1_next 2 s ([.ref (b 7), .int x1] : List Value).toArray wsX1_next RX1 := S
  have hx := S.1
  have hb := S.2.1
  have hown : s.vm.findClass RX1 = some m.cls := S.2.2.2.1
  have hts := S.2.2.2.2
  have hinX1 : ∀ w ∈ wsX10, w ∈ wsX1_next := by decide +kernel
  refine lv_aload_n hx hb dX1_next_0 rfl (lv_at hl 0 rfl) ?_
  refine lv_aload_n hx hb dX1_next_1 rfl (lv_at hl 0 rfl) ?_
  refine va_get (v := .int (g 7 0)) (C := RX1) (T := TX1) (N := 1) (ci := 1) hx hb hts hinX1 hown hK hP 20 rfl rfl 0 (by decide) (hts (.fieldLink RX1 7 "AxleKeeper$Draws" "latest" "I") (by decide +kernel)) (fun _ h9 => h9) rfl dX1_next_2 ?_
  refine lv_ldc (v := 1103515245) hx hb hown (hts (.constant RX1 13 (1103515245)) (by decide +kernel)) dX1_next_5 ?_
  refine lv_imul hx hb dX1_next_7 ?_
  refine lv_sipush (v := 12345) hx hb dX1_next_8 (by decide) ?_
  refine lv_iadd hx hb dX1_next_11 ?_
  refine lv_ldc (v := 2147483647) hx hb hown (hts (.constant RX1 14 (2147483647)) (by decide +kernel)) dX1_next_12 ?_
  refine lv_iand hx hb dX1_next_14 ?_
  refine pf_K7 (x := ((((g 7 0) * 1103515245) + 12345) &&& 2147483647)) S hinX1 hK hP hD hS (hts (.fieldLink RX1 7 "AxleKeeper$Draws" "latest" "I") (by decide +kernel)) dX1_next_15 (fun H locs hP hD hS => ?_)
  refine lv_iload_n hx hb dX1_next_18 rfl (lv_at hl 1 rfl) ?_
  refine lv_iconst (v := 1) hx hb dX1_next_19 (by decide) ?_
  refine lv_icmp_ge (tgt := 27) hx hb dX1_next_20 (by decide) (fun c_20 => ?_) (fun c_20 => ?_)
  · have c_20 : 1 ≤ x1 := c_20
    refine lv_aload_n hx hb dX1_next_27 rfl (lv_at hl 0 rfl) ?_
    refine va_get (v := .int ((((g 7 0) * 1103515245) + 12345) &&& 2147483647)) (C := RX1) (T := TX1) (N := 1) (ci := 1) hx hb hts hinX1 hown hK hP 20 rfl rfl 0 (by decide) (hts (.fieldLink RX1 7 "AxleKeeper$Draws" "latest" "I") (by decide +kernel)) (fun _ h9 => h9) rfl dX1_next_28 ?_
    refine lv_ldc (v := 65536) hx hb hown (hts (.constant RX1 15 (65536)) (by decide +kernel)) dX1_next_31 ?_
    refine lv_idiv hx hb dX1_next_33 (by decide) ?_
    refine lv_iload_n hx hb dX1_next_34 rfl (lv_at hl 1 rfl) ?_
    refine lv_irem hx hb dX1_next_35 (ge1 c_20) ?_
    have hρ : kX1_next f g x1 = ((remI (((((g 7 0) * 1103515245) + 12345) &&& 2147483647) / 65536) x1), (up2 g 7 0 ((((g 7 0) * 1103515245) + 12345) &&& 2147483647))) := (if_pos c_20)
    exact e_wi hx hb hr hlk hK hP hD hS dX1_next_36 (congrArg Prod.fst hρ).symm (congrArg (fun z => (LW cI h a f ++ (KR cI cZ cQ h b z.2 ++ X))) hρ).symm
  have c_20 : ¬ (1 ≤ x1) := c_20
  refine lv_iconst (v := 0) hx hb dX1_next_23 (by decide) ?_
  refine lv_goto (tgt := 36) hx hb dX1_next_24 (by decide) ?_
  have hρ : kX1_next f g x1 = (0, (up2 g 7 0 ((((g 7 0) * 1103515245) + 12345) &&& 2147483647))) := (if_neg c_20)
  exact e_wi hx hb hr hlk hK hP hD hS dX1_next_36 (congrArg Prod.fst hρ).symm (congrArg (fun z => (LW cI h a f ++ (KR cI cZ cQ h b z.2 ++ X))) hρ).symm
