theorem ndX3_countWheel : yX3_countWheel.cls = RX3 ∧ yX3_countWheel.cls ≠ "java/lang/invoke/MethodHandle" ∧ yX3_countWheel.cls ≠ "java/lang/invoke/VarHandle" ∧ (parseMethodDescriptor yX3_countWheel.desc).map (fun d => d.parameters.length) = some 1 := by decide +kernel
set_option maxHeartbeats 4000000 in
set_option maxRecDepth 100000 in
theorem okX3_countWheel (l : Launch) (D : va_G) (cI cZ cQ : ClassId) (h : Nat) (a : Nat → Nat) (X : va_W) (f : Nat → Nat → Int32) (x1 : Int32) (sz : Nat) (h1 : vp_in x1 7) : Met l yX3_countWheel wsX3_countWheel ({ frames := 0, cells := 0, slots := 0, locals := 0 }) (PW [.ref h, .int x1] sz D (TY cI cZ cQ) (LW cI h a f ++ X)) (QI (kX3_countWheel f x1).1 D (TY cI cZ cQ) (LW cI h a (kX3_countWheel f x1).2 ++ X) (va_A (LW cI h a f ++ X) sz)) 0 0 (va_A (LW cI h a f ++ X) sz) := by
  refine m_wr (cc := cX3_countWheel) (maxL := 2) (ret := (some .int)) (by decide) rfl (Nat.le_of_ble_eq_true rfl) (lv0 := [(0, .ref h), (1, .int x1)]) rfl ?_
  intro p e s m below meth c ls A hAe S hr hlk hP hK hD hS hA hl
  rw [← hAe]
  have S : CallFix p m c cX3_countWheel 2 s ([.ref h, .int x1] : List Value).toArray wsX3_countWheel RX3 := S
  have hx := S.1
  have hb := S.2.1
  have hown : s.vm.findClass RX3 = some m.cls := S.2.2.2.1
  have hts := S.2.2.2.2
  have hinX3 : ∀ w ∈ wsX30, w ∈ wsX3_countWheel := by decide +kernel
  refine lv_aload_n hx hb dX3_countWheel_0 rfl (lv_at hl 0 rfl) ?_
  refine va_get (v := .ref (a 4)) (C := RX3) (T := TX3) (N := 15) (ci := 3) hx hb hts hinX3 hown hK hP 0 rfl rfl 4 (by decide) (hts (.fieldLink RX3 15 "AxleKeeper$Line" "wheel" "[I") (by decide +kernel)) (fun _ h9 => h9) rfl dX3_countWheel_1 ?_
  refine lv_iload_n hx hb dX3_countWheel_4 rfl (lv_at hl 1 rfl) ?_
  refine va_iald hx hb hK hP 2 0 rfl rfl (n := 7) (by assumption) dX3_countWheel_5 ?_
  refine lv_iconst (v := 4) hx hb dX3_countWheel_6 (by decide) ?_
  refine lv_icmp_ne (tgt := 29) hx hb dX3_countWheel_7 (by decide) (fun c_7 => ?_) (fun c_7 => ?_)
  · have c_7 : ¬ ((f 4 (ix x1)) = 4) := c_7
    refine lv_aload_n hx hb dX3_countWheel_29 rfl (lv_at hl 0 rfl) ?_
    refine va_get (v := .ref (a 4)) (C := RX3) (T := TX3) (N := 15) (ci := 3) hx hb hts hinX3 hown hK hP 0 rfl rfl 4 (by decide) (hts (.fieldLink RX3 15 "AxleKeeper$Line" "wheel" "[I") (by decide +kernel)) (fun _ h9 => h9) rfl dX3_countWheel_30 ?_
    refine lv_iload_n hx hb dX3_countWheel_33 rfl (lv_at hl 1 rfl) ?_
    refine va_iald hx hb hK hP 2 0 rfl rfl (n := 7) (by assumption) dX3_countWheel_34 ?_
    refine lv_bipush (v := (-4)) hx hb dX3_countWheel_35 (by decide) ?_
    refine lv_icmp_ne (tgt := 59) hx hb dX3_countWheel_37 (by decide) (fun c_37 => ?_) (fun c_37 => ?_)
    · have c_37 : ¬ ((f 4 (ix x1)) = (-4)) := c_37
      refine lv_iconst (v := 0) hx hb dX3_countWheel_59 (by decide) ?_
      have hρ : kX3_countWheel f x1 = (0, f) := (if_neg c_7).trans ((if_neg c_37))
      exact e_wi hx hb hr hlk hK hP hD hS dX3_countWheel_60 (congrArg Prod.fst hρ).symm (congrArg (fun z => (LW cI h a z.2 ++ X)) hρ).symm
    have c_37 : (f 4 (ix x1)) = (-4) := c_37
    refine lv_aload_n hx hb dX3_countWheel_40 rfl (lv_at hl 0 rfl) ?_
    refine va_get (v := .ref (a 4)) (C := RX3) (T := TX3) (N := 15) (ci := 3) hx hb hts hinX3 hown hK hP 0 rfl rfl 4 (by decide) (hts (.fieldLink RX3 15 "AxleKeeper$Line" "wheel" "[I") (by decide +kernel)) (fun _ h9 => h9) rfl dX3_countWheel_41 ?_
    refine lv_iload_n hx hb dX3_countWheel_44 rfl (lv_at hl 1 rfl) ?_
    refine lv_iconst (v := 0) hx hb dX3_countWheel_45 (by decide) ?_
    refine st_L4 (x := 0) hx hb hK hP hD hS (by assumption) dX3_countWheel_46 (fun H locs hP hD hS => ?_)
    refine lv_aload_n hx hb dX3_countWheel_47 rfl (lv_at hl 0 rfl) ?_
    refine va_get (v := .ref (a 5)) (C := RX3) (T := TX3) (N := 15) (ci := 3) hx hb hts hinX3 hown hK hP 0 rfl rfl 5 (by decide) (hts (.fieldLink RX3 18 "AxleKeeper$Line" "count" "[I") (by decide +kernel)) (fun _ h9 => h9) rfl dX3_countWheel_48 ?_
    refine lv_iload_n hx hb dX3_countWheel_51 rfl (lv_at hl 1 rfl) ?_
    refine lv_dup2_11 hx hb dX3_countWheel_52 rfl rfl ?_
    refine va_iald hx hb hK hP 3 0 rfl rfl (n := 7) (by assumption) dX3_countWheel_53 ?_
    refine lv_iconst (v := 1) hx hb dX3_countWheel_54 (by decide) ?_
    refine lv_isub hx hb dX3_countWheel_55 ?_
    refine st_L5 (x := ((f 5 (ix x1)) - 1)) hx hb hK hP hD hS (by assumption) dX3_countWheel_56 (fun H locs hP hD hS => ?_)
    refine lv_iconst (v := 2) hx hb dX3_countWheel_57 (by decide) ?_
    have hρ : kX3_countWheel f x1 = (2, (up2 (up2 f 4 (ix x1) 0) 5 (ix x1) ((f 5 (ix x1)) - 1))) := (if_neg c_7).trans ((if_pos c_37))
    exact e_wi hx hb hr hlk hK hP hD hS dX3_countWheel_58 (congrArg Prod.fst hρ).symm (congrArg (fun z => (LW cI h a z.2 ++ X)) hρ).symm
  have c_7 : (f 4 (ix x1)) = 4 := c_7
  refine lv_aload_n hx hb dX3_countWheel_10 rfl (lv_at hl 0 rfl) ?_
  refine va_get (v := .ref (a 4)) (C := RX3) (T := TX3) (N := 15) (ci := 3) hx hb hts hinX3 hown hK hP 0 rfl rfl 4 (by decide) (hts (.fieldLink RX3 15 "AxleKeeper$Line" "wheel" "[I") (by decide +kernel)) (fun _ h9 => h9) rfl dX3_countWheel_11 ?_
  refine lv_iload_n hx hb dX3_countWheel_14 rfl (lv_at hl 1 rfl) ?_
  refine lv_iconst (v := 0) hx hb dX3_countWheel_15 (by decide) ?_
  refine st_L4 (x := 0) hx hb hK hP hD hS (by assumption) dX3_countWheel_16 (fun H locs hP hD hS => ?_)
  refine lv_aload_n hx hb dX3_countWheel_17 rfl (lv_at hl 0 rfl) ?_
  refine va_get (v := .ref (a 5)) (C := RX3) (T := TX3) (N := 15) (ci := 3) hx hb hts hinX3 hown hK hP 0 rfl rfl 5 (by decide) (hts (.fieldLink RX3 18 "AxleKeeper$Line" "count" "[I") (by decide +kernel)) (fun _ h9 => h9) rfl dX3_countWheel_18 ?_
  refine lv_iload_n hx hb dX3_countWheel_21 rfl (lv_at hl 1 rfl) ?_
  refine lv_dup2_11 hx hb dX3_countWheel_22 rfl rfl ?_
  refine va_iald hx hb hK hP 3 0 rfl rfl (n := 7) (by assumption) dX3_countWheel_23 ?_
  refine lv_iconst (v := 1) hx hb dX3_countWheel_24 (by decide) ?_
  refine lv_iadd hx hb dX3_countWheel_25 ?_
  refine st_L5 (x := ((f 5 (ix x1)) + 1)) hx hb hK hP hD hS (by assumption) dX3_countWheel_26 (fun H locs hP hD hS => ?_)
  refine lv_iconst (v := 1) hx hb dX3_countWheel_27 (by decide) ?_
  have hρ : kX3_countWheel f x1 = (1, (up2 (up2 f 4 (ix x1) 0) 5 (ix x1) ((f 5 (ix x1)) + 1))) := (if_pos c_7)
  exact e_wi hx hb hr hlk hK hP hD hS dX3_countWheel_28 (congrArg Prod.fst hρ).symm (congrArg (fun z => (LW cI h a z.2 ++ X)) hρ).symm
theorem ndX3_carry : yX3_carry.cls = RX3 ∧ yX3_carry.cls ≠ "java/lang/invoke/MethodHandle" ∧ yX3_carry.cls ≠ "java/lang/invoke/VarHandle" ∧ (parseMethodDescriptor yX3_carry.desc).map (fun d => d.parameters.length) = some 4 := by decide +kernel
set_option maxHeartbeats 4000000 in
set_option maxRecDepth 100000 in
theorem okX3_carry (l : Launch) (D : va_G) (cI cZ cQ : ClassId) (h : Nat) (a : Nat → Nat) (X : va_W) (f : Nat → Nat → Int32) (x1 x2 x3 x4 : Int32) (sz : Nat) (hok : okL f) (h1 : vp_in x1 7) : Met l yX3_carry wsX3_carry ({ frames := 2, cells := 0, slots := 0, locals := 43 }) (PW [.ref h, .int x1, .int x2, .int x3, .int x4] sz D (TY cI cZ cQ) (LW cI h a f ++ X)) (QI (kX3_carry f x1 x2 x3 x4).1 D (TY cI cZ cQ) (LW cI h a (kX3_carry f x1 x2 x3 x4).2 ++ X) (va_A (LW cI h a f ++ X) sz)) 0 0 (va_A (LW cI h a f ++ X) sz) := by
  refine m_wr (cc := cX3_carry) (maxL := 7) (ret := (some .int)) (by decide) rfl (Nat.le_of_ble_eq_true rfl) (lv0 := [(0, .ref h), (1, .int x1), (2, .int x2), (3, .int x3), (4, .int x4)]) rfl ?_
  intro p e s m below meth c ls A hAe S hr hlk hP hK hD hS hA hl
  rw [← hAe]
  have S : CallFix p m c cX3_carry 7 s ([.ref h, .int x1, .int x2, .int x3, .int x4] : List Value).toArray wsX3_carry RX3 := S
  have hx := S.1
  have hb := S.2.1
  have hown : s.vm.findClass RX3 = some m.cls := S.2.2.2.1
  have hts := S.2.2.2.2
  have hinX3 : ∀ w ∈ wsX30, w ∈ wsX3_carry := by decide +kernel
  refine lv_aload_n hx hb dX3_carry_0 rfl (lv_at hl 0 rfl) ?_
  refine lv_iload_n hx hb dX3_carry_1 rfl (lv_at hl 1 rfl) ?_
  refine lv_iload_n hx hb dX3_carry_2 rfl (lv_at hl 2 rfl) ?_
  refine k_rd (As := [.int x1, .int x2]) (rest := []) (bytes := cX3_from) (C := RX3) S (okX3_from l D cI cZ cQ h a X f x1 x2) gX3_carry_X3_from rfl ⟨rfl, rfl⟩ ndX3_from ⟨Nat.le_of_ble_eq_true rfl, Nat.le_of_ble_eq_true rfl⟩ hK hP 0 rfl rfl rfl hl rfl (Nat.le_of_ble_eq_true rfl) dX3_carry_3 ⟨Nat.zero_le _, Nat.zero_le _⟩ ?_
  refine lv_istore (lv' := [(5, .int (kX3_from f x1 x2)), (0, .ref h), (1, .int x1), (2, .int x2), (3, .int x3), (4, .int x4)]) hx hb dX3_carry_6 hl (by decide) rfl (fun ls hl => ?_)
  refine lv_iload_n hx hb dX3_carry_8 rfl (lv_at hl 3 rfl) ?_
  refine lv_if_ne (tgt := 20) hx hb dX3_carry_9 (by decide) (fun c_9 => ?_) (fun c_9 => ?_)
  · have c_9 : ¬ (x2 = 0) := c_9
    refine lv_aload_n hx hb dX3_carry_20 rfl (lv_at hl 1 rfl) ?_
    refine lv_iload_n hx hb dX3_carry_21 rfl (lv_at hl 2 rfl) ?_
    refine k_rd (As := [.int x1]) (rest := []) (bytes := cX3_leftOf) (C := RX3) S (okX3_leftOf l D cI cZ cQ h a X f x1) gX3_carry_X3_leftOf rfl ⟨rfl, rfl⟩ ndX3_leftOf ⟨Nat.le_of_ble_eq_true rfl, Nat.le_of_ble_eq_true rfl⟩ hK hP 0 rfl rfl rfl hl rfl (Nat.le_of_ble_eq_true rfl) dX3_carry_22 ⟨Nat.zero_le _, Nat.zero_le _⟩ ?_
    refine lv_istore (lv' := [(6, .int (kX3_leftOf f x1)), (5, .int (kX3_from f x1 x2)), (0, .ref h), (1, .int x1), (2, .int x2), (3, .int x3), (4, .int x4)]) hx hb dX3_carry_25 hl (by decide) rfl (fun ls hl => ?_)
    refine lv_iload hx hb dX3_carry_27 (lv_at hl 6 rfl) ?_
    refine lv_if_eq (tgt := 51) hx hb dX3_carry_29 (by decide) (fun c_29 => ?_) (fun c_29 => ?_)
    · have c_29 : x4 = 0 := c_29
      refine lv_aload_n hx hb dX3_carry_51 rfl (lv_at hl 2 rfl) ?_
      refine lv_iload hx hb dX3_carry_52 (lv_at hl 1 rfl) ?_
      refine k_rd (As := [.int (kX3_from f x1 x2)]) (rest := []) (bytes := cX3_hasSection) (C := RX3) S (okX3_hasSection l D cI cZ cQ h a X f (kX3_from f x1 x2)) gX3_carry_X3_hasSection rfl ⟨rfl, rfl⟩ ndX3_hasSection ⟨Nat.le_of_ble_eq_true rfl, Nat.le_of_ble_eq_true rfl⟩ hK hP 0 rfl rfl rfl hl rfl (Nat.le_of_ble_eq_true rfl) dX3_carry_54 ⟨Nat.zero_le _, Nat.zero_le _⟩ ?_
      refine lv_if_eq (tgt := 71) hx hb dX3_carry_57 (by decide) (fun c_57 => ?_) (fun c_57 => ?_)
      · have c_57 : (kX3_hasSection f (kX3_from f x1 x2)) = 0 := c_57
        refine lv_aload_n hx hb dX3_carry_71 rfl (lv_at hl 2 rfl) ?_
        refine lv_iload hx hb dX3_carry_72 (lv_at hl 0 rfl) ?_
        refine k_rd (As := [.int (kX3_leftOf f x1)]) (rest := []) (bytes := cX3_hasSection) (C := RX3) S (okX3_hasSection l D cI cZ cQ h a X f (kX3_leftOf f x1)) gX3_carry_X3_hasSection rfl ⟨rfl, rfl⟩ ndX3_hasSection ⟨Nat.le_of_ble_eq_true rfl, Nat.le_of_ble_eq_true rfl⟩ hK hP 0 rfl rfl rfl hl rfl (Nat.le_of_ble_eq_true rfl) dX3_carry_74 ⟨Nat.zero_le _, Nat.zero_le _⟩ ?_
        refine lv_if_ne (tgt := 82) hx hb dX3_carry_77 (by decide) (fun c_77 => ?_) (fun c_77 => ?_)
        · have c_77 : ¬ ((kX3_hasSection f (kX3_leftOf f x1)) = 0) := c_77
          have hv2 : vp_in _ 6 := hs_in hok c_77
          refine lv_aload_n hx hb dX3_carry_82 rfl (lv_at hl 2 rfl) ?_
          refine va_get (v := .ref (a 14)) (C := RX3) (T := TX3) (N := 15) (ci := 3) hx hb hts hinX3 hown hK hP 0 rfl rfl 14 (by decide) (hts (.fieldLink RX3 45 "AxleKeeper$Line" "axles" "[I") (by decide +kernel)) (fun _ h9 => h9) rfl dX3_carry_83 ?_
          refine lv_iload hx hb dX3_carry_86 (lv_at hl 0 rfl) ?_
          refine lv_dup2_11 hx hb dX3_carry_88 rfl rfl ?_
          refine va_iald hx hb hK hP 12 0 rfl rfl (n := 6) (by assumption) dX3_carry_89 ?_
          refine lv_iload_n hx hb dX3_carry_90 rfl (lv_at hl 5 rfl) ?_
          refine lv_iadd hx hb dX3_carry_91 ?_
          refine st_L14 (x := ((f 14 (ix (kX3_leftOf f x1))) + x3)) hx hb hK hP hD hS (by assumption) dX3_carry_92 (fun H locs hP hD hS => ?_)
          refine lv_aload_n hx hb dX3_carry_93 rfl (lv_at hl 2 rfl) ?_
          refine va_get (v := .ref (a 14)) (C := RX3) (T := TX3) (N := 15) (ci := 3) hx hb hts hinX3 hown hK hP 0 rfl rfl 14 (by decide) (hts (.fieldLink RX3 45 "AxleKeeper$Line" "axles" "[I") (by decide +kernel)) (fun _ h9 => h9) rfl dX3_carry_94 ?_
          refine lv_iload hx hb dX3_carry_97 (lv_at hl 0 rfl) ?_
          refine va_iald hx hb hK hP 12 0 rfl rfl (n := 6) (by assumption) dX3_carry_99 ?_
          have hρ : kX3_carry f x1 x2 x3 x4 = (((up2 f 14 (ix (kX3_leftOf f x1)) ((f 14 (ix (kX3_leftOf f x1))) + x3)) 14 (ix (kX3_leftOf f x1))), (up2 f 14 (ix (kX3_leftOf f x1)) ((f 14 (ix (kX3_leftOf f x1))) + x3))) := (if_neg c_9).trans ((if_pos c_29).trans ((if_pos c_57).trans ((if_neg c_77))))
          exact e_wi hx hb hr hlk hK hP hD hS dX3_carry_100 (congrArg Prod.fst hρ).symm (congrArg (fun z => (LW cI h a z.2 ++ X)) hρ).symm
        have c_77 : (kX3_hasSection f (kX3_leftOf f x1)) = 0 := c_77
        refine lv_iconst (v := 0) hx hb dX3_carry_80 (by decide) ?_
        have hρ : kX3_carry f x1 x2 x3 x4 = (0, f) := (if_neg c_9).trans ((if_pos c_29).trans ((if_pos c_57).trans ((if_pos c_77))))
        exact e_wi hx hb hr hlk hK hP hD hS dX3_carry_81 (congrArg Prod.fst hρ).symm (congrArg (fun z => (LW cI h a z.2 ++ X)) hρ).symm
      have c_57 : ¬ ((kX3_hasSection f (kX3_from f x1 x2)) = 0) := c_57
      have hv1 : vp_in _ 6 := hs_in hok c_57
      refine lv_aload_n hx hb dX3_carry_60 rfl (lv_at hl 2 rfl) ?_
      refine va_get (v := .ref (a 14)) (C := RX3) (T := TX3) (N := 15) (ci := 3) hx hb hts hinX3 hown hK hP 0 rfl rfl 14 (by decide) (hts (.fieldLink RX3 45 "AxleKeeper$Line" "axles" "[I") (by decide +kernel)) (fun _ h9 => h9) rfl dX3_carry_61 ?_
      refine lv_iload hx hb dX3_carry_64 (lv_at hl 1 rfl) ?_
      refine lv_dup2_11 hx hb dX3_carry_66 rfl rfl ?_
      refine va_iald hx hb hK hP 12 0 rfl rfl (n := 6) (by assumption) dX3_carry_67 ?_
      refine lv_iload_n hx hb dX3_carry_68 rfl (lv_at hl 5 rfl) ?_
      refine lv_isub hx hb dX3_carry_69 ?_
      refine st_L14 (x := ((f 14 (ix (kX3_from f x1 x2))) - x3)) hx hb hK hP hD hS (by assumption) dX3_carry_70 (fun H locs hP hD hS => ?_)
      refine lv_aload_n hx hb dX3_carry_71 rfl (lv_at hl 2 rfl) ?_
      refine lv_iload hx hb dX3_carry_72 (lv_at hl 0 rfl) ?_
      refine k_rd (As := [.int (kX3_leftOf f x1)]) (rest := []) (bytes := cX3_hasSection) (C := RX3) S (okX3_hasSection l D cI cZ cQ h a X (up2 f 14 (ix (kX3_from f x1 x2)) ((f 14 (ix (kX3_from f x1 x2))) - x3)) (kX3_leftOf f x1)) gX3_carry_X3_hasSection rfl ⟨rfl, rfl⟩ ndX3_hasSection ⟨Nat.le_of_ble_eq_true rfl, Nat.le_of_ble_eq_true rfl⟩ hK hP 0 rfl rfl rfl hl rfl (Nat.le_of_ble_eq_true rfl) dX3_carry_74 ⟨Nat.zero_le _, Nat.zero_le _⟩ ?_
      refine lv_if_ne (tgt := 82) hx hb dX3_carry_77 (by decide) (fun c_77 => ?_) (fun c_77 => ?_)
      · have c_77 : ¬ ((kX3_hasSection (up2 f 14 (ix (kX3_from f x1 x2)) ((f 14 (ix (kX3_from f x1 x2))) - x3)) (kX3_leftOf f x1)) = 0) := c_77
        have hv2 : vp_in _ 6 := hs_in hok c_77
        refine lv_aload_n hx hb dX3_carry_82 rfl (lv_at hl 2 rfl) ?_
        refine va_get (v := .ref (a 14)) (C := RX3) (T := TX3) (N := 15) (ci := 3) hx hb hts hinX3 hown hK hP 0 rfl rfl 14 (by decide) (hts (.fieldLink RX3 45 "AxleKeeper$Line" "axles" "[I") (by decide +kernel)) (fun _ h9 => h9) rfl dX3_carry_83 ?_
        refine lv_iload hx hb dX3_carry_86 (lv_at hl 0 rfl) ?_
        refine lv_dup2_11 hx hb dX3_carry_88 rfl rfl ?_
        refine va_iald hx hb hK hP 12 0 rfl rfl (n := 6) (by assumption) dX3_carry_89 ?_
        refine lv_iload_n hx hb dX3_carry_90 rfl (lv_at hl 5 rfl) ?_
        refine lv_iadd hx hb dX3_carry_91 ?_
        refine st_L14 (x := (((up2 f 14 (ix (kX3_from f x1 x2)) ((f 14 (ix (kX3_from f x1 x2))) - x3)) 14 (ix (kX3_leftOf f x1))) + x3)) hx hb hK hP hD hS (by assumption) dX3_carry_92 (fun H locs hP hD hS => ?_)
        refine lv_aload_n hx hb dX3_carry_93 rfl (lv_at hl 2 rfl) ?_
        refine va_get (v := .ref (a 14)) (C := RX3) (T := TX3) (N := 15) (ci := 3) hx hb hts hinX3 hown hK hP 0 rfl rfl 14 (by decide) (hts (.fieldLink RX3 45 "AxleKeeper$Line" "axles" "[I") (by decide +kernel)) (fun _ h9 => h9) rfl dX3_carry_94 ?_
        refine lv_iload hx hb dX3_carry_97 (lv_at hl 0 rfl) ?_
        refine va_iald hx hb hK hP 12 0 rfl rfl (n := 6) (by assumption) dX3_carry_99 ?_
        have hρ : kX3_carry f x1 x2 x3 x4 = (((up2 (up2 f 14 (ix (kX3_from f x1 x2)) ((f 14 (ix (kX3_from f x1 x2))) - x3)) 14 (ix (kX3_leftOf f x1)) (((up2 f 14 (ix (kX3_from f x1 x2)) ((f 14 (ix (kX3_from f x1 x2))) - x3)) 14 (ix (kX3_leftOf f x1))) + x3)) 14 (ix (kX3_leftOf f x1))), (up2 (up2 f 14 (ix (kX3_from f x1 x2)) ((f 14 (ix (kX3_from f x1 x2))) - x3)) 14 (ix (kX3_leftOf f x1)) (((up2 f 14 (ix (kX3_from f x1 x2)) ((f 14 (ix (kX3_from f x1 x2))) - x3)) 14 (ix (kX3_leftOf f x1))) + x3))) := (if_neg c_9).trans ((if_pos c_29).trans ((if_neg c_57).trans ((if_neg c_77))))
        exact e_wi hx hb hr hlk hK hP hD hS dX3_carry_100 (congrArg Prod.fst hρ).symm (congrArg (fun z => (LW cI h a z.2 ++ X)) hρ).symm
      have c_77 : (kX3_hasSection (up2 f 14 (ix (kX3_from f x1 x2)) ((f 14 (ix (kX3_from f x1 x2))) - x3)) (kX3_leftOf f x1)) = 0 := c_77
      refine lv_iconst (v := 0) hx hb dX3_carry_80 (by decide) ?_
      have hρ : kX3_carry f x1 x2 x3 x4 = (0, (up2 f 14 (ix (kX3_from f x1 x2)) ((f 14 (ix (kX3_from f x1 x2))) - x3))) := (if_neg c_9).trans ((if_pos c_29).trans ((if_neg c_57).trans ((if_pos c_77))))
      exact e_wi hx hb hr hlk hK hP hD hS dX3_carry_81 (congrArg Prod.fst hρ).symm (congrArg (fun z => (LW cI h a z.2 ++ X)) hρ).symm
    have c_29 : ¬ (x4 = 0) := c_29
    refine lv_aload_n hx hb dX3_carry_32 rfl (lv_at hl 2 rfl) ?_
    refine va_get (v := .ref (a 5)) (C := RX3) (T := TX3) (N := 15) (ci := 3) hx hb hts hinX3 hown hK hP 0 rfl rfl 5 (by decide) (hts (.fieldLink RX3 18 "AxleKeeper$Line" "count" "[I") (by decide +kernel)) (fun _ h9 => h9) rfl dX3_carry_33 ?_
    refine lv_iload_n hx hb dX3_carry_36 rfl (lv_at hl 3 rfl) ?_
    refine lv_dup2_11 hx hb dX3_carry_37 rfl rfl ?_
    refine va_iald hx hb hK hP 3 0 rfl rfl (n := 7) (by assumption) dX3_carry_38 ?_
    refine lv_iload_n hx hb dX3_carry_39 rfl (lv_at hl 4 rfl) ?_
    refine lv_if_ne (tgt := 47) hx hb dX3_carry_40 (by decide) (fun c_40 => ?_) (fun c_40 => absurd c_40 c_9)
    refine lv_iload_n hx hb dX3_carry_47 rfl (lv_at hl 5 rfl) ?_
    refine lv_ineg hx hb dX3_carry_48 ?_
    refine lv_iadd hx hb dX3_carry_49 ?_
    refine st_L5 (x := ((f 5 (ix x1)) + (-x3))) hx hb hK hP hD hS (by assumption) dX3_carry_50 (fun H locs hP hD hS => ?_)
    refine lv_aload_n hx hb dX3_carry_51 rfl (lv_at hl 2 rfl) ?_
    refine lv_iload hx hb dX3_carry_52 (lv_at hl 1 rfl) ?_
    refine k_rd (As := [.int (kX3_from f x1 x2)]) (rest := []) (bytes := cX3_hasSection) (C := RX3) S (okX3_hasSection l D cI cZ cQ h a X (up2 f 5 (ix x1) ((f 5 (ix x1)) + (-x3))) (kX3_from f x1 x2)) gX3_carry_X3_hasSection rfl ⟨rfl, rfl⟩ ndX3_hasSection ⟨Nat.le_of_ble_eq_true rfl, Nat.le_of_ble_eq_true rfl⟩ hK hP 0 rfl rfl rfl hl rfl (Nat.le_of_ble_eq_true rfl) dX3_carry_54 ⟨Nat.zero_le _, Nat.zero_le _⟩ ?_
    refine lv_if_eq (tgt := 71) hx hb dX3_carry_57 (by decide) (fun c_57 => ?_) (fun c_57 => ?_)
    · have c_57 : (kX3_hasSection (up2 f 5 (ix x1) ((f 5 (ix x1)) + (-x3))) (kX3_from f x1 x2)) = 0 := c_57
      refine lv_aload_n hx hb dX3_carry_71 rfl (lv_at hl 2 rfl) ?_
      refine lv_iload hx hb dX3_carry_72 (lv_at hl 0 rfl) ?_
      refine k_rd (As := [.int (kX3_leftOf f x1)]) (rest := []) (bytes := cX3_hasSection) (C := RX3) S (okX3_hasSection l D cI cZ cQ h a X (up2 f 5 (ix x1) ((f 5 (ix x1)) + (-x3))) (kX3_leftOf f x1)) gX3_carry_X3_hasSection rfl ⟨rfl, rfl⟩ ndX3_hasSection ⟨Nat.le_of_ble_eq_true rfl, Nat.le_of_ble_eq_true rfl⟩ hK hP 0 rfl rfl rfl hl rfl (Nat.le_of_ble_eq_true rfl) dX3_carry_74 ⟨Nat.zero_le _, Nat.zero_le _⟩ ?_
      refine lv_if_ne (tgt := 82) hx hb dX3_carry_77 (by decide) (fun c_77 => ?_) (fun c_77 => ?_)
      · have c_77 : ¬ ((kX3_hasSection (up2 f 5 (ix x1) ((f 5 (ix x1)) + (-x3))) (kX3_leftOf f x1)) = 0) := c_77
        have hv2 : vp_in _ 6 := hs_in hok c_77
        refine lv_aload_n hx hb dX3_carry_82 rfl (lv_at hl 2 rfl) ?_
        refine va_get (v := .ref (a 14)) (C := RX3) (T := TX3) (N := 15) (ci := 3) hx hb hts hinX3 hown hK hP 0 rfl rfl 14 (by decide) (hts (.fieldLink RX3 45 "AxleKeeper$Line" "axles" "[I") (by decide +kernel)) (fun _ h9 => h9) rfl dX3_carry_83 ?_
        refine lv_iload hx hb dX3_carry_86 (lv_at hl 0 rfl) ?_
        refine lv_dup2_11 hx hb dX3_carry_88 rfl rfl ?_
        refine va_iald hx hb hK hP 12 0 rfl rfl (n := 6) (by assumption) dX3_carry_89 ?_
        refine lv_iload_n hx hb dX3_carry_90 rfl (lv_at hl 5 rfl) ?_
        refine lv_iadd hx hb dX3_carry_91 ?_
        refine st_L14 (x := ((f 14 (ix (kX3_leftOf f x1))) + x3)) hx hb hK hP hD hS (by assumption) dX3_carry_92 (fun H locs hP hD hS => ?_)
        refine lv_aload_n hx hb dX3_carry_93 rfl (lv_at hl 2 rfl) ?_
        refine va_get (v := .ref (a 14)) (C := RX3) (T := TX3) (N := 15) (ci := 3) hx hb hts hinX3 hown hK hP 0 rfl rfl 14 (by decide) (hts (.fieldLink RX3 45 "AxleKeeper$Line" "axles" "[I") (by decide +kernel)) (fun _ h9 => h9) rfl dX3_carry_94 ?_
        refine lv_iload hx hb dX3_carry_97 (lv_at hl 0 rfl) ?_
        refine va_iald hx hb hK hP 12 0 rfl rfl (n := 6) (by assumption) dX3_carry_99 ?_
        have hρ : kX3_carry f x1 x2 x3 x4 = (((up2 (up2 f 5 (ix x1) ((f 5 (ix x1)) + (-x3))) 14 (ix (kX3_leftOf f x1)) ((f 14 (ix (kX3_leftOf f x1))) + x3)) 14 (ix (kX3_leftOf f x1))), (up2 (up2 f 5 (ix x1) ((f 5 (ix x1)) + (-x3))) 14 (ix (kX3_leftOf f x1)) ((f 14 (ix (kX3_leftOf f x1))) + x3))) := (if_neg c_9).trans ((if_neg c_29).trans ((if_pos c_57).trans ((if_neg c_77))))
        exact e_wi hx hb hr hlk hK hP hD hS dX3_carry_100 (congrArg Prod.fst hρ).symm (congrArg (fun z => (LW cI h a z.2 ++ X)) hρ).symm
      have c_77 : (kX3_hasSection (up2 f 5 (ix x1) ((f 5 (ix x1)) + (-x3))) (kX3_leftOf f x1)) = 0 := c_77
      refine lv_iconst (v := 0) hx hb dX3_carry_80 (by decide) ?_
      have hρ : kX3_carry f x1 x2 x3 x4 = (0, (up2 f 5 (ix x1) ((f 5 (ix x1)) + (-x3)))) := (if_neg c_9).trans ((if_neg c_29).trans ((if_pos c_57).trans ((if_pos c_77))))
      exact e_wi hx hb hr hlk hK hP hD hS dX3_carry_81 (congrArg Prod.fst hρ).symm (congrArg (fun z => (LW cI h a z.2 ++ X)) hρ).symm
    have c_57 : ¬ ((kX3_hasSection (up2 f 5 (ix x1) ((f 5 (ix x1)) + (-x3))) (kX3_from f x1 x2)) = 0) := c_57
    have hv1 : vp_in _ 6 := hs_in hok c_57
    refine lv_aload_n hx hb dX3_carry_60 rfl (lv_at hl 2 rfl) ?_
    refine va_get (v := .ref (a 14)) (C := RX3) (T := TX3) (N := 15) (ci := 3) hx hb hts hinX3 hown hK hP 0 rfl rfl 14 (by decide) (hts (.fieldLink RX3 45 "AxleKeeper$Line" "axles" "[I") (by decide +kernel)) (fun _ h9 => h9) rfl dX3_carry_61 ?_
    refine lv_iload hx hb dX3_carry_64 (lv_at hl 1 rfl) ?_
    refine lv_dup2_11 hx hb dX3_carry_66 rfl rfl ?_
    refine va_iald hx hb hK hP 12 0 rfl rfl (n := 6) (by assumption) dX3_carry_67 ?_
    refine lv_iload_n hx hb dX3_carry_68 rfl (lv_at hl 5 rfl) ?_
    refine lv_isub hx hb dX3_carry_69 ?_
    refine st_L14 (x := ((f 14 (ix (kX3_from f x1 x2))) - x3)) hx hb hK hP hD hS (by assumption) dX3_carry_70 (fun H locs hP hD hS => ?_)
    refine lv_aload_n hx hb dX3_carry_71 rfl (lv_at hl 2 rfl) ?_
    refine lv_iload hx hb dX3_carry_72 (lv_at hl 0 rfl) ?_
    refine k_rd (As := [.int (kX3_leftOf f x1)]) (rest := []) (bytes := cX3_hasSection) (C := RX3) S (okX3_hasSection l D cI cZ cQ h a X (up2 (up2 f 5 (ix x1) ((f 5 (ix x1)) + (-x3))) 14 (ix (kX3_from f x1 x2)) ((f 14 (ix (kX3_from f x1 x2))) - x3)) (kX3_leftOf f x1)) gX3_carry_X3_hasSection rfl ⟨rfl, rfl⟩ ndX3_hasSection ⟨Nat.le_of_ble_eq_true rfl, Nat.le_of_ble_eq_true rfl⟩ hK hP 0 rfl rfl rfl hl rfl (Nat.le_of_ble_eq_true rfl) dX3_carry_74 ⟨Nat.zero_le _, Nat.zero_le _⟩ ?_
    refine lv_if_ne (tgt := 82) hx hb dX3_carry_77 (by decide) (fun c_77 => ?_) (fun c_77 => ?_)
    · have c_77 : ¬ ((kX3_hasSection (up2 (up2 f 5 (ix x1) ((f 5 (ix x1)) + (-x3))) 14 (ix (kX3_from f x1 x2)) ((f 14 (ix (kX3_from f x1 x2))) - x3)) (kX3_leftOf f x1)) = 0) := c_77
      have hv2 : vp_in _ 6 := hs_in hok c_77
      refine lv_aload_n hx hb dX3_carry_82 rfl (lv_at hl 2 rfl) ?_
      refine va_get (v := .ref (a 14)) (C := RX3) (T := TX3) (N := 15) (ci := 3) hx hb hts hinX3 hown hK hP 0 rfl rfl 14 (by decide) (hts (.fieldLink RX3 45 "AxleKeeper$Line" "axles" "[I") (by decide +kernel)) (fun _ h9 => h9) rfl dX3_carry_83 ?_
      refine lv_iload hx hb dX3_carry_86 (lv_at hl 0 rfl) ?_
      refine lv_dup2_11 hx hb dX3_carry_88 rfl rfl ?_
      refine va_iald hx hb hK hP 12 0 rfl rfl (n := 6) (by assumption) dX3_carry_89 ?_
      refine lv_iload_n hx hb dX3_carry_90 rfl (lv_at hl 5 rfl) ?_
      refine lv_iadd hx hb dX3_carry_91 ?_
      refine st_L14 (x := (((up2 (up2 f 5 (ix x1) ((f 5 (ix x1)) + (-x3))) 14 (ix (kX3_from f x1 x2)) ((f 14 (ix (kX3_from f x1 x2))) - x3)) 14 (ix (kX3_leftOf f x1))) + x3)) hx hb hK hP hD hS (by assumption) dX3_carry_92 (fun H locs hP hD hS => ?_)
      refine lv_aload_n hx hb dX3_carry_93 rfl (lv_at hl 2 rfl) ?_
      refine va_get (v := .ref (a 14)) (C := RX3) (T := TX3) (N := 15) (ci := 3) hx hb hts hinX3 hown hK hP 0 rfl rfl 14 (by decide) (hts (.fieldLink RX3 45 "AxleKeeper$Line" "axles" "[I") (by decide +kernel)) (fun _ h9 => h9) rfl dX3_carry_94 ?_
      refine lv_iload hx hb dX3_carry_97 (lv_at hl 0 rfl) ?_
      refine va_iald hx hb hK hP 12 0 rfl rfl (n := 6) (by assumption) dX3_carry_99 ?_
      have hρ : kX3_carry f x1 x2 x3 x4 = (((up2 (up2 (up2 f 5 (ix x1) ((f 5 (ix x1)) + (-x3))) 14 (ix (kX3_from f x1 x2)) ((f 14 (ix (kX3_from f x1 x2))) - x3)) 14 (ix (kX3_leftOf f x1)) (((up2 (up2 f 5 (ix x1) ((f 5 (ix x1)) + (-x3))) 14 (ix (kX3_from f x1 x2)) ((f 14 (ix (kX3_from f x1 x2))) - x3)) 14 (ix (kX3_leftOf f x1))) + x3)) 14 (ix (kX3_leftOf f x1))), (up2 (up2 (up2 f 5 (ix x1) ((f 5 (ix x1)) + (-x3))) 14 (ix (kX3_from f x1 x2)) ((f 14 (ix (kX3_from f x1 x2))) - x3)) 14 (ix (kX3_leftOf f x1)) (((up2 (up2 f 5 (ix x1) ((f 5 (ix x1)) + (-x3))) 14 (ix (kX3_from f x1 x2)) ((f 14 (ix (kX3_from f x1 x2))) - x3)) 14 (ix (kX3_leftOf f x1))) + x3))) := (if_neg c_9).trans ((if_neg c_29).trans ((if_neg c_57).trans ((if_neg c_77))))
      exact e_wi hx hb hr hlk hK hP hD hS dX3_carry_100 (congrArg Prod.fst hρ).symm (congrArg (fun z => (LW cI h a z.2 ++ X)) hρ).symm
    have c_77 : (kX3_hasSection (up2 (up2 f 5 (ix x1) ((f 5 (ix x1)) + (-x3))) 14 (ix (kX3_from f x1 x2)) ((f 14 (ix (kX3_from f x1 x2))) - x3)) (kX3_leftOf f x1)) = 0 := c_77
    refine lv_iconst (v := 0) hx hb dX3_carry_80 (by decide) ?_
    have hρ : kX3_carry f x1 x2 x3 x4 = (0, (up2 (up2 f 5 (ix x1) ((f 5 (ix x1)) + (-x3))) 14 (ix (kX3_from f x1 x2)) ((f 14 (ix (kX3_from f x1 x2))) - x3))) := (if_neg c_9).trans ((if_neg c_29).trans ((if_neg c_57).trans ((if_pos c_77))))
    exact e_wi hx hb hr hlk hK hP hD hS dX3_carry_81 (congrArg Prod.fst hρ).symm (congrArg (fun z => (LW cI h a z.2 ++ X)) hρ).symm
  have c_9 : x2 = 0 := c_9
  refine lv_aload_n hx hb dX3_carry_12 rfl (lv_at hl 1 rfl) ?_
  refine lv_iload_n hx hb dX3_carry_13 rfl (lv_at hl 2 rfl) ?_
  refine k_rd (As := [.int x1]) (rest := []) (bytes := cX3_rightOf) (C := RX3) S (okX3_rightOf l D cI cZ cQ h a X f x1) gX3_carry_X3_rightOf rfl ⟨rfl, rfl⟩ ndX3_rightOf ⟨Nat.le_of_ble_eq_true rfl, Nat.le_of_ble_eq_true rfl⟩ hK hP 0 rfl rfl rfl hl rfl (Nat.le_of_ble_eq_true rfl) dX3_carry_14 ⟨Nat.zero_le _, Nat.zero_le _⟩ ?_
  refine lv_goto (tgt := 25) hx hb dX3_carry_17 (by decide) ?_
  refine lv_istore (lv' := [(6, .int (kX3_rightOf f x1)), (5, .int (kX3_from f x1 x2)), (0, .ref h), (1, .int x1), (2, .int x2), (3, .int x3), (4, .int x4)]) hx hb dX3_carry_25 hl (by decide) rfl (fun ls hl => ?_)
  refine lv_iload hx hb dX3_carry_27 (lv_at hl 6 rfl) ?_
  refine lv_if_eq (tgt := 51) hx hb dX3_carry_29 (by decide) (fun c_29 => ?_) (fun c_29 => ?_)
  · have c_29 : x4 = 0 := c_29
    refine lv_aload_n hx hb dX3_carry_51 rfl (lv_at hl 2 rfl) ?_
    refine lv_iload hx hb dX3_carry_52 (lv_at hl 1 rfl) ?_
    refine k_rd (As := [.int (kX3_from f x1 x2)]) (rest := []) (bytes := cX3_hasSection) (C := RX3) S (okX3_hasSection l D cI cZ cQ h a X f (kX3_from f x1 x2)) gX3_carry_X3_hasSection rfl ⟨rfl, rfl⟩ ndX3_hasSection ⟨Nat.le_of_ble_eq_true rfl, Nat.le_of_ble_eq_true rfl⟩ hK hP 0 rfl rfl rfl hl rfl (Nat.le_of_ble_eq_true rfl) dX3_carry_54 ⟨Nat.zero_le _, Nat.zero_le _⟩ ?_
    refine lv_if_eq (tgt := 71) hx hb dX3_carry_57 (by decide) (fun c_57 => ?_) (fun c_57 => ?_)
    · have c_57 : (kX3_hasSection f (kX3_from f x1 x2)) = 0 := c_57
      refine lv_aload_n hx hb dX3_carry_71 rfl (lv_at hl 2 rfl) ?_
      refine lv_iload hx hb dX3_carry_72 (lv_at hl 0 rfl) ?_
      refine k_rd (As := [.int (kX3_rightOf f x1)]) (rest := []) (bytes := cX3_hasSection) (C := RX3) S (okX3_hasSection l D cI cZ cQ h a X f (kX3_rightOf f x1)) gX3_carry_X3_hasSection rfl ⟨rfl, rfl⟩ ndX3_hasSection ⟨Nat.le_of_ble_eq_true rfl, Nat.le_of_ble_eq_true rfl⟩ hK hP 0 rfl rfl rfl hl rfl (Nat.le_of_ble_eq_true rfl) dX3_carry_74 ⟨Nat.zero_le _, Nat.zero_le _⟩ ?_
      refine lv_if_ne (tgt := 82) hx hb dX3_carry_77 (by decide) (fun c_77 => ?_) (fun c_77 => ?_)
      · have c_77 : ¬ ((kX3_hasSection f (kX3_rightOf f x1)) = 0) := c_77
        have hv2 : vp_in _ 6 := hs_in hok c_77
        refine lv_aload_n hx hb dX3_carry_82 rfl (lv_at hl 2 rfl) ?_
        refine va_get (v := .ref (a 14)) (C := RX3) (T := TX3) (N := 15) (ci := 3) hx hb hts hinX3 hown hK hP 0 rfl rfl 14 (by decide) (hts (.fieldLink RX3 45 "AxleKeeper$Line" "axles" "[I") (by decide +kernel)) (fun _ h9 => h9) rfl dX3_carry_83 ?_
        refine lv_iload hx hb dX3_carry_86 (lv_at hl 0 rfl) ?_
        refine lv_dup2_11 hx hb dX3_carry_88 rfl rfl ?_
        refine va_iald hx hb hK hP 12 0 rfl rfl (n := 6) (by assumption) dX3_carry_89 ?_
        refine lv_iload_n hx hb dX3_carry_90 rfl (lv_at hl 5 rfl) ?_
        refine lv_iadd hx hb dX3_carry_91 ?_
        refine st_L14 (x := ((f 14 (ix (kX3_rightOf f x1))) + x3)) hx hb hK hP hD hS (by assumption) dX3_carry_92 (fun H locs hP hD hS => ?_)
        refine lv_aload_n hx hb dX3_carry_93 rfl (lv_at hl 2 rfl) ?_
        refine va_get (v := .ref (a 14)) (C := RX3) (T := TX3) (N := 15) (ci := 3) hx hb hts hinX3 hown hK hP 0 rfl rfl 14 (by decide) (hts (.fieldLink RX3 45 "AxleKeeper$Line" "axles" "[I") (by decide +kernel)) (fun _ h9 => h9) rfl dX3_carry_94 ?_
        refine lv_iload hx hb dX3_carry_97 (lv_at hl 0 rfl) ?_
        refine va_iald hx hb hK hP 12 0 rfl rfl (n := 6) (by assumption) dX3_carry_99 ?_
        have hρ : kX3_carry f x1 x2 x3 x4 = (((up2 f 14 (ix (kX3_rightOf f x1)) ((f 14 (ix (kX3_rightOf f x1))) + x3)) 14 (ix (kX3_rightOf f x1))), (up2 f 14 (ix (kX3_rightOf f x1)) ((f 14 (ix (kX3_rightOf f x1))) + x3))) := (if_pos c_9).trans ((if_pos c_29).trans ((if_pos c_57).trans ((if_neg c_77))))
        exact e_wi hx hb hr hlk hK hP hD hS dX3_carry_100 (congrArg Prod.fst hρ).symm (congrArg (fun z => (LW cI h a z.2 ++ X)) hρ).symm
      have c_77 : (kX3_hasSection f (kX3_rightOf f x1)) = 0 := c_77
      refine lv_iconst (v := 0) hx hb dX3_carry_80 (by decide) ?_
      have hρ : kX3_carry f x1 x2 x3 x4 = (0, f) := (if_pos c_9).trans ((if_pos c_29).trans ((if_pos c_57).trans ((if_pos c_77))))
      exact e_wi hx hb hr hlk hK hP hD hS dX3_carry_81 (congrArg Prod.fst hρ).symm (congrArg (fun z => (LW cI h a z.2 ++ X)) hρ).symm
    have c_57 : ¬ ((kX3_hasSection f (kX3_from f x1 x2)) = 0) := c_57
    have hv1 : vp_in _ 6 := hs_in hok c_57
    refine lv_aload_n hx hb dX3_carry_60 rfl (lv_at hl 2 rfl) ?_
    refine va_get (v := .ref (a 14)) (C := RX3) (T := TX3) (N := 15) (ci := 3) hx hb hts hinX3 hown hK hP 0 rfl rfl 14 (by decide) (hts (.fieldLink RX3 45 "AxleKeeper$Line" "axles" "[I") (by decide +kernel)) (fun _ h9 => h9) rfl dX3_carry_61 ?_
    refine lv_iload hx hb dX3_carry_64 (lv_at hl 1 rfl) ?_
    refine lv_dup2_11 hx hb dX3_carry_66 rfl rfl ?_
    refine va_iald hx hb hK hP 12 0 rfl rfl (n := 6) (by assumption) dX3_carry_67 ?_
    refine lv_iload_n hx hb dX3_carry_68 rfl (lv_at hl 5 rfl) ?_
    refine lv_isub hx hb dX3_carry_69 ?_
    refine st_L14 (x := ((f 14 (ix (kX3_from f x1 x2))) - x3)) hx hb hK hP hD hS (by assumption) dX3_carry_70 (fun H locs hP hD hS => ?_)
    refine lv_aload_n hx hb dX3_carry_71 rfl (lv_at hl 2 rfl) ?_
    refine lv_iload hx hb dX3_carry_72 (lv_at hl 0 rfl) ?_
    refine k_rd (As := [.int (kX3_rightOf f x1)]) (rest := []) (bytes := cX3_hasSection) (C := RX3) S (okX3_hasSection l D cI cZ cQ h a X (up2 f 14 (ix (kX3_from f x1 x2)) ((f 14 (ix (kX3_from f x1 x2))) - x3)) (kX3_rightOf f x1)) gX3_carry_X3_hasSection rfl ⟨rfl, rfl⟩ ndX3_hasSection ⟨Nat.le_of_ble_eq_true rfl, Nat.le_of_ble_eq_true rfl⟩ hK hP 0 rfl rfl rfl hl rfl (Nat.le_of_ble_eq_true rfl) dX3_carry_74 ⟨Nat.zero_le _, Nat.zero_le _⟩ ?_
    refine lv_if_ne (tgt := 82) hx hb dX3_carry_77 (by decide) (fun c_77 => ?_) (fun c_77 => ?_)
    · have c_77 : ¬ ((kX3_hasSection (up2 f 14 (ix (kX3_from f x1 x2)) ((f 14 (ix (kX3_from f x1 x2))) - x3)) (kX3_rightOf f x1)) = 0) := c_77
      have hv2 : vp_in _ 6 := hs_in hok c_77
      refine lv_aload_n hx hb dX3_carry_82 rfl (lv_at hl 2 rfl) ?_
      refine va_get (v := .ref (a 14)) (C := RX3) (T := TX3) (N := 15) (ci := 3) hx hb hts hinX3 hown hK hP 0 rfl rfl 14 (by decide) (hts (.fieldLink RX3 45 "AxleKeeper$Line" "axles" "[I") (by decide +kernel)) (fun _ h9 => h9) rfl dX3_carry_83 ?_
      refine lv_iload hx hb dX3_carry_86 (lv_at hl 0 rfl) ?_
      refine lv_dup2_11 hx hb dX3_carry_88 rfl rfl ?_
      refine va_iald hx hb hK hP 12 0 rfl rfl (n := 6) (by assumption) dX3_carry_89 ?_
      refine lv_iload_n hx hb dX3_carry_90 rfl (lv_at hl 5 rfl) ?_
      refine lv_iadd hx hb dX3_carry_91 ?_
      refine st_L14 (x := (((up2 f 14 (ix (kX3_from f x1 x2)) ((f 14 (ix (kX3_from f x1 x2))) - x3)) 14 (ix (kX3_rightOf f x1))) + x3)) hx hb hK hP hD hS (by assumption) dX3_carry_92 (fun H locs hP hD hS => ?_)
      refine lv_aload_n hx hb dX3_carry_93 rfl (lv_at hl 2 rfl) ?_
      refine va_get (v := .ref (a 14)) (C := RX3) (T := TX3) (N := 15) (ci := 3) hx hb hts hinX3 hown hK hP 0 rfl rfl 14 (by decide) (hts (.fieldLink RX3 45 "AxleKeeper$Line" "axles" "[I") (by decide +kernel)) (fun _ h9 => h9) rfl dX3_carry_94 ?_
      refine lv_iload hx hb dX3_carry_97 (lv_at hl 0 rfl) ?_
      refine va_iald hx hb hK hP 12 0 rfl rfl (n := 6) (by assumption) dX3_carry_99 ?_
      have hρ : kX3_carry f x1 x2 x3 x4 = (((up2 (up2 f 14 (ix (kX3_from f x1 x2)) ((f 14 (ix (kX3_from f x1 x2))) - x3)) 14 (ix (kX3_rightOf f x1)) (((up2 f 14 (ix (kX3_from f x1 x2)) ((f 14 (ix (kX3_from f x1 x2))) - x3)) 14 (ix (kX3_rightOf f x1))) + x3)) 14 (ix (kX3_rightOf f x1))), (up2 (up2 f 14 (ix (kX3_from f x1 x2)) ((f 14 (ix (kX3_from f x1 x2))) - x3)) 14 (ix (kX3_rightOf f x1)) (((up2 f 14 (ix (kX3_from f x1 x2)) ((f 14 (ix (kX3_from f x1 x2))) - x3)) 14 (ix (kX3_rightOf f x1))) + x3))) := (if_pos c_9).trans ((if_pos c_29).trans ((if_neg c_57).trans ((if_neg c_77))))
      exact e_wi hx hb hr hlk hK hP hD hS dX3_carry_100 (congrArg Prod.fst hρ).symm (congrArg (fun z => (LW cI h a z.2 ++ X)) hρ).symm
    have c_77 : (kX3_hasSection (up2 f 14 (ix (kX3_from f x1 x2)) ((f 14 (ix (kX3_from f x1 x2))) - x3)) (kX3_rightOf f x1)) = 0 := c_77
    refine lv_iconst (v := 0) hx hb dX3_carry_80 (by decide) ?_
    have hρ : kX3_carry f x1 x2 x3 x4 = (0, (up2 f 14 (ix (kX3_from f x1 x2)) ((f 14 (ix (kX3_from f x1 x2))) - x3))) := (if_pos c_9).trans ((if_pos c_29).trans ((if_neg c_57).trans ((if_pos c_77))))
    exact e_wi hx hb hr hlk hK hP hD hS dX3_carry_81 (congrArg Prod.fst hρ).symm (congrArg (fun z => (LW cI h a z.2 ++ X)) hρ).symm
  have c_29 : ¬ (x4 = 0) := c_29
  refine lv_aload_n hx hb dX3_carry_32 rfl (lv_at hl 2 rfl) ?_
  refine va_get (v := .ref (a 5)) (C := RX3) (T := TX3) (N := 15) (ci := 3) hx hb hts hinX3 hown hK hP 0 rfl rfl 5 (by decide) (hts (.fieldLink RX3 18 "AxleKeeper$Line" "count" "[I") (by decide +kernel)) (fun _ h9 => h9) rfl dX3_carry_33 ?_
  refine lv_iload_n hx hb dX3_carry_36 rfl (lv_at hl 3 rfl) ?_
  refine lv_dup2_11 hx hb dX3_carry_37 rfl rfl ?_
  refine va_iald hx hb hK hP 3 0 rfl rfl (n := 7) (by assumption) dX3_carry_38 ?_
  refine lv_iload_n hx hb dX3_carry_39 rfl (lv_at hl 4 rfl) ?_
  refine lv_if_ne (tgt := 47) hx hb dX3_carry_40 (by decide) (fun c_40 => absurd c_9 c_40) (fun c_40 => ?_)
  refine lv_iload_n hx hb dX3_carry_43 rfl (lv_at hl 5 rfl) ?_
  refine lv_goto (tgt := 49) hx hb dX3_carry_44 (by decide) ?_
  refine lv_iadd hx hb dX3_carry_49 ?_
  refine st_L5 (x := ((f 5 (ix x1)) + x3)) hx hb hK hP hD hS (by assumption) dX3_carry_50 (fun H locs hP hD hS => ?_)
  refine lv_aload_n hx hb dX3_carry_51 rfl (lv_at hl 2 rfl) ?_
  refine lv_iload hx hb dX3_carry_52 (lv_at hl 1 rfl) ?_
  refine k_rd (As := [.int (kX3_from f x1 x2)]) (rest := []) (bytes := cX3_hasSection) (C := RX3) S (okX3_hasSection l D cI cZ cQ h a X (up2 f 5 (ix x1) ((f 5 (ix x1)) + x3)) (kX3_from f x1 x2)) gX3_carry_X3_hasSection rfl ⟨rfl, rfl⟩ ndX3_hasSection ⟨Nat.le_of_ble_eq_true rfl, Nat.le_of_ble_eq_true rfl⟩ hK hP 0 rfl rfl rfl hl rfl (Nat.le_of_ble_eq_true rfl) dX3_carry_54 ⟨Nat.zero_le _, Nat.zero_le _⟩ ?_
  refine lv_if_eq (tgt := 71) hx hb dX3_carry_57 (by decide) (fun c_57 => ?_) (fun c_57 => ?_)
  · have c_57 : (kX3_hasSection (up2 f 5 (ix x1) ((f 5 (ix x1)) + x3)) (kX3_from f x1 x2)) = 0 := c_57
    refine lv_aload_n hx hb dX3_carry_71 rfl (lv_at hl 2 rfl) ?_
    refine lv_iload hx hb dX3_carry_72 (lv_at hl 0 rfl) ?_
    refine k_rd (As := [.int (kX3_rightOf f x1)]) (rest := []) (bytes := cX3_hasSection) (C := RX3) S (okX3_hasSection l D cI cZ cQ h a X (up2 f 5 (ix x1) ((f 5 (ix x1)) + x3)) (kX3_rightOf f x1)) gX3_carry_X3_hasSection rfl ⟨rfl, rfl⟩ ndX3_hasSection ⟨Nat.le_of_ble_eq_true rfl, Nat.le_of_ble_eq_true rfl⟩ hK hP 0 rfl rfl rfl hl rfl (Nat.le_of_ble_eq_true rfl) dX3_carry_74 ⟨Nat.zero_le _, Nat.zero_le _⟩ ?_
    refine lv_if_ne (tgt := 82) hx hb dX3_carry_77 (by decide) (fun c_77 => ?_) (fun c_77 => ?_)
    · have c_77 : ¬ ((kX3_hasSection (up2 f 5 (ix x1) ((f 5 (ix x1)) + x3)) (kX3_rightOf f x1)) = 0) := c_77
      have hv2 : vp_in _ 6 := hs_in hok c_77
      refine lv_aload_n hx hb dX3_carry_82 rfl (lv_at hl 2 rfl) ?_
      refine va_get (v := .ref (a 14)) (C := RX3) (T := TX3) (N := 15) (ci := 3) hx hb hts hinX3 hown hK hP 0 rfl rfl 14 (by decide) (hts (.fieldLink RX3 45 "AxleKeeper$Line" "axles" "[I") (by decide +kernel)) (fun _ h9 => h9) rfl dX3_carry_83 ?_
      refine lv_iload hx hb dX3_carry_86 (lv_at hl 0 rfl) ?_
      refine lv_dup2_11 hx hb dX3_carry_88 rfl rfl ?_
      refine va_iald hx hb hK hP 12 0 rfl rfl (n := 6) (by assumption) dX3_carry_89 ?_
      refine lv_iload_n hx hb dX3_carry_90 rfl (lv_at hl 5 rfl) ?_
      refine lv_iadd hx hb dX3_carry_91 ?_
      refine st_L14 (x := ((f 14 (ix (kX3_rightOf f x1))) + x3)) hx hb hK hP hD hS (by assumption) dX3_carry_92 (fun H locs hP hD hS => ?_)
      refine lv_aload_n hx hb dX3_carry_93 rfl (lv_at hl 2 rfl) ?_
      refine va_get (v := .ref (a 14)) (C := RX3) (T := TX3) (N := 15) (ci := 3) hx hb hts hinX3 hown hK hP 0 rfl rfl 14 (by decide) (hts (.fieldLink RX3 45 "AxleKeeper$Line" "axles" "[I") (by decide +kernel)) (fun _ h9 => h9) rfl dX3_carry_94 ?_
      refine lv_iload hx hb dX3_carry_97 (lv_at hl 0 rfl) ?_
      refine va_iald hx hb hK hP 12 0 rfl rfl (n := 6) (by assumption) dX3_carry_99 ?_
      have hρ : kX3_carry f x1 x2 x3 x4 = (((up2 (up2 f 5 (ix x1) ((f 5 (ix x1)) + x3)) 14 (ix (kX3_rightOf f x1)) ((f 14 (ix (kX3_rightOf f x1))) + x3)) 14 (ix (kX3_rightOf f x1))), (up2 (up2 f 5 (ix x1) ((f 5 (ix x1)) + x3)) 14 (ix (kX3_rightOf f x1)) ((f 14 (ix (kX3_rightOf f x1))) + x3))) := (if_pos c_9).trans ((if_neg c_29).trans ((if_pos c_57).trans ((if_neg c_77))))
      exact e_wi hx hb hr hlk hK hP hD hS dX3_carry_100 (congrArg Prod.fst hρ).symm (congrArg (fun z => (LW cI h a z.2 ++ X)) hρ).symm
    have c_77 : (kX3_hasSection (up2 f 5 (ix x1) ((f 5 (ix x1)) + x3)) (kX3_rightOf f x1)) = 0 := c_77
    refine lv_iconst (v := 0) hx hb dX3_carry_80 (by decide) ?_
    have hρ : kX3_carry f x1 x2 x3 x4 = (0, (up2 f 5 (ix x1) ((f 5 (ix x1)) + x3))) := (if_pos c_9).trans ((if_neg c_29).trans ((if_pos c_57).trans ((if_pos c_77))))
    exact e_wi hx hb hr hlk hK hP hD hS dX3_carry_81 (congrArg Prod.fst hρ).symm (congrArg (fun z => (LW cI h a z.2 ++ X)) hρ).symm
  have c_57 : ¬ ((kX3_hasSection (up2 f 5 (ix x1) ((f 5 (ix x1)) + x3)) (kX3_from f x1 x2)) = 0) := c_57
  have hv1 : vp_in _ 6 := hs_in hok c_57
  refine lv_aload_n hx hb dX3_carry_60 rfl (lv_at hl 2 rfl) ?_
  refine va_get (v := .ref (a 14)) (C := RX3) (T := TX3) (N := 15) (ci := 3) hx hb hts hinX3 hown hK hP 0 rfl rfl 14 (by decide) (hts (.fieldLink RX3 45 "AxleKeeper$Line" "axles" "[I") (by decide +kernel)) (fun _ h9 => h9) rfl dX3_carry_61 ?_
  refine lv_iload hx hb dX3_carry_64 (lv_at hl 1 rfl) ?_
  refine lv_dup2_11 hx hb dX3_carry_66 rfl rfl ?_
  refine va_iald hx hb hK hP 12 0 rfl rfl (n := 6) (by assumption) dX3_carry_67 ?_
  refine lv_iload_n hx hb dX3_carry_68 rfl (lv_at hl 5 rfl) ?_
  refine lv_isub hx hb dX3_carry_69 ?_
  refine st_L14 (x := ((f 14 (ix (kX3_from f x1 x2))) - x3)) hx hb hK hP hD hS (by assumption) dX3_carry_70 (fun H locs hP hD hS => ?_)
  refine lv_aload_n hx hb dX3_carry_71 rfl (lv_at hl 2 rfl) ?_
  refine lv_iload hx hb dX3_carry_72 (lv_at hl 0 rfl) ?_
  refine k_rd (As := [.int (kX3_rightOf f x1)]) (rest := []) (bytes := cX3_hasSection) (C := RX3) S (okX3_hasSection l D cI cZ cQ h a X (up2 (up2 f 5 (ix x1) ((f 5 (ix x1)) + x3)) 14 (ix (kX3_from f x1 x2)) ((f 14 (ix (kX3_from f x1 x2))) - x3)) (kX3_rightOf f x1)) gX3_carry_X3_hasSection rfl ⟨rfl, rfl⟩ ndX3_hasSection ⟨Nat.le_of_ble_eq_true rfl, Nat.le_of_ble_eq_true rfl⟩ hK hP 0 rfl rfl rfl hl rfl (Nat.le_of_ble_eq_true rfl) dX3_carry_74 ⟨Nat.zero_le _, Nat.zero_le _⟩ ?_
  refine lv_if_ne (tgt := 82) hx hb dX3_carry_77 (by decide) (fun c_77 => ?_) (fun c_77 => ?_)
  · have c_77 : ¬ ((kX3_hasSection (up2 (up2 f 5 (ix x1) ((f 5 (ix x1)) + x3)) 14 (ix (kX3_from f x1 x2)) ((f 14 (ix (kX3_from f x1 x2))) - x3)) (kX3_rightOf f x1)) = 0) := c_77
    have hv2 : vp_in _ 6 := hs_in hok c_77
    refine lv_aload_n hx hb dX3_carry_82 rfl (lv_at hl 2 rfl) ?_
    refine va_get (v := .ref (a 14)) (C := RX3) (T := TX3) (N := 15) (ci := 3) hx hb hts hinX3 hown hK hP 0 rfl rfl 14 (by decide) (hts (.fieldLink RX3 45 "AxleKeeper$Line" "axles" "[I") (by decide +kernel)) (fun _ h9 => h9) rfl dX3_carry_83 ?_
    refine lv_iload hx hb dX3_carry_86 (lv_at hl 0 rfl) ?_
    refine lv_dup2_11 hx hb dX3_carry_88 rfl rfl ?_
    refine va_iald hx hb hK hP 12 0 rfl rfl (n := 6) (by assumption) dX3_carry_89 ?_
    refine lv_iload_n hx hb dX3_carry_90 rfl (lv_at hl 5 rfl) ?_
    refine lv_iadd hx hb dX3_carry_91 ?_
    refine st_L14 (x := (((up2 (up2 f 5 (ix x1) ((f 5 (ix x1)) + x3)) 14 (ix (kX3_from f x1 x2)) ((f 14 (ix (kX3_from f x1 x2))) - x3)) 14 (ix (kX3_rightOf f x1))) + x3)) hx hb hK hP hD hS (by assumption) dX3_carry_92 (fun H locs hP hD hS => ?_)
    refine lv_aload_n hx hb dX3_carry_93 rfl (lv_at hl 2 rfl) ?_
    refine va_get (v := .ref (a 14)) (C := RX3) (T := TX3) (N := 15) (ci := 3) hx hb hts hinX3 hown hK hP 0 rfl rfl 14 (by decide) (hts (.fieldLink RX3 45 "AxleKeeper$Line" "axles" "[I") (by decide +kernel)) (fun _ h9 => h9) rfl dX3_carry_94 ?_
    refine lv_iload hx hb dX3_carry_97 (lv_at hl 0 rfl) ?_
    refine va_iald hx hb hK hP 12 0 rfl rfl (n := 6) (by assumption) dX3_carry_99 ?_
    have hρ : kX3_carry f x1 x2 x3 x4 = (((up2 (up2 (up2 f 5 (ix x1) ((f 5 (ix x1)) + x3)) 14 (ix (kX3_from f x1 x2)) ((f 14 (ix (kX3_from f x1 x2))) - x3)) 14 (ix (kX3_rightOf f x1)) (((up2 (up2 f 5 (ix x1) ((f 5 (ix x1)) + x3)) 14 (ix (kX3_from f x1 x2)) ((f 14 (ix (kX3_from f x1 x2))) - x3)) 14 (ix (kX3_rightOf f x1))) + x3)) 14 (ix (kX3_rightOf f x1))), (up2 (up2 (up2 f 5 (ix x1) ((f 5 (ix x1)) + x3)) 14 (ix (kX3_from f x1 x2)) ((f 14 (ix (kX3_from f x1 x2))) - x3)) 14 (ix (kX3_rightOf f x1)) (((up2 (up2 f 5 (ix x1) ((f 5 (ix x1)) + x3)) 14 (ix (kX3_from f x1 x2)) ((f 14 (ix (kX3_from f x1 x2))) - x3)) 14 (ix (kX3_rightOf f x1))) + x3))) := (if_pos c_9).trans ((if_neg c_29).trans ((if_neg c_57).trans ((if_neg c_77))))
    exact e_wi hx hb hr hlk hK hP hD hS dX3_carry_100 (congrArg Prod.fst hρ).symm (congrArg (fun z => (LW cI h a z.2 ++ X)) hρ).symm
  have c_77 : (kX3_hasSection (up2 (up2 f 5 (ix x1) ((f 5 (ix x1)) + x3)) 14 (ix (kX3_from f x1 x2)) ((f 14 (ix (kX3_from f x1 x2))) - x3)) (kX3_rightOf f x1)) = 0 := c_77
  refine lv_iconst (v := 0) hx hb dX3_carry_80 (by decide) ?_
  have hρ : kX3_carry f x1 x2 x3 x4 = (0, (up2 (up2 f 5 (ix x1) ((f 5 (ix x1)) + x3)) 14 (ix (kX3_from f x1 x2)) ((f 14 (ix (kX3_from f x1 x2))) - x3))) := (if_pos c_9).trans ((if_neg c_29).trans ((if_neg c_57).trans ((if_pos c_77))))
  exact e_wi hx hb hr hlk hK hP hD hS dX3_carry_81 (congrArg Prod.fst hρ).symm (congrArg (fun z => (LW cI h a z.2 ++ X)) hρ).symm
theorem ndX3_mend : yX3_mend.cls = RX3 ∧ yX3_mend.cls ≠ "java/lang/invoke/MethodHandle" ∧ yX3_mend.cls ≠ "java/lang/invoke/VarHandle" ∧ (parseMethodDescriptor yX3_mend.desc).map (fun d => d.parameters.length) = some 1 := by decide +kernel
set_option maxHeartbeats 4000000 in
set_option maxRecDepth 100000 in
theorem okX3_mend (l : Launch) (D : va_G) (cI cZ cQ : ClassId) (h : Nat) (a : Nat → Nat) (X : va_W) (f : Nat → Nat → Int32) (x1 : Int32) (sz : Nat) (h1 : vp_in x1 7) : Met l yX3_mend wsX3_mend ({ frames := 0, cells := 0, slots := 0, locals := 0 }) (PW [.ref h, .int x1] sz D (TY cI cZ cQ) (LW cI h a f ++ X)) (QV D (TY cI cZ cQ) (LW cI h a (kX3_mend f x1) ++ X) (va_A (LW cI h a f ++ X) sz)) 0 0 (va_A (LW cI h a f ++ X) sz) := by
  refine m_wr (cc := cX3_mend) (maxL := 2) (ret := none) (by decide) rfl (Nat.le_of_ble_eq_true rfl) (lv0 := [(0, .ref h), (1, .int x1)]) rfl ?_
  intro p e s m below meth c ls A hAe S hr hlk hP hK hD hS hA hl
  rw [← hAe]
  have S : CallFix p m c cX3_mend 2 s ([.ref h, .int x1] : List Value).toArray wsX3_mend RX3 := S
  have hx := S.1
  have hb := S.2.1
  have hown : s.vm.findClass RX3 = some m.cls := S.2.2.2.1
  have hts := S.2.2.2.2
  have hinX3 : ∀ w ∈ wsX30, w ∈ wsX3_mend := by decide +kernel
  refine lv_aload_n hx hb dX3_mend_0 rfl (lv_at hl 0 rfl) ?_
  refine va_get (v := .ref (a 6)) (C := RX3) (T := TX3) (N := 15) (ci := 3) hx hb hts hinX3 hown hK hP 0 rfl rfl 6 (by decide) (hts (.fieldLink RX3 21 "AxleKeeper$Line" "faulty" "[I") (by decide +kernel)) (fun _ h9 => h9) rfl dX3_mend_1 ?_
  refine lv_iload_n hx hb dX3_mend_4 rfl (lv_at hl 1 rfl) ?_
  refine lv_iconst (v := 0) hx hb dX3_mend_5 (by decide) ?_
  refine st_L6 (x := 0) hx hb hK hP hD hS (by assumption) dX3_mend_6 (fun H locs hP hD hS => ?_)
  refine lv_aload_n hx hb dX3_mend_7 rfl (lv_at hl 0 rfl) ?_
  refine va_get (v := .ref (a 3)) (C := RX3) (T := TX3) (N := 15) (ci := 3) hx hb hts hinX3 hown hK hP 0 rfl rfl 3 (by decide) (hts (.fieldLink RX3 11 "AxleKeeper$Line" "state" "[I") (by decide +kernel)) (fun _ h9 => h9) rfl dX3_mend_8 ?_
  refine lv_iload_n hx hb dX3_mend_11 rfl (lv_at hl 1 rfl) ?_
  refine lv_iconst (v := 0) hx hb dX3_mend_12 (by decide) ?_
  refine st_L3 (x := 0) hx hb hK hP hD hS (by assumption) dX3_mend_13 (fun H locs hP hD hS => ?_)
  refine lv_aload_n hx hb dX3_mend_14 rfl (lv_at hl 0 rfl) ?_
  refine va_get (v := .ref (a 4)) (C := RX3) (T := TX3) (N := 15) (ci := 3) hx hb hts hinX3 hown hK hP 0 rfl rfl 4 (by decide) (hts (.fieldLink RX3 15 "AxleKeeper$Line" "wheel" "[I") (by decide +kernel)) (fun _ h9 => h9) rfl dX3_mend_15 ?_
  refine lv_iload_n hx hb dX3_mend_18 rfl (lv_at hl 1 rfl) ?_
  refine lv_iconst (v := 0) hx hb dX3_mend_19 (by decide) ?_
  refine st_L4 (x := 0) hx hb hK hP hD hS (by assumption) dX3_mend_20 (fun H locs hP hD hS => ?_)
  have hρ : kX3_mend f x1 = (up2 (up2 (up2 f 6 (ix x1) 0) 3 (ix x1) 0) 4 (ix x1) 0) := rfl
  exact e_wv hx hb hr hlk hK hP hD hS dX3_mend_21 (congrArg (fun z => (LW cI h a z ++ X)) hρ).symm
theorem ndX3_addToSum : yX3_addToSum.cls = RX3 ∧ yX3_addToSum.cls ≠ "java/lang/invoke/MethodHandle" ∧ yX3_addToSum.cls ≠ "java/lang/invoke/VarHandle" ∧ (parseMethodDescriptor yX3_addToSum.desc).map (fun d => d.parameters.length) = some 2 := by decide +kernel
set_option maxHeartbeats 4000000 in
set_option maxRecDepth 100000 in
theorem okX3_addToSum (l : Launch) (D : va_G) (cI cZ cQ : ClassId) (h : Nat) (a : Nat → Nat) (X : va_W) (f : Nat → Nat → Int32) (x1 x2 : Int32) (sz : Nat) (hok : okL f) : Met l yX3_addToSum wsX3_addToSum ({ frames := 1, cells := 0, slots := 0, locals := 21 }) (PW [.ref h, .int x1, .int x2] sz D (TY cI cZ cQ) (LW cI h a f ++ X)) (QV D (TY cI cZ cQ) (LW cI h a (kX3_addToSum f x1 x2) ++ X) (va_A (LW cI h a f ++ X) sz)) 0 0 (va_A (LW cI h a f ++ X) sz) := by
  refine m_wr (cc := cX3_addToSum) (maxL := 3) (ret := none) (by decide) rfl (Nat.le_of_ble_eq_true rfl) (lv0 := [(0, .ref h), (1, .int x1), (2, .int x2)]) rfl ?_
  intro p e s m below meth c ls A hAe S hr hlk hP hK hD hS hA hl
  rw [← hAe]
  have S : CallFix p m c cX3_addToSum 3 s ([.ref h, .int x1, .int x2] : List Value).toArray wsX3_addToSum RX3 := S
  have hx := S.1
  have hb := S.2.1
  have hown : s.vm.findClass RX3 = some m.cls := S.2.2.2.1
  have hts := S.2.2.2.2
  have hinX3 : ∀ w ∈ wsX30, w ∈ wsX3_addToSum := by decide +kernel
  refine lv_aload_n hx hb dX3_addToSum_0 rfl (lv_at hl 0 rfl) ?_
  refine lv_iload_n hx hb dX3_addToSum_1 rfl (lv_at hl 1 rfl) ?_
  refine k_rd (As := [.int x1]) (rest := []) (bytes := cX3_hasSection) (C := RX3) S (okX3_hasSection l D cI cZ cQ h a X f x1) gX3_addToSum_X3_hasSection rfl ⟨rfl, rfl⟩ ndX3_hasSection ⟨Nat.le_of_ble_eq_true rfl, Nat.le_of_ble_eq_true rfl⟩ hK hP 0 rfl rfl rfl hl rfl (Nat.le_of_ble_eq_true rfl) dX3_addToSum_2 ⟨Nat.zero_le _, Nat.zero_le _⟩ ?_
  refine lv_if_eq (tgt := 18) hx hb dX3_addToSum_5 (by decide) (fun c_5 => ?_) (fun c_5 => ?_)
  · have c_5 : (kX3_hasSection f x1) = 0 := c_5
    have hρ : kX3_addToSum f x1 x2 = f := (if_pos c_5)
    exact e_wv hx hb hr hlk hK hP hD hS dX3_addToSum_18 (congrArg (fun z => (LW cI h a z ++ X)) hρ).symm
  have c_5 : ¬ ((kX3_hasSection f x1) = 0) := c_5
  have hv1 : vp_in _ 6 := hs_in hok c_5
  refine lv_aload_n hx hb dX3_addToSum_8 rfl (lv_at hl 0 rfl) ?_
  refine va_get (v := .ref (a 11)) (C := RX3) (T := TX3) (N := 15) (ci := 3) hx hb hts hinX3 hown hK hP 0 rfl rfl 11 (by decide) (hts (.fieldLink RX3 36 "AxleKeeper$Line" "sum" "[I") (by decide +kernel)) (fun _ h9 => h9) rfl dX3_addToSum_9 ?_
  refine lv_iload_n hx hb dX3_addToSum_12 rfl (lv_at hl 1 rfl) ?_
  refine lv_dup2_11 hx hb dX3_addToSum_13 rfl rfl ?_
  refine va_iald hx hb hK hP 9 0 rfl rfl (n := 6) (by assumption) dX3_addToSum_14 ?_
  refine lv_iload_n hx hb dX3_addToSum_15 rfl (lv_at hl 2 rfl) ?_
  refine lv_iadd hx hb dX3_addToSum_16 ?_
  refine st_L11 (x := ((f 11 (ix x1)) + x2)) hx hb hK hP hD hS (by assumption) dX3_addToSum_17 (fun H locs hP hD hS => ?_)
  have hρ : kX3_addToSum f x1 x2 = (up2 f 11 (ix x1) ((f 11 (ix x1)) + x2)) := (if_neg c_5)
  exact e_wv hx hb hr hlk hK hP hD hS dX3_addToSum_18 (congrArg (fun z => (LW cI h a z ++ X)) hρ).symm
theorem ndX3_receive : yX3_receive.cls = RX3 ∧ yX3_receive.cls ≠ "java/lang/invoke/MethodHandle" ∧ yX3_receive.cls ≠ "java/lang/invoke/VarHandle" ∧ (parseMethodDescriptor yX3_receive.desc).map (fun d => d.parameters.length) = some 1 := by decide +kernel
set_option maxHeartbeats 4000000 in
set_option maxRecDepth 100000 in
theorem okX3_receive (l : Launch) (D : va_G) (cI cZ cQ : ClassId) (h : Nat) (a : Nat → Nat) (X : va_W) (f : Nat → Nat → Int32) (x1 : Int32) (sz : Nat) (hok : okL f) (h1 : vp_in x1 7) : Met l yX3_receive wsX3_receive ({ frames := 2, cells := 0, slots := 0, locals := 43 }) (PW [.ref h, .int x1] sz D (TY cI cZ cQ) (LW cI h a f ++ X)) (QV D (TY cI cZ cQ) (LW cI h a (kX3_receive f x1) ++ X) (va_A (LW cI h a f ++ X) sz)) 0 0 (va_A (LW cI h a f ++ X) sz) := by
  refine m_wr (cc := cX3_receive) (maxL := 4) (ret := none) (by decide) rfl (Nat.le_of_ble_eq_true rfl) (lv0 := [(0, .ref h), (1, .int x1)]) rfl ?_
  intro p e s m below meth c ls A hAe S hr hlk hP hK hD hS hA hl
  rw [← hAe]
  have S : CallFix p m c cX3_receive 4 s ([.ref h, .int x1] : List Value).toArray wsX3_receive RX3 := S
  have hx := S.1
  have hb := S.2.1
  have hown : s.vm.findClass RX3 = some m.cls := S.2.2.2.1
  have hts := S.2.2.2.2
  have hinX3 : ∀ w ∈ wsX30, w ∈ wsX3_receive := by decide +kernel
  refine lv_aload_n hx hb dX3_receive_0 rfl (lv_at hl 0 rfl) ?_
  refine va_get (v := .ref (a 5)) (C := RX3) (T := TX3) (N := 15) (ci := 3) hx hb hts hinX3 hown hK hP 0 rfl rfl 5 (by decide) (hts (.fieldLink RX3 18 "AxleKeeper$Line" "count" "[I") (by decide +kernel)) (fun _ h9 => h9) rfl dX3_receive_1 ?_
  refine lv_iload_n hx hb dX3_receive_4 rfl (lv_at hl 1 rfl) ?_
  refine va_iald hx hb hK hP 3 0 rfl rfl (n := 7) (by assumption) dX3_receive_5 ?_
  refine lv_bipush (v := 15) hx hb dX3_receive_6 (by decide) ?_
  refine lv_iand hx hb dX3_receive_8 ?_
  refine lv_istore_n (lv' := [(2, .int ((f 5 (ix x1)) &&& 15)), (0, .ref h), (1, .int x1)]) hx hb dX3_receive_9 rfl hl (by decide) rfl (fun ls hl => ?_)
  refine lv_iload_n hx hb dX3_receive_10 rfl (lv_at hl 0 rfl) ?_
  refine lv_aload_n hx hb dX3_receive_11 rfl (lv_at hl 1 rfl) ?_
  refine va_get (v := .ref (a 7)) (C := RX3) (T := TX3) (N := 15) (ci := 3) hx hb hts hinX3 hown hK hP 0 rfl rfl 7 (by decide) (hts (.fieldLink RX3 24 "AxleKeeper$Line" "heard" "[I") (by decide +kernel)) (fun _ h9 => h9) rfl dX3_receive_12 ?_
  refine lv_iload_n hx hb dX3_receive_15 rfl (lv_at hl 2 rfl) ?_
  refine va_iald hx hb hK hP 5 0 rfl rfl (n := 7) (by assumption) dX3_receive_16 ?_
  refine lv_isub hx hb dX3_receive_17 ?_
  refine lv_bipush (v := 15) hx hb dX3_receive_18 (by decide) ?_
  refine lv_iand hx hb dX3_receive_20 ?_
  refine lv_istore_n (lv' := [(3, .int ((((f 5 (ix x1)) &&& 15) - (f 7 (ix x1))) &&& 15)), (2, .int ((f 5 (ix x1)) &&& 15)), (0, .ref h), (1, .int x1)]) hx hb dX3_receive_21 rfl hl (by decide) rfl (fun ls hl => ?_)
  refine lv_iload_n hx hb dX3_receive_22 rfl (lv_at hl 0 rfl) ?_
  refine lv_bipush (v := 8) hx hb dX3_receive_23 (by decide) ?_
  refine lv_icmp_le (tgt := 31) hx hb dX3_receive_25 (by decide) (fun c_25 => ?_) (fun c_25 => ?_)
  · have c_25 : ((((f 5 (ix x1)) &&& 15) - (f 7 (ix x1))) &&& 15) ≤ 8 := c_25
    refine lv_aload_n hx hb dX3_receive_31 rfl (lv_at hl 2 rfl) ?_
    refine lv_aload_n hx hb dX3_receive_32 rfl (lv_at hl 2 rfl) ?_
    refine lv_iload_n hx hb dX3_receive_33 rfl (lv_at hl 3 rfl) ?_
    refine k_rd (As := [.int x1]) (rest := [.ref h]) (bytes := cX3_rightOf) (C := RX3) S (okX3_rightOf l D cI cZ cQ h a X f x1) gX3_receive_X3_rightOf rfl ⟨rfl, rfl⟩ ndX3_rightOf ⟨Nat.le_of_ble_eq_true rfl, Nat.le_of_ble_eq_true rfl⟩ hK hP 0 rfl rfl rfl hl rfl (Nat.le_of_ble_eq_true rfl) dX3_receive_34 ⟨Nat.zero_le _, Nat.zero_le _⟩ ?_
    refine lv_iload_n hx hb dX3_receive_37 rfl (lv_at hl 0 rfl) ?_
    refine k_wv (As := [.int (kX3_rightOf f x1), .int ((((f 5 (ix x1)) &&& 15) - (f 7 (ix x1))) &&& 15)]) (rest := []) (bytes := cX3_addToSum) (C := RX3) S (okX3_addToSum l D cI cZ cQ h a X f (kX3_rightOf f x1) ((((f 5 (ix x1)) &&& 15) - (f 7 (ix x1))) &&& 15) _ hok) gX3_receive_X3_addToSum rfl ⟨rfl, rfl⟩ ndX3_addToSum ⟨Nat.le_of_ble_eq_true rfl, Nat.le_of_ble_eq_true rfl⟩ hK hP hD hS hA 0 rfl rfl rfl hl rfl (Nat.le_of_ble_eq_true rfl) dX3_receive_38 ⟨Nat.zero_le _, Nat.zero_le _⟩ (fun H locs hP hD hS => ?_)
    have hP : va_P D vwCl (LW cI h a (kX3_addToSum f (kX3_rightOf f x1) ((((f 5 (ix x1)) &&& 15) - (f 7 (ix x1))) &&& 15)) ++ X) H := hP
    have hD : va_D A (LW cI h a (kX3_addToSum f (kX3_rightOf f x1) ((((f 5 (ix x1)) &&& 15) - (f 7 (ix x1))) &&& 15)) ++ X) := hD
    refine lv_aload_n hx hb dX3_receive_41 rfl (lv_at hl 2 rfl) ?_
    refine lv_aload_n hx hb dX3_receive_42 rfl (lv_at hl 2 rfl) ?_
    refine lv_iload_n hx hb dX3_receive_43 rfl (lv_at hl 3 rfl) ?_
    refine k_rd (As := [.int x1]) (rest := [.ref h]) (bytes := cX3_leftOf) (C := RX3) S (okX3_leftOf l D cI cZ cQ h a X (kX3_addToSum f (kX3_rightOf f x1) ((((f 5 (ix x1)) &&& 15) - (f 7 (ix x1))) &&& 15)) x1) gX3_receive_X3_leftOf rfl ⟨rfl, rfl⟩ ndX3_leftOf ⟨Nat.le_of_ble_eq_true rfl, Nat.le_of_ble_eq_true rfl⟩ hK hP 0 rfl rfl rfl hl rfl (Nat.le_of_ble_eq_true rfl) dX3_receive_44 ⟨Nat.zero_le _, Nat.zero_le _⟩ ?_
    refine lv_iload_n hx hb dX3_receive_47 rfl (lv_at hl 0 rfl) ?_
    refine lv_ineg hx hb dX3_receive_48 ?_
    refine k_wv (As := [.int (kX3_leftOf (kX3_addToSum f (kX3_rightOf f x1) ((((f 5 (ix x1)) &&& 15) - (f 7 (ix x1))) &&& 15)) x1), .int (-((((f 5 (ix x1)) &&& 15) - (f 7 (ix x1))) &&& 15))]) (rest := []) (bytes := cX3_addToSum) (C := RX3) S (okX3_addToSum l D cI cZ cQ h a X (kX3_addToSum f (kX3_rightOf f x1) ((((f 5 (ix x1)) &&& 15) - (f 7 (ix x1))) &&& 15)) (kX3_leftOf (kX3_addToSum f (kX3_rightOf f x1) ((((f 5 (ix x1)) &&& 15) - (f 7 (ix x1))) &&& 15)) x1) (-((((f 5 (ix x1)) &&& 15) - (f 7 (ix x1))) &&& 15)) _ (ok_add hok)) gX3_receive_X3_addToSum rfl ⟨rfl, rfl⟩ ndX3_addToSum ⟨Nat.le_of_ble_eq_true rfl, Nat.le_of_ble_eq_true rfl⟩ hK hP hD hS hA 0 rfl rfl rfl hl rfl (Nat.le_of_ble_eq_true rfl) dX3_receive_49 ⟨Nat.zero_le _, Nat.zero_le _⟩ (fun H locs hP hD hS => ?_)
    have hP : va_P D vwCl (LW cI h a (kX3_addToSum (kX3_addToSum f (kX3_rightOf f x1) ((((f 5 (ix x1)) &&& 15) - (f 7 (ix x1))) &&& 15)) (kX3_leftOf (kX3_addToSum f (kX3_rightOf f x1) ((((f 5 (ix x1)) &&& 15) - (f 7 (ix x1))) &&& 15)) x1) (-((((f 5 (ix x1)) &&& 15) - (f 7 (ix x1))) &&& 15))) ++ X) H := hP
    have hD : va_D A (LW cI h a (kX3_addToSum (kX3_addToSum f (kX3_rightOf f x1) ((((f 5 (ix x1)) &&& 15) - (f 7 (ix x1))) &&& 15)) (kX3_leftOf (kX3_addToSum f (kX3_rightOf f x1) ((((f 5 (ix x1)) &&& 15) - (f 7 (ix x1))) &&& 15)) x1) (-((((f 5 (ix x1)) &&& 15) - (f 7 (ix x1))) &&& 15))) ++ X) := hD
    refine lv_aload_n hx hb dX3_receive_52 rfl (lv_at hl 2 rfl) ?_
    refine va_get (v := .ref (a 7)) (C := RX3) (T := TX3) (N := 15) (ci := 3) hx hb hts hinX3 hown hK hP 0 rfl rfl 7 (by decide) (hts (.fieldLink RX3 24 "AxleKeeper$Line" "heard" "[I") (by decide +kernel)) (fun _ h9 => h9) rfl dX3_receive_53 ?_
    refine lv_iload_n hx hb dX3_receive_56 rfl (lv_at hl 3 rfl) ?_
    refine lv_iload_n hx hb dX3_receive_57 rfl (lv_at hl 1 rfl) ?_
    refine st_L7 (x := ((f 5 (ix x1)) &&& 15)) hx hb hK hP hD hS (by assumption) dX3_receive_58 (fun H locs hP hD hS => ?_)
    refine lv_aload_n hx hb dX3_receive_59 rfl (lv_at hl 2 rfl) ?_
    refine va_get (v := .ref (a 8)) (C := RX3) (T := TX3) (N := 15) (ci := 3) hx hb hts hinX3 hown hK hP 0 rfl rfl 8 (by decide) (hts (.fieldLink RX3 27 "AxleKeeper$Line" "heardFaulty" "[I") (by decide +kernel)) (fun _ h9 => h9) rfl dX3_receive_60 ?_
    refine lv_iload_n hx hb dX3_receive_63 rfl (lv_at hl 3 rfl) ?_
    refine lv_aload_n hx hb dX3_receive_64 rfl (lv_at hl 2 rfl) ?_
    refine va_get (v := .ref (a 6)) (C := RX3) (T := TX3) (N := 15) (ci := 3) hx hb hts hinX3 hown hK hP 0 rfl rfl 6 (by decide) (hts (.fieldLink RX3 21 "AxleKeeper$Line" "faulty" "[I") (by decide +kernel)) (fun _ h9 => h9) rfl dX3_receive_65 ?_
    refine lv_iload_n hx hb dX3_receive_68 rfl (lv_at hl 3 rfl) ?_
    refine va_iald hx hb hK hP 4 0 rfl rfl (n := 7) (by assumption) dX3_receive_69 ?_
    refine st_L8 (x := ((kX3_addToSum (kX3_addToSum f (kX3_rightOf f x1) ((((f 5 (ix x1)) &&& 15) - (f 7 (ix x1))) &&& 15)) (kX3_leftOf (kX3_addToSum f (kX3_rightOf f x1) ((((f 5 (ix x1)) &&& 15) - (f 7 (ix x1))) &&& 15)) x1) (-((((f 5 (ix x1)) &&& 15) - (f 7 (ix x1))) &&& 15))) 6 (ix x1))) hx hb hK hP hD hS (by assumption) dX3_receive_70 (fun H locs hP hD hS => ?_)
    refine lv_aload_n hx hb dX3_receive_71 rfl (lv_at hl 2 rfl) ?_
    refine va_get (v := .ref (a 9)) (C := RX3) (T := TX3) (N := 15) (ci := 3) hx hb hts hinX3 hown hK hP 0 rfl rfl 9 (by decide) (hts (.fieldLink RX3 30 "AxleKeeper$Line" "age" "[I") (by decide +kernel)) (fun _ h9 => h9) rfl dX3_receive_72 ?_
    refine lv_iload_n hx hb dX3_receive_75 rfl (lv_at hl 3 rfl) ?_
    refine lv_iconst (v := 0) hx hb dX3_receive_76 (by decide) ?_
    refine st_L9 (x := 0) hx hb hK hP hD hS (by assumption) dX3_receive_77 (fun H locs hP hD hS => ?_)
    have hρ : kX3_receive f x1 = (up2 (up2 (up2 (kX3_addToSum (kX3_addToSum f (kX3_rightOf f x1) ((((f 5 (ix x1)) &&& 15) - (f 7 (ix x1))) &&& 15)) (kX3_leftOf (kX3_addToSum f (kX3_rightOf f x1) ((((f 5 (ix x1)) &&& 15) - (f 7 (ix x1))) &&& 15)) x1) (-((((f 5 (ix x1)) &&& 15) - (f 7 (ix x1))) &&& 15))) 7 (ix x1) ((f 5 (ix x1)) &&& 15)) 8 (ix x1) ((kX3_addToSum (kX3_addToSum f (kX3_rightOf f x1) ((((f 5 (ix x1)) &&& 15) - (f 7 (ix x1))) &&& 15)) (kX3_leftOf (kX3_addToSum f (kX3_rightOf f x1) ((((f 5 (ix x1)) &&& 15) - (f 7 (ix x1))) &&& 15)) x1) (-((((f 5 (ix x1)) &&& 15) - (f 7 (ix x1))) &&& 15))) 6 (ix x1))) 9 (ix x1) 0) := (if_pos c_25)
    exact e_wv hx hb hr hlk hK hP hD hS dX3_receive_78 (congrArg (fun z => (LW cI h a z ++ X)) hρ).symm
  have c_25 : ¬ (((((f 5 (ix x1)) &&& 15) - (f 7 (ix x1))) &&& 15) ≤ 8) := c_25
  refine lv_iinc (v := (((((f 5 (ix x1)) &&& 15) - (f 7 (ix x1))) &&& 15) + (-16))) (lv' := [(3, .int (((((f 5 (ix x1)) &&& 15) - (f 7 (ix x1))) &&& 15) + (-16))), (2, .int ((f 5 (ix x1)) &&& 15)), (0, .ref h), (1, .int x1)]) hx hb dX3_receive_28 hl (k := 0) rfl rfl (by decide) rfl (fun ls hl => ?_)
  refine lv_aload_n hx hb dX3_receive_31 rfl (lv_at hl 2 rfl) ?_
  refine lv_aload_n hx hb dX3_receive_32 rfl (lv_at hl 2 rfl) ?_
  refine lv_iload_n hx hb dX3_receive_33 rfl (lv_at hl 3 rfl) ?_
  refine k_rd (As := [.int x1]) (rest := [.ref h]) (bytes := cX3_rightOf) (C := RX3) S (okX3_rightOf l D cI cZ cQ h a X f x1) gX3_receive_X3_rightOf rfl ⟨rfl, rfl⟩ ndX3_rightOf ⟨Nat.le_of_ble_eq_true rfl, Nat.le_of_ble_eq_true rfl⟩ hK hP 0 rfl rfl rfl hl rfl (Nat.le_of_ble_eq_true rfl) dX3_receive_34 ⟨Nat.zero_le _, Nat.zero_le _⟩ ?_
  refine lv_iload_n hx hb dX3_receive_37 rfl (lv_at hl 0 rfl) ?_
  refine k_wv (As := [.int (kX3_rightOf f x1), .int (((((f 5 (ix x1)) &&& 15) - (f 7 (ix x1))) &&& 15) + (-16))]) (rest := []) (bytes := cX3_addToSum) (C := RX3) S (okX3_addToSum l D cI cZ cQ h a X f (kX3_rightOf f x1) (((((f 5 (ix x1)) &&& 15) - (f 7 (ix x1))) &&& 15) + (-16)) _ hok) gX3_receive_X3_addToSum rfl ⟨rfl, rfl⟩ ndX3_addToSum ⟨Nat.le_of_ble_eq_true rfl, Nat.le_of_ble_eq_true rfl⟩ hK hP hD hS hA 0 rfl rfl rfl hl rfl (Nat.le_of_ble_eq_true rfl) dX3_receive_38 ⟨Nat.zero_le _, Nat.zero_le _⟩ (fun H locs hP hD hS => ?_)
  have hP : va_P D vwCl (LW cI h a (kX3_addToSum f (kX3_rightOf f x1) (((((f 5 (ix x1)) &&& 15) - (f 7 (ix x1))) &&& 15) + (-16))) ++ X) H := hP
  have hD : va_D A (LW cI h a (kX3_addToSum f (kX3_rightOf f x1) (((((f 5 (ix x1)) &&& 15) - (f 7 (ix x1))) &&& 15) + (-16))) ++ X) := hD
  refine lv_aload_n hx hb dX3_receive_41 rfl (lv_at hl 2 rfl) ?_
  refine lv_aload_n hx hb dX3_receive_42 rfl (lv_at hl 2 rfl) ?_
  refine lv_iload_n hx hb dX3_receive_43 rfl (lv_at hl 3 rfl) ?_
  refine k_rd (As := [.int x1]) (rest := [.ref h]) (bytes := cX3_leftOf) (C := RX3) S (okX3_leftOf l D cI cZ cQ h a X (kX3_addToSum f (kX3_rightOf f x1) (((((f 5 (ix x1)) &&& 15) - (f 7 (ix x1))) &&& 15) + (-16))) x1) gX3_receive_X3_leftOf rfl ⟨rfl, rfl⟩ ndX3_leftOf ⟨Nat.le_of_ble_eq_true rfl, Nat.le_of_ble_eq_true rfl⟩ hK hP 0 rfl rfl rfl hl rfl (Nat.le_of_ble_eq_true rfl) dX3_receive_44 ⟨Nat.zero_le _, Nat.zero_le _⟩ ?_
  refine lv_iload_n hx hb dX3_receive_47 rfl (lv_at hl 0 rfl) ?_
  refine lv_ineg hx hb dX3_receive_48 ?_
  refine k_wv (As := [.int (kX3_leftOf (kX3_addToSum f (kX3_rightOf f x1) (((((f 5 (ix x1)) &&& 15) - (f 7 (ix x1))) &&& 15) + (-16))) x1), .int (-(((((f 5 (ix x1)) &&& 15) - (f 7 (ix x1))) &&& 15) + (-16)))]) (rest := []) (bytes := cX3_addToSum) (C := RX3) S (okX3_addToSum l D cI cZ cQ h a X (kX3_addToSum f (kX3_rightOf f x1) (((((f 5 (ix x1)) &&& 15) - (f 7 (ix x1))) &&& 15) + (-16))) (kX3_leftOf (kX3_addToSum f (kX3_rightOf f x1) (((((f 5 (ix x1)) &&& 15) - (f 7 (ix x1))) &&& 15) + (-16))) x1) (-(((((f 5 (ix x1)) &&& 15) - (f 7 (ix x1))) &&& 15) + (-16))) _ (ok_add hok)) gX3_receive_X3_addToSum rfl ⟨rfl, rfl⟩ ndX3_addToSum ⟨Nat.le_of_ble_eq_true rfl, Nat.le_of_ble_eq_true rfl⟩ hK hP hD hS hA 0 rfl rfl rfl hl rfl (Nat.le_of_ble_eq_true rfl) dX3_receive_49 ⟨Nat.zero_le _, Nat.zero_le _⟩ (fun H locs hP hD hS => ?_)
  have hP : va_P D vwCl (LW cI h a (kX3_addToSum (kX3_addToSum f (kX3_rightOf f x1) (((((f 5 (ix x1)) &&& 15) - (f 7 (ix x1))) &&& 15) + (-16))) (kX3_leftOf (kX3_addToSum f (kX3_rightOf f x1) (((((f 5 (ix x1)) &&& 15) - (f 7 (ix x1))) &&& 15) + (-16))) x1) (-(((((f 5 (ix x1)) &&& 15) - (f 7 (ix x1))) &&& 15) + (-16)))) ++ X) H := hP
  have hD : va_D A (LW cI h a (kX3_addToSum (kX3_addToSum f (kX3_rightOf f x1) (((((f 5 (ix x1)) &&& 15) - (f 7 (ix x1))) &&& 15) + (-16))) (kX3_leftOf (kX3_addToSum f (kX3_rightOf f x1) (((((f 5 (ix x1)) &&& 15) - (f 7 (ix x1))) &&& 15) + (-16))) x1) (-(((((f 5 (ix x1)) &&& 15) - (f 7 (ix x1))) &&& 15) + (-16)))) ++ X) := hD
  refine lv_aload_n hx hb dX3_receive_52 rfl (lv_at hl 2 rfl) ?_
  refine va_get (v := .ref (a 7)) (C := RX3) (T := TX3) (N := 15) (ci := 3) hx hb hts hinX3 hown hK hP 0 rfl rfl 7 (by decide) (hts (.fieldLink RX3 24 "AxleKeeper$Line" "heard" "[I") (by decide +kernel)) (fun _ h9 => h9) rfl dX3_receive_53 ?_
  refine lv_iload_n hx hb dX3_receive_56 rfl (lv_at hl 3 rfl) ?_
  refine lv_iload_n hx hb dX3_receive_57 rfl (lv_at hl 1 rfl) ?_
  refine st_L7 (x := ((f 5 (ix x1)) &&& 15)) hx hb hK hP hD hS (by assumption) dX3_receive_58 (fun H locs hP hD hS => ?_)
  refine lv_aload_n hx hb dX3_receive_59 rfl (lv_at hl 2 rfl) ?_
  refine va_get (v := .ref (a 8)) (C := RX3) (T := TX3) (N := 15) (ci := 3) hx hb hts hinX3 hown hK hP 0 rfl rfl 8 (by decide) (hts (.fieldLink RX3 27 "AxleKeeper$Line" "heardFaulty" "[I") (by decide +kernel)) (fun _ h9 => h9) rfl dX3_receive_60 ?_
  refine lv_iload_n hx hb dX3_receive_63 rfl (lv_at hl 3 rfl) ?_
  refine lv_aload_n hx hb dX3_receive_64 rfl (lv_at hl 2 rfl) ?_
  refine va_get (v := .ref (a 6)) (C := RX3) (T := TX3) (N := 15) (ci := 3) hx hb hts hinX3 hown hK hP 0 rfl rfl 6 (by decide) (hts (.fieldLink RX3 21 "AxleKeeper$Line" "faulty" "[I") (by decide +kernel)) (fun _ h9 => h9) rfl dX3_receive_65 ?_
  refine lv_iload_n hx hb dX3_receive_68 rfl (lv_at hl 3 rfl) ?_
  refine va_iald hx hb hK hP 4 0 rfl rfl (n := 7) (by assumption) dX3_receive_69 ?_
  refine st_L8 (x := ((kX3_addToSum (kX3_addToSum f (kX3_rightOf f x1) (((((f 5 (ix x1)) &&& 15) - (f 7 (ix x1))) &&& 15) + (-16))) (kX3_leftOf (kX3_addToSum f (kX3_rightOf f x1) (((((f 5 (ix x1)) &&& 15) - (f 7 (ix x1))) &&& 15) + (-16))) x1) (-(((((f 5 (ix x1)) &&& 15) - (f 7 (ix x1))) &&& 15) + (-16)))) 6 (ix x1))) hx hb hK hP hD hS (by assumption) dX3_receive_70 (fun H locs hP hD hS => ?_)
  refine lv_aload_n hx hb dX3_receive_71 rfl (lv_at hl 2 rfl) ?_
  refine va_get (v := .ref (a 9)) (C := RX3) (T := TX3) (N := 15) (ci := 3) hx hb hts hinX3 hown hK hP 0 rfl rfl 9 (by decide) (hts (.fieldLink RX3 30 "AxleKeeper$Line" "age" "[I") (by decide +kernel)) (fun _ h9 => h9) rfl dX3_receive_72 ?_
  refine lv_iload_n hx hb dX3_receive_75 rfl (lv_at hl 3 rfl) ?_
  refine lv_iconst (v := 0) hx hb dX3_receive_76 (by decide) ?_
  refine st_L9 (x := 0) hx hb hK hP hD hS (by assumption) dX3_receive_77 (fun H locs hP hD hS => ?_)
  have hρ : kX3_receive f x1 = (up2 (up2 (up2 (kX3_addToSum (kX3_addToSum f (kX3_rightOf f x1) (((((f 5 (ix x1)) &&& 15) - (f 7 (ix x1))) &&& 15) + (-16))) (kX3_leftOf (kX3_addToSum f (kX3_rightOf f x1) (((((f 5 (ix x1)) &&& 15) - (f 7 (ix x1))) &&& 15) + (-16))) x1) (-(((((f 5 (ix x1)) &&& 15) - (f 7 (ix x1))) &&& 15) + (-16)))) 7 (ix x1) ((f 5 (ix x1)) &&& 15)) 8 (ix x1) ((kX3_addToSum (kX3_addToSum f (kX3_rightOf f x1) (((((f 5 (ix x1)) &&& 15) - (f 7 (ix x1))) &&& 15) + (-16))) (kX3_leftOf (kX3_addToSum f (kX3_rightOf f x1) (((((f 5 (ix x1)) &&& 15) - (f 7 (ix x1))) &&& 15) + (-16))) x1) (-(((((f 5 (ix x1)) &&& 15) - (f 7 (ix x1))) &&& 15) + (-16)))) 6 (ix x1))) 9 (ix x1) 0) := (if_neg c_25)
  exact e_wv hx hb hr hlk hK hP hD hS dX3_receive_78 (congrArg (fun z => (LW cI h a z ++ X)) hρ).symm
theorem ndX3_hear : yX3_hear.cls = RX3 ∧ yX3_hear.cls ≠ "java/lang/invoke/MethodHandle" ∧ yX3_hear.cls ≠ "java/lang/invoke/VarHandle" ∧ (parseMethodDescriptor yX3_hear.desc).map (fun d => d.parameters.length) = some 1 := by decide +kernel
set_option maxHeartbeats 4000000 in
set_option maxRecDepth 100000 in
theorem lpX3_hear_2 {p : Program} {e : Env} {s : State} {m : MethodId} {below : List Frame} {meth : Method} {c : Code} (l : Launch) (D : va_G) (cI cZ cQ : ClassId) (h : Nat) (a : Nat → Nat) (X : va_W) (x1 : Int32) (A : Nat → Prop) (hA : ∀ q, s.heap.size ≤ q → A q) (S : CallFix p m c cX3_hear 3 s ([.ref h, .int x1] : List Value).toArray wsX3_hear RX3) (hr : meth.sig.returnType = none) (hlk : meth.locks = false) (hK : va_K D vwCl (TY cI cZ cQ) s)  : ∀ (n i : Nat) (f : Nat → Nat → Int32) (H : Heap) (locs : List Loc), i ≤ 7 → 7 - i < n → (hok : okL f) → va_P D vwCl (LW cI h a f ++ X) H → va_D A (LW cI h a f ++ X) → va_S A s.heap H locs → ∀ {ls : Array Slot}, lv_has ls 3 [(0, .ref h), (1, .int x1), (2, .int (nI i))] → ∀ ρ : (Nat → Nat → Int32), ρ = kX3_hear_2 x1 n i f → W p l e { frames := 3, cells := 0, slots := 0, locals := 66 } s m ([.ref h, .int x1] : List Value).toArray below meth c H locs 0 0 (MQ below (QV D (TY cI cZ cQ) (LW cI h a ρ ++ X) A) ([.ref h, .int x1] : List Value).toArray s 0 0 A) (F0 m 2 ls []) := by
  have hx := S.1
  have hb := S.2.1
  have hown : s.vm.findClass RX3 = some m.cls := S.2.2.2.1
  have hts := S.2.2.2.2
  have hinX3 : ∀ w ∈ wsX30, w ∈ wsX3_hear := by decide +kernel
  intro n
  induction n with
  | zero =>
    intro i _ _ _ hi hn
    exact absurd hn (Nat.not_lt_zero _)
  | succ n ih =>
    intro i  f H locs hi hn hok hP hD hS ls hl ρ hρ0
    refine lv_iload_n hx hb dX3_hear_2 rfl (lv_at hl 2 rfl) ?_
    refine lv_aload_n hx hb dX3_hear_3 rfl (lv_at hl 0 rfl) ?_
    refine k_rd (As := []) (rest := [.int (nI i)]) (bytes := cX3_heads) (C := RX3) S (okX3_heads l D cI cZ cQ h a X f ) gX3_hear_X3_heads rfl ⟨rfl, rfl⟩ ndX3_heads ⟨Nat.le_of_ble_eq_true rfl, Nat.le_of_ble_eq_true rfl⟩ hK hP 0 rfl rfl rfl hl rfl (Nat.le_of_ble_eq_true rfl) dX3_hear_4 ⟨Nat.zero_le _, Nat.zero_le _⟩ ?_
    refine lv_icmp_ge (tgt := 53) hx hb dX3_hear_7 (by decide) (fun c_7 => ?_) (fun c_7 => ?_)
    · have c_7 : (kX3_heads f) ≤ (nI i) := c_7
      have hρ : kX3_hear_2 x1 (n + 1) i f = f := (if_pos c_7)
      have hρ := hρ0.trans hρ
      exact e_wv hx hb hr hlk hK hP hD hS dX3_hear_53 (congrArg (fun z => (LW cI h a z ++ X)) hρ).symm
    have c_7 : ¬ ((kX3_heads f) ≤ (nI i)) := c_7
    have hlt : i < 7 := il_lt (heads_le hok) (by decide) hi c_7
    have hvi : vp_in (nI i) 7 := vp_in_nI hlt (by decide)
    refine lv_iload_n hx hb dX3_hear_10 rfl (lv_at hl 1 rfl) ?_
    refine lv_iload_n hx hb dX3_hear_11 rfl (lv_at hl 2 rfl) ?_
    refine lv_ishr hx hb dX3_hear_12 ?_
    refine lv_iconst (v := 1) hx hb dX3_hear_13 (by decide) ?_
    refine lv_iand hx hb dX3_hear_14 ?_
    refine lv_if_ne (tgt := 26) hx hb dX3_hear_15 (by decide) (fun c_15 => ?_) (fun c_15 => ?_)
    · have c_15 : ¬ (((x1 >>> ((nI i) &&& 31)) &&& 1) = 0) := c_15
      refine lv_aload_n hx hb dX3_hear_26 rfl (lv_at hl 0 rfl) ?_
      refine va_get (v := .ref (a 9)) (C := RX3) (T := TX3) (N := 15) (ci := 3) hx hb hts hinX3 hown hK hP 0 rfl rfl 9 (by decide) (hts (.fieldLink RX3 30 "AxleKeeper$Line" "age" "[I") (by decide +kernel)) (fun _ h9 => h9) rfl dX3_hear_27 ?_
      refine lv_iload_n hx hb dX3_hear_30 rfl (lv_at hl 2 rfl) ?_
      refine va_iald hx hb hK hP 7 0 rfl rfl (n := 7) (by assumption) dX3_hear_31 ?_
      refine lv_bipush (v := 99) hx hb dX3_hear_32 (by decide) ?_
      refine lv_icmp_ge (tgt := 47) hx hb dX3_hear_34 (by decide) (fun c_34 => ?_) (fun c_34 => ?_)
      · have c_34 : 99 ≤ (f 9 (ix (nI i))) := c_34
        refine lv_iinc (v := (nI (i + 1))) (lv' := [(2, .int (nI (i + 1))), (0, .ref h), (1, .int x1)]) hx hb dX3_hear_47 hl (k := 2) rfl (nI_1 i) (by decide) rfl (fun ls hl => ?_)
        refine lv_goto (tgt := 2) hx hb dX3_hear_50 (by decide) ?_
        have hρ : kX3_hear_2 x1 (n + 1) i f = kX3_hear_2 x1 n (i + 1) f := (if_neg c_7).trans ((if_neg c_15).trans ((if_pos c_34)))
        have hρ := hρ0.trans hρ
        exact ih  (i + 1)  f _ _ (by omega) (by omega) (by first | exact hok | exact ok_receive hok) hP hD hS (lv_sub hl [1, 2, 0] rfl) _ hρ
      have c_34 : ¬ (99 ≤ (f 9 (ix (nI i)))) := c_34
      refine lv_aload_n hx hb dX3_hear_37 rfl (lv_at hl 0 rfl) ?_
      refine va_get (v := .ref (a 9)) (C := RX3) (T := TX3) (N := 15) (ci := 3) hx hb hts hinX3 hown hK hP 0 rfl rfl 9 (by decide) (hts (.fieldLink RX3 30 "AxleKeeper$Line" "age" "[I") (by decide +kernel)) (fun _ h9 => h9) rfl dX3_hear_38 ?_
      refine lv_iload_n hx hb dX3_hear_41 rfl (lv_at hl 2 rfl) ?_
      refine lv_dup2_11 hx hb dX3_hear_42 rfl rfl ?_
      refine va_iald hx hb hK hP 7 0 rfl rfl (n := 7) (by assumption) dX3_hear_43 ?_
      refine lv_iconst (v := 1) hx hb dX3_hear_44 (by decide) ?_
      refine lv_iadd hx hb dX3_hear_45 ?_
      refine st_L9 (x := ((f 9 (ix (nI i))) + 1)) hx hb hK hP hD hS (by assumption) dX3_hear_46 (fun H locs hP hD hS => ?_)
      refine lv_iinc (v := (nI (i + 1))) (lv' := [(2, .int (nI (i + 1))), (0, .ref h), (1, .int x1)]) hx hb dX3_hear_47 hl (k := 2) rfl (nI_1 i) (by decide) rfl (fun ls hl => ?_)
      refine lv_goto (tgt := 2) hx hb dX3_hear_50 (by decide) ?_
      have hρ : kX3_hear_2 x1 (n + 1) i f = kX3_hear_2 x1 n (i + 1) (up2 f 9 (ix (nI i)) ((f 9 (ix (nI i))) + 1)) := (if_neg c_7).trans ((if_neg c_15).trans ((if_neg c_34)))
      have hρ := hρ0.trans hρ
      exact ih  (i + 1)  (up2 f 9 (ix (nI i)) ((f 9 (ix (nI i))) + 1)) _ _ (by omega) (by omega) (by first | exact hok | exact ok_receive hok) hP hD hS (lv_sub hl [1, 2, 0] rfl) _ hρ
    have c_15 : ((x1 >>> ((nI i) &&& 31)) &&& 1) = 0 := c_15
    refine lv_aload_n hx hb dX3_hear_18 rfl (lv_at hl 0 rfl) ?_
    refine lv_iload_n hx hb dX3_hear_19 rfl (lv_at hl 2 rfl) ?_
    refine k_wv (As := [.int (nI i)]) (rest := []) (bytes := cX3_receive) (C := RX3) S (okX3_receive l D cI cZ cQ h a X f (nI i) _ (by assumption) (by assumption)) gX3_hear_X3_receive rfl ⟨rfl, rfl⟩ ndX3_receive ⟨Nat.le_of_ble_eq_true rfl, Nat.le_of_ble_eq_true rfl⟩ hK hP hD hS hA 0 rfl rfl rfl hl rfl (Nat.le_of_ble_eq_true rfl) dX3_hear_20 ⟨Nat.zero_le _, Nat.zero_le _⟩ (fun H locs hP hD hS => ?_)
    have hP : va_P D vwCl (LW cI h a (kX3_receive f (nI i)) ++ X) H := hP
    have hD : va_D A (LW cI h a (kX3_receive f (nI i)) ++ X) := hD
    refine lv_goto (tgt := 47) hx hb dX3_hear_23 (by decide) ?_
    refine lv_iinc (v := (nI (i + 1))) (lv' := [(2, .int (nI (i + 1))), (0, .ref h), (1, .int x1)]) hx hb dX3_hear_47 hl (k := 2) rfl (nI_1 i) (by decide) rfl (fun ls hl => ?_)
    refine lv_goto (tgt := 2) hx hb dX3_hear_50 (by decide) ?_
    have hρ : kX3_hear_2 x1 (n + 1) i f = kX3_hear_2 x1 n (i + 1) (kX3_receive f (nI i)) := (if_neg c_7).trans ((if_pos c_15))
    have hρ := hρ0.trans hρ
    exact ih  (i + 1)  (kX3_receive f (nI i)) _ _ (by omega) (by omega) (by first | exact hok | exact ok_receive hok) hP hD hS (lv_sub hl [1, 2, 0] rfl) _ hρ
set_option maxHeartbeats 4000000 in
set_option maxRecDepth 100000 in
theorem okX3_hear (l : Launch) (D : va_G) (cI cZ cQ : ClassId) (h : Nat) (a : Nat → Nat) (X : va_W) (f : Nat → Nat → Int32) (x1 : Int32) (sz : Nat) (hok : okL f) : Met l yX3_hear wsX3_hear ({ frames := 3, cells := 0, slots := 0, locals := 66 }) (PW [.ref h, .int x1] sz D (TY cI cZ cQ) (LW cI h a f ++ X)) (QV D (TY cI cZ cQ) (LW cI h a (kX3_hear f x1) ++ X) (va_A (LW cI h a f ++ X) sz)) 0 0 (va_A (LW cI h a f ++ X) sz) := by
  refine m_wr (cc := cX3_hear) (maxL := 3) (ret := none) (by decide) rfl (Nat.le_of_ble_eq_true rfl) (lv0 := [(0, .ref h), (1, .int x1)]) rfl ?_
  intro p e s m below meth c ls A hAe S hr hlk hP hK hD hS hA hl
  rw [← hAe]
  have S : CallFix p m c cX3_hear 3 s ([.ref h, .int x1] : List Value).toArray wsX3_hear RX3 := S
  have hx := S.1
  have hb := S.2.1
  have hown : s.vm.findClass RX3 = some m.cls := S.2.2.2.1
  have hts := S.2.2.2.2
  have hinX3 : ∀ w ∈ wsX30, w ∈ wsX3_hear := by decide +kernel
  refine lv_iconst (v := 0) hx hb dX3_hear_0 (by decide) ?_
  refine lv_istore_n (lv' := [(2, .int 0), (0, .ref h), (1, .int x1)]) hx hb dX3_hear_1 rfl hl (by decide) rfl (fun ls hl => ?_)
  have hρ : kX3_hear f x1 = kX3_hear_2 x1 8 0 f := rfl
  exact lpX3_hear_2 l D cI cZ cQ h a X x1 A hA S hr hlk hK   8 0  f _ _ (by omega) (by omega) hok hP hD hS (lv_sub hl [1, 2, 0] rfl) _ hρ
theorem ndX3_judgeSweep : yX3_judgeSweep.cls = RX3 ∧ yX3_judgeSweep.cls ≠ "java/lang/invoke/MethodHandle" ∧ yX3_judgeSweep.cls ≠ "java/lang/invoke/VarHandle" ∧ (parseMethodDescriptor yX3_judgeSweep.desc).map (fun d => d.parameters.length) = some 1 := by decide +kernel
set_option maxHeartbeats 4000000 in
set_option maxRecDepth 100000 in
theorem okX3_judgeSweep (l : Launch) (D : va_G) (cI cZ cQ : ClassId) (h : Nat) (a : Nat → Nat) (X : va_W) (f : Nat → Nat → Int32) (x1 : Int32) (sz : Nat) (h1 : vp_in x1 6) : Met l yX3_judgeSweep wsX3_judgeSweep ({ frames := 0, cells := 0, slots := 0, locals := 0 }) (PW [.ref h, .int x1] sz D (TY cI cZ cQ) (LW cI h a f ++ X)) (QV D (TY cI cZ cQ) (LW cI h a (kX3_judgeSweep f x1) ++ X) (va_A (LW cI h a f ++ X) sz)) 0 0 (va_A (LW cI h a f ++ X) sz) := by
  refine m_wr (cc := cX3_judgeSweep) (maxL := 2) (ret := none) (by decide) rfl (Nat.le_of_ble_eq_true rfl) (lv0 := [(0, .ref h), (1, .int x1)]) rfl ?_
  intro p e s m below meth c ls A hAe S hr hlk hP hK hD hS hA hl
  rw [← hAe]
  have S : CallFix p m c cX3_judgeSweep 2 s ([.ref h, .int x1] : List Value).toArray wsX3_judgeSweep RX3 := S
  have hx := S.1
  have hb := S.2.1
  have hown : s.vm.findClass RX3 = some m.cls := S.2.2.2.1
  have hts := S.2.2.2.2
  have hinX3 : ∀ w ∈ wsX30, w ∈ wsX3_judgeSweep := by decide +kernel
  refine lv_aload_n hx hb dX3_judgeSweep_0 rfl (lv_at hl 0 rfl) ?_
  refine va_get (v := .ref (a 11)) (C := RX3) (T := TX3) (N := 15) (ci := 3) hx hb hts hinX3 hown hK hP 0 rfl rfl 11 (by decide) (hts (.fieldLink RX3 36 "AxleKeeper$Line" "sum" "[I") (by decide +kernel)) (fun _ h9 => h9) rfl dX3_judgeSweep_1 ?_
  refine lv_iload_n hx hb dX3_judgeSweep_4 rfl (lv_at hl 1 rfl) ?_
  refine va_iald hx hb hK hP 9 0 rfl rfl (n := 6) (by assumption) dX3_judgeSweep_5 ?_
  refine lv_if_le (tgt := 19) hx hb dX3_judgeSweep_6 (by decide) (fun c_6 => ?_) (fun c_6 => ?_)
  · have c_6 : (f 11 (ix x1)) ≤ 0 := c_6
    refine lv_aload_n hx hb dX3_judgeSweep_19 rfl (lv_at hl 0 rfl) ?_
    refine va_get (v := .ref (a 13)) (C := RX3) (T := TX3) (N := 15) (ci := 3) hx hb hts hinX3 hown hK hP 0 rfl rfl 13 (by decide) (hts (.fieldLink RX3 42 "AxleKeeper$Line" "entered" "[I") (by decide +kernel)) (fun _ h9 => h9) rfl dX3_judgeSweep_20 ?_
    refine lv_iload_n hx hb dX3_judgeSweep_23 rfl (lv_at hl 1 rfl) ?_
    refine va_iald hx hb hK hP 11 0 rfl rfl (n := 6) (by assumption) dX3_judgeSweep_24 ?_
    refine lv_iconst (v := 1) hx hb dX3_judgeSweep_25 (by decide) ?_
    refine lv_icmp_ne (tgt := 36) hx hb dX3_judgeSweep_26 (by decide) (fun c_26 => ?_) (fun c_26 => ?_)
    · have c_26 : ¬ ((f 13 (ix x1)) = 1) := c_26
      have hρ : kX3_judgeSweep f x1 = f := (if_pos c_6).trans ((if_neg c_26))
      exact e_wv hx hb hr hlk hK hP hD hS dX3_judgeSweep_36 (congrArg (fun z => (LW cI h a z ++ X)) hρ).symm
    have c_26 : (f 13 (ix x1)) = 1 := c_26
    refine lv_aload_n hx hb dX3_judgeSweep_29 rfl (lv_at hl 0 rfl) ?_
    refine va_get (v := .ref (a 12)) (C := RX3) (T := TX3) (N := 15) (ci := 3) hx hb hts hinX3 hown hK hP 0 rfl rfl 12 (by decide) (hts (.fieldLink RX3 39 "AxleKeeper$Line" "call" "[I") (by decide +kernel)) (fun _ h9 => h9) rfl dX3_judgeSweep_30 ?_
    refine lv_iload_n hx hb dX3_judgeSweep_33 rfl (lv_at hl 1 rfl) ?_
    refine lv_iconst (v := 0) hx hb dX3_judgeSweep_34 (by decide) ?_
    refine st_L12 (x := 0) hx hb hK hP hD hS (by assumption) dX3_judgeSweep_35 (fun H locs hP hD hS => ?_)
    have hρ : kX3_judgeSweep f x1 = (up2 f 12 (ix x1) 0) := (if_pos c_6).trans ((if_pos c_26))
    exact e_wv hx hb hr hlk hK hP hD hS dX3_judgeSweep_36 (congrArg (fun z => (LW cI h a z ++ X)) hρ).symm
  have c_6 : ¬ ((f 11 (ix x1)) ≤ 0) := c_6
  refine lv_aload_n hx hb dX3_judgeSweep_9 rfl (lv_at hl 0 rfl) ?_
  refine va_get (v := .ref (a 13)) (C := RX3) (T := TX3) (N := 15) (ci := 3) hx hb hts hinX3 hown hK hP 0 rfl rfl 13 (by decide) (hts (.fieldLink RX3 42 "AxleKeeper$Line" "entered" "[I") (by decide +kernel)) (fun _ h9 => h9) rfl dX3_judgeSweep_10 ?_
  refine lv_iload_n hx hb dX3_judgeSweep_13 rfl (lv_at hl 1 rfl) ?_
  refine lv_iconst (v := 1) hx hb dX3_judgeSweep_14 (by decide) ?_
  refine st_L13 (x := 1) hx hb hK hP hD hS (by assumption) dX3_judgeSweep_15 (fun H locs hP hD hS => ?_)
  refine lv_goto (tgt := 36) hx hb dX3_judgeSweep_16 (by decide) ?_
  have hρ : kX3_judgeSweep f x1 = (up2 f 13 (ix x1) 1) := (if_neg c_6)
  exact e_wv hx hb hr hlk hK hP hD hS dX3_judgeSweep_36 (congrArg (fun z => (LW cI h a z ++ X)) hρ).symm
theorem ndX3_judge : yX3_judge.cls = RX3 ∧ yX3_judge.cls ≠ "java/lang/invoke/MethodHandle" ∧ yX3_judge.cls ≠ "java/lang/invoke/VarHandle" ∧ (parseMethodDescriptor yX3_judge.desc).map (fun d => d.parameters.length) = some 1 := by decide +kernel
set_option maxHeartbeats 4000000 in
set_option maxRecDepth 100000 in
theorem okX3_judge (l : Launch) (D : va_G) (cI cZ cQ : ClassId) (h : Nat) (a : Nat → Nat) (X : va_W) (f : Nat → Nat → Int32) (x1 : Int32) (sz : Nat) (h1 : vp_in x1 6) : Met l yX3_judge wsX3_judge ({ frames := 3, cells := 0, slots := 0, locals := 63 }) (PW [.ref h, .int x1] sz D (TY cI cZ cQ) (LW cI h a f ++ X)) (QV D (TY cI cZ cQ) (LW cI h a (kX3_judge f x1) ++ X) (va_A (LW cI h a f ++ X) sz)) 0 0 (va_A (LW cI h a f ++ X) sz) := by
  refine m_wr (cc := cX3_judge) (maxL := 2) (ret := none) (by decide) rfl (Nat.le_of_ble_eq_true rfl) (lv0 := [(0, .ref h), (1, .int x1)]) rfl ?_
  intro p e s m below meth c ls A hAe S hr hlk hP hK hD hS hA hl
  rw [← hAe]
  have S : CallFix p m c cX3_judge 2 s ([.ref h, .int x1] : List Value).toArray wsX3_judge RX3 := S
  have hx := S.1
  have hb := S.2.1
  have hown : s.vm.findClass RX3 = some m.cls := S.2.2.2.1
  have hts := S.2.2.2.2
  have hinX3 : ∀ w ∈ wsX30, w ∈ wsX3_judge := by decide +kernel
  refine lv_aload_n hx hb dX3_judge_0 rfl (lv_at hl 0 rfl) ?_
  refine lv_iload_n hx hb dX3_judge_1 rfl (lv_at hl 1 rfl) ?_
  refine k_rd (As := [.int x1]) (rest := []) (bytes := cX3_hasTrouble) (C := RX3) S (okX3_hasTrouble l D cI cZ cQ h a X f x1 (by assumption)) gX3_judge_X3_hasTrouble rfl ⟨rfl, rfl⟩ ndX3_hasTrouble ⟨Nat.le_of_ble_eq_true rfl, Nat.le_of_ble_eq_true rfl⟩ hK hP 0 rfl rfl rfl hl rfl (Nat.le_of_ble_eq_true rfl) dX3_judge_2 ⟨Nat.zero_le _, Nat.zero_le _⟩ ?_
  refine lv_if_eq (tgt := 18) hx hb dX3_judge_5 (by decide) (fun c_5 => ?_) (fun c_5 => ?_)
  · have c_5 : (kX3_hasTrouble f x1) = 0 := c_5
    refine lv_aload_n hx hb dX3_judge_18 rfl (lv_at hl 0 rfl) ?_
    refine va_get (v := .ref (a 12)) (C := RX3) (T := TX3) (N := 15) (ci := 3) hx hb hts hinX3 hown hK hP 0 rfl rfl 12 (by decide) (hts (.fieldLink RX3 39 "AxleKeeper$Line" "call" "[I") (by decide +kernel)) (fun _ h9 => h9) rfl dX3_judge_19 ?_
    refine lv_iload_n hx hb dX3_judge_22 rfl (lv_at hl 1 rfl) ?_
    refine va_iald hx hb hK hP 10 0 rfl rfl (n := 6) (by assumption) dX3_judge_23 ?_
    refine lv_iconst (v := 3) hx hb dX3_judge_24 (by decide) ?_
    refine lv_icmp_ne (tgt := 36) hx hb dX3_judge_25 (by decide) (fun c_25 => ?_) (fun c_25 => ?_)
    · have c_25 : ¬ ((f 12 (ix x1)) = 3) := c_25
      refine lv_aload_n hx hb dX3_judge_36 rfl (lv_at hl 0 rfl) ?_
      refine va_get (v := .ref (a 12)) (C := RX3) (T := TX3) (N := 15) (ci := 3) hx hb hts hinX3 hown hK hP 0 rfl rfl 12 (by decide) (hts (.fieldLink RX3 39 "AxleKeeper$Line" "call" "[I") (by decide +kernel)) (fun _ h9 => h9) rfl dX3_judge_37 ?_
      refine lv_iload_n hx hb dX3_judge_40 rfl (lv_at hl 1 rfl) ?_
      refine va_iald hx hb hK hP 10 0 rfl rfl (n := 6) (by assumption) dX3_judge_41 ?_
      refine lv_iconst (v := 2) hx hb dX3_judge_42 (by decide) ?_
      refine lv_icmp_eq (tgt := 66) hx hb dX3_judge_43 (by decide) (fun c_43 => ?_) (fun c_43 => ?_)
      · have c_43 : (f 12 (ix x1)) = 2 := c_43
        have hρ : kX3_judge f x1 = f := (if_pos c_5).trans ((if_neg c_25).trans ((if_pos c_43)))
        exact e_wv hx hb hr hlk hK hP hD hS dX3_judge_66 (congrArg (fun z => (LW cI h a z ++ X)) hρ).symm
      have c_43 : ¬ ((f 12 (ix x1)) = 2) := c_43
      refine lv_aload_n hx hb dX3_judge_46 rfl (lv_at hl 0 rfl) ?_
      refine va_get (v := .ref (a 12)) (C := RX3) (T := TX3) (N := 15) (ci := 3) hx hb hts hinX3 hown hK hP 0 rfl rfl 12 (by decide) (hts (.fieldLink RX3 39 "AxleKeeper$Line" "call" "[I") (by decide +kernel)) (fun _ h9 => h9) rfl dX3_judge_47 ?_
      refine lv_iload_n hx hb dX3_judge_50 rfl (lv_at hl 1 rfl) ?_
      refine lv_aload_n hx hb dX3_judge_51 rfl (lv_at hl 0 rfl) ?_
      refine va_get (v := .ref (a 11)) (C := RX3) (T := TX3) (N := 15) (ci := 3) hx hb hts hinX3 hown hK hP 0 rfl rfl 11 (by decide) (hts (.fieldLink RX3 36 "AxleKeeper$Line" "sum" "[I") (by decide +kernel)) (fun _ h9 => h9) rfl dX3_judge_52 ?_
      refine lv_iload_n hx hb dX3_judge_55 rfl (lv_at hl 1 rfl) ?_
      refine va_iald hx hb hK hP 9 0 rfl rfl (n := 6) (by assumption) dX3_judge_56 ?_
      refine lv_if_le (tgt := 64) hx hb dX3_judge_57 (by decide) (fun c_57 => ?_) (fun c_57 => ?_)
      · have c_57 : (f 11 (ix x1)) ≤ 0 := c_57
        refine lv_iconst (v := 0) hx hb dX3_judge_64 (by decide) ?_
        refine st_L12 (x := 0) hx hb hK hP hD hS (by assumption) dX3_judge_65 (fun H locs hP hD hS => ?_)
        have hρ : kX3_judge f x1 = (up2 f 12 (ix x1) 0) := (if_pos c_5).trans ((if_neg c_25).trans ((if_neg c_43).trans ((if_pos c_57))))
        exact e_wv hx hb hr hlk hK hP hD hS dX3_judge_66 (congrArg (fun z => (LW cI h a z ++ X)) hρ).symm
      have c_57 : ¬ ((f 11 (ix x1)) ≤ 0) := c_57
      refine lv_iconst (v := 1) hx hb dX3_judge_60 (by decide) ?_
      refine lv_goto (tgt := 65) hx hb dX3_judge_61 (by decide) ?_
      refine st_L12 (x := 1) hx hb hK hP hD hS (by assumption) dX3_judge_65 (fun H locs hP hD hS => ?_)
      have hρ : kX3_judge f x1 = (up2 f 12 (ix x1) 1) := (if_pos c_5).trans ((if_neg c_25).trans ((if_neg c_43).trans ((if_neg c_57))))
      exact e_wv hx hb hr hlk hK hP hD hS dX3_judge_66 (congrArg (fun z => (LW cI h a z ++ X)) hρ).symm
    have c_25 : (f 12 (ix x1)) = 3 := c_25
    refine lv_aload_n hx hb dX3_judge_28 rfl (lv_at hl 0 rfl) ?_
    refine lv_iload_n hx hb dX3_judge_29 rfl (lv_at hl 1 rfl) ?_
    refine k_wv (As := [.int x1]) (rest := []) (bytes := cX3_judgeSweep) (C := RX3) S (okX3_judgeSweep l D cI cZ cQ h a X f x1 _ (by assumption)) gX3_judge_X3_judgeSweep rfl ⟨rfl, rfl⟩ ndX3_judgeSweep ⟨Nat.le_of_ble_eq_true rfl, Nat.le_of_ble_eq_true rfl⟩ hK hP hD hS hA 0 rfl rfl rfl hl rfl (Nat.le_of_ble_eq_true rfl) dX3_judge_30 ⟨Nat.zero_le _, Nat.zero_le _⟩ (fun H locs hP hD hS => ?_)
    have hP : va_P D vwCl (LW cI h a (kX3_judgeSweep f x1) ++ X) H := hP
    have hD : va_D A (LW cI h a (kX3_judgeSweep f x1) ++ X) := hD
    refine lv_goto (tgt := 66) hx hb dX3_judge_33 (by decide) ?_
    have hρ : kX3_judge f x1 = (kX3_judgeSweep f x1) := (if_pos c_5).trans ((if_pos c_25))
    exact e_wv hx hb hr hlk hK hP hD hS dX3_judge_66 (congrArg (fun z => (LW cI h a z ++ X)) hρ).symm
  have c_5 : ¬ ((kX3_hasTrouble f x1) = 0) := c_5
  refine lv_aload_n hx hb dX3_judge_8 rfl (lv_at hl 0 rfl) ?_
  refine va_get (v := .ref (a 12)) (C := RX3) (T := TX3) (N := 15) (ci := 3) hx hb hts hinX3 hown hK hP 0 rfl rfl 12 (by decide) (hts (.fieldLink RX3 39 "AxleKeeper$Line" "call" "[I") (by decide +kernel)) (fun _ h9 => h9) rfl dX3_judge_9 ?_
  refine lv_iload_n hx hb dX3_judge_12 rfl (lv_at hl 1 rfl) ?_
  refine lv_iconst (v := 2) hx hb dX3_judge_13 (by decide) ?_
  refine st_L12 (x := 2) hx hb hK hP hD hS (by assumption) dX3_judge_14 (fun H locs hP hD hS => ?_)
  refine lv_goto (tgt := 66) hx hb dX3_judge_15 (by decide) ?_
  have hρ : kX3_judge f x1 = (up2 f 12 (ix x1) 2) := (if_neg c_5)
  exact e_wv hx hb hr hlk hK hP hD hS dX3_judge_66 (congrArg (fun z => (LW cI h a z ++ X)) hρ).symm
theorem ndX3_heal : yX3_heal.cls = RX3 ∧ yX3_heal.cls ≠ "java/lang/invoke/MethodHandle" ∧ yX3_heal.cls ≠ "java/lang/invoke/VarHandle" ∧ (parseMethodDescriptor yX3_heal.desc).map (fun d => d.parameters.length) = some 3 := by decide +kernel
set_option maxHeartbeats 4000000 in
set_option maxRecDepth 100000 in
theorem okX3_heal (l : Launch) (D : va_G) (cI cZ cQ : ClassId) (h : Nat) (a : Nat → Nat) (X : va_W) (f : Nat → Nat → Int32) (x1 x2 x3 : Int32) (sz : Nat) (h1 : vp_in x1 7) (h2 : vp_in x2 6) (h3 : vp_in x3 6) : Met l yX3_heal wsX3_heal ({ frames := 0, cells := 0, slots := 0, locals := 0 }) (PW [.ref h, .int x1, .int x2, .int x3] sz D (TY cI cZ cQ) (LW cI h a f ++ X)) (QV D (TY cI cZ cQ) (LW cI h a (kX3_heal f x1 x2 x3) ++ X) (va_A (LW cI h a f ++ X) sz)) 0 0 (va_A (LW cI h a f ++ X) sz) := by
  refine m_wr (cc := cX3_heal) (maxL := 4) (ret := none) (by decide) rfl (Nat.le_of_ble_eq_true rfl) (lv0 := [(0, .ref h), (1, .int x1), (2, .int x2), (3, .int x3)]) rfl ?_
  intro p e s m below meth c ls A hAe S hr hlk hP hK hD hS hA hl
  rw [← hAe]
  have S : CallFix p m c cX3_heal 4 s ([.ref h, .int x1, .int x2, .int x3] : List Value).toArray wsX3_heal RX3 := S
  have hx := S.1
  have hb := S.2.1
  have hown : s.vm.findClass RX3 = some m.cls := S.2.2.2.1
  have hts := S.2.2.2.2
  have hinX3 : ∀ w ∈ wsX30, w ∈ wsX3_heal := by decide +kernel
  refine lv_aload_n hx hb dX3_heal_0 rfl (lv_at hl 0 rfl) ?_
  refine va_get (v := .ref (a 11)) (C := RX3) (T := TX3) (N := 15) (ci := 3) hx hb hts hinX3 hown hK hP 0 rfl rfl 11 (by decide) (hts (.fieldLink RX3 36 "AxleKeeper$Line" "sum" "[I") (by decide +kernel)) (fun _ h9 => h9) rfl dX3_heal_1 ?_
  refine lv_iload_n hx hb dX3_heal_4 rfl (lv_at hl 2 rfl) ?_
  refine lv_iconst (v := 0) hx hb dX3_heal_5 (by decide) ?_
  refine st_L11 (x := 0) hx hb hK hP hD hS (by assumption) dX3_heal_6 (fun H locs hP hD hS => ?_)
  refine lv_aload_n hx hb dX3_heal_7 rfl (lv_at hl 0 rfl) ?_
  refine va_get (v := .ref (a 11)) (C := RX3) (T := TX3) (N := 15) (ci := 3) hx hb hts hinX3 hown hK hP 0 rfl rfl 11 (by decide) (hts (.fieldLink RX3 36 "AxleKeeper$Line" "sum" "[I") (by decide +kernel)) (fun _ h9 => h9) rfl dX3_heal_8 ?_
  refine lv_iload_n hx hb dX3_heal_11 rfl (lv_at hl 3 rfl) ?_
  refine lv_iconst (v := 0) hx hb dX3_heal_12 (by decide) ?_
  refine st_L11 (x := 0) hx hb hK hP hD hS (by assumption) dX3_heal_13 (fun H locs hP hD hS => ?_)
  refine lv_aload_n hx hb dX3_heal_14 rfl (lv_at hl 0 rfl) ?_
  refine va_get (v := .ref (a 12)) (C := RX3) (T := TX3) (N := 15) (ci := 3) hx hb hts hinX3 hown hK hP 0 rfl rfl 12 (by decide) (hts (.fieldLink RX3 39 "AxleKeeper$Line" "call" "[I") (by decide +kernel)) (fun _ h9 => h9) rfl dX3_heal_15 ?_
  refine lv_iload_n hx hb dX3_heal_18 rfl (lv_at hl 2 rfl) ?_
  refine lv_iconst (v := 0) hx hb dX3_heal_19 (by decide) ?_
  refine st_L12 (x := 0) hx hb hK hP hD hS (by assumption) dX3_heal_20 (fun H locs hP hD hS => ?_)
  refine lv_aload_n hx hb dX3_heal_21 rfl (lv_at hl 0 rfl) ?_
  refine va_get (v := .ref (a 12)) (C := RX3) (T := TX3) (N := 15) (ci := 3) hx hb hts hinX3 hown hK hP 0 rfl rfl 12 (by decide) (hts (.fieldLink RX3 39 "AxleKeeper$Line" "call" "[I") (by decide +kernel)) (fun _ h9 => h9) rfl dX3_heal_22 ?_
  refine lv_iload_n hx hb dX3_heal_25 rfl (lv_at hl 3 rfl) ?_
  refine lv_iconst (v := 0) hx hb dX3_heal_26 (by decide) ?_
  refine st_L12 (x := 0) hx hb hK hP hD hS (by assumption) dX3_heal_27 (fun H locs hP hD hS => ?_)
  refine lv_aload_n hx hb dX3_heal_28 rfl (lv_at hl 0 rfl) ?_
  refine va_get (v := .ref (a 10)) (C := RX3) (T := TX3) (N := 15) (ci := 3) hx hb hts hinX3 hown hK hP 0 rfl rfl 10 (by decide) (hts (.fieldLink RX3 33 "AxleKeeper$Line" "sweptOver" "[I") (by decide +kernel)) (fun _ h9 => h9) rfl dX3_heal_29 ?_
  refine lv_iload_n hx hb dX3_heal_32 rfl (lv_at hl 1 rfl) ?_
  refine lv_iconst (v := 0) hx hb dX3_heal_33 (by decide) ?_
  refine st_L10 (x := 0) hx hb hK hP hD hS (by assumption) dX3_heal_34 (fun H locs hP hD hS => ?_)
  have hρ : kX3_heal f x1 x2 x3 = (up2 (up2 (up2 (up2 (up2 f 11 (ix x2) 0) 11 (ix x3) 0) 12 (ix x2) 0) 12 (ix x3) 0) 10 (ix x1) 0) := rfl
  exact e_wv hx hb hr hlk hK hP hD hS dX3_heal_35 (congrArg (fun z => (LW cI h a z ++ X)) hρ).symm
theorem ndX3_judgeJoint : yX3_judgeJoint.cls = RX3 ∧ yX3_judgeJoint.cls ≠ "java/lang/invoke/MethodHandle" ∧ yX3_judgeJoint.cls ≠ "java/lang/invoke/VarHandle" ∧ (parseMethodDescriptor yX3_judgeJoint.desc).map (fun d => d.parameters.length) = some 3 := by decide +kernel
set_option maxHeartbeats 4000000 in
set_option maxRecDepth 100000 in
theorem okX3_judgeJoint (l : Launch) (D : va_G) (cI cZ cQ : ClassId) (h : Nat) (a : Nat → Nat) (X : va_W) (f : Nat → Nat → Int32) (x1 x2 x3 : Int32) (sz : Nat) (hok : okL f) (h1 : vp_in x1 7) (h2 : vp_in x2 6) (h3 : vp_in x3 6) : Met l yX3_judgeJoint wsX3_judgeJoint ({ frames := 3, cells := 0, slots := 0, locals := 67 }) (PW [.ref h, .int x1, .int x2, .int x3] sz D (TY cI cZ cQ) (LW cI h a f ++ X)) (QV D (TY cI cZ cQ) (LW cI h a (kX3_judgeJoint f x1 x2 x3) ++ X) (va_A (LW cI h a f ++ X) sz)) 0 0 (va_A (LW cI h a f ++ X) sz) := by
  refine m_wr (cc := cX3_judgeJoint) (maxL := 4) (ret := none) (by decide) rfl (Nat.le_of_ble_eq_true rfl) (lv0 := [(0, .ref h), (1, .int x1), (2, .int x2), (3, .int x3)]) rfl ?_
  intro p e s m below meth c ls A hAe S hr hlk hP hK hD hS hA hl
  rw [← hAe]
  have S : CallFix p m c cX3_judgeJoint 4 s ([.ref h, .int x1, .int x2, .int x3] : List Value).toArray wsX3_judgeJoint RX3 := S
  have hx := S.1
  have hb := S.2.1
  have hown : s.vm.findClass RX3 = some m.cls := S.2.2.2.1
  have hts := S.2.2.2.2
  have hinX3 : ∀ w ∈ wsX30, w ∈ wsX3_judgeJoint := by decide +kernel
  refine lv_aload_n hx hb dX3_judgeJoint_0 rfl (lv_at hl 0 rfl) ?_
  refine va_get (v := .ref (a 12)) (C := RX3) (T := TX3) (N := 15) (ci := 3) hx hb hts hinX3 hown hK hP 0 rfl rfl 12 (by decide) (hts (.fieldLink RX3 39 "AxleKeeper$Line" "call" "[I") (by decide +kernel)) (fun _ h9 => h9) rfl dX3_judgeJoint_1 ?_
  refine lv_iload_n hx hb dX3_judgeJoint_4 rfl (lv_at hl 2 rfl) ?_
  refine va_iald hx hb hK hP 10 0 rfl rfl (n := 6) (by assumption) dX3_judgeJoint_5 ?_
  refine lv_iconst (v := 2) hx hb dX3_judgeJoint_6 (by decide) ?_
  refine lv_icmp_eq (tgt := 30) hx hb dX3_judgeJoint_7 (by decide) (fun c_7 => ?_) (fun c_7 => ?_)
  · have c_7 : (f 12 (ix x2)) = 2 := c_7
    refine lv_aload_n hx hb dX3_judgeJoint_30 rfl (lv_at hl 0 rfl) ?_
    refine lv_iload_n hx hb dX3_judgeJoint_31 rfl (lv_at hl 1 rfl) ?_
    refine k_rd (As := [.int x1]) (rest := []) (bytes := cX3_joint) (C := RX3) S (okX3_joint l D cI cZ cQ h a X f x1 (by assumption)) gX3_judgeJoint_X3_joint rfl ⟨rfl, rfl⟩ ndX3_joint ⟨Nat.le_of_ble_eq_true rfl, Nat.le_of_ble_eq_true rfl⟩ hK hP 0 rfl rfl rfl hl rfl (Nat.le_of_ble_eq_true rfl) dX3_judgeJoint_32 ⟨Nat.zero_le _, Nat.zero_le _⟩ ?_
    refine lv_if_le (tgt := 48) hx hb dX3_judgeJoint_35 (by decide) (fun c_35 => ?_) (fun c_35 => ?_)
    · have c_35 : (kX3_joint f x1) ≤ 0 := c_35
      refine lv_aload_n hx hb dX3_judgeJoint_48 rfl (lv_at hl 0 rfl) ?_
      refine lv_iload_n hx hb dX3_judgeJoint_49 rfl (lv_at hl 1 rfl) ?_
      refine lv_iload_n hx hb dX3_judgeJoint_50 rfl (lv_at hl 2 rfl) ?_
      refine lv_iload_n hx hb dX3_judgeJoint_51 rfl (lv_at hl 3 rfl) ?_
      refine k_rd (As := [.int x1, .int x2, .int x3]) (rest := []) (bytes := cX3_canHeal) (C := RX3) S (okX3_canHeal l D cI cZ cQ h a X f x1 x2 x3 (by assumption) (by assumption) (by assumption) (by assumption)) gX3_judgeJoint_X3_canHeal rfl ⟨rfl, rfl⟩ ndX3_canHeal ⟨Nat.le_of_ble_eq_true rfl, Nat.le_of_ble_eq_true rfl⟩ hK hP 0 rfl rfl rfl hl rfl (Nat.le_of_ble_eq_true rfl) dX3_judgeJoint_52 ⟨Nat.zero_le _, Nat.zero_le _⟩ ?_
      refine lv_if_eq (tgt := 65) hx hb dX3_judgeJoint_55 (by decide) (fun c_55 => ?_) (fun c_55 => ?_)
      · have c_55 : (kX3_canHeal f x1 x2 x3) = 0 := c_55
        have hρ : kX3_judgeJoint f x1 x2 x3 = f := (if_pos c_7).trans ((if_pos c_35).trans ((if_pos c_55)))
        exact e_wv hx hb hr hlk hK hP hD hS dX3_judgeJoint_65 (congrArg (fun z => (LW cI h a z ++ X)) hρ).symm
      have c_55 : ¬ ((kX3_canHeal f x1 x2 x3) = 0) := c_55
      refine lv_aload_n hx hb dX3_judgeJoint_58 rfl (lv_at hl 0 rfl) ?_
      refine lv_iload_n hx hb dX3_judgeJoint_59 rfl (lv_at hl 1 rfl) ?_
      refine lv_iload_n hx hb dX3_judgeJoint_60 rfl (lv_at hl 2 rfl) ?_
      refine lv_iload_n hx hb dX3_judgeJoint_61 rfl (lv_at hl 3 rfl) ?_
      refine k_wv (As := [.int x1, .int x2, .int x3]) (rest := []) (bytes := cX3_heal) (C := RX3) S (okX3_heal l D cI cZ cQ h a X f x1 x2 x3 _ (by assumption) (by assumption) (by assumption)) gX3_judgeJoint_X3_heal rfl ⟨rfl, rfl⟩ ndX3_heal ⟨Nat.le_of_ble_eq_true rfl, Nat.le_of_ble_eq_true rfl⟩ hK hP hD hS hA 0 rfl rfl rfl hl rfl (Nat.le_of_ble_eq_true rfl) dX3_judgeJoint_62 ⟨Nat.zero_le _, Nat.zero_le _⟩ (fun H locs hP hD hS => ?_)
      have hP : va_P D vwCl (LW cI h a (kX3_heal f x1 x2 x3) ++ X) H := hP
      have hD : va_D A (LW cI h a (kX3_heal f x1 x2 x3) ++ X) := hD
      have hρ : kX3_judgeJoint f x1 x2 x3 = (kX3_heal f x1 x2 x3) := (if_pos c_7).trans ((if_pos c_35).trans ((if_neg c_55)))
      exact e_wv hx hb hr hlk hK hP hD hS dX3_judgeJoint_65 (congrArg (fun z => (LW cI h a z ++ X)) hρ).symm
    have c_35 : ¬ ((kX3_joint f x1) ≤ 0) := c_35
    refine lv_aload_n hx hb dX3_judgeJoint_38 rfl (lv_at hl 0 rfl) ?_
    refine va_get (v := .ref (a 10)) (C := RX3) (T := TX3) (N := 15) (ci := 3) hx hb hts hinX3 hown hK hP 0 rfl rfl 10 (by decide) (hts (.fieldLink RX3 33 "AxleKeeper$Line" "sweptOver" "[I") (by decide +kernel)) (fun _ h9 => h9) rfl dX3_judgeJoint_39 ?_
    refine lv_iload_n hx hb dX3_judgeJoint_42 rfl (lv_at hl 1 rfl) ?_
    refine lv_iconst (v := 1) hx hb dX3_judgeJoint_43 (by decide) ?_
    refine st_L10 (x := 1) hx hb hK hP hD hS (by assumption) dX3_judgeJoint_44 (fun H locs hP hD hS => ?_)
    refine lv_goto (tgt := 65) hx hb dX3_judgeJoint_45 (by decide) ?_
    have hρ : kX3_judgeJoint f x1 x2 x3 = (up2 f 10 (ix x1) 1) := (if_pos c_7).trans ((if_neg c_35))
    exact e_wv hx hb hr hlk hK hP hD hS dX3_judgeJoint_65 (congrArg (fun z => (LW cI h a z ++ X)) hρ).symm
  have c_7 : ¬ ((f 12 (ix x2)) = 2) := c_7
  refine lv_aload_n hx hb dX3_judgeJoint_10 rfl (lv_at hl 0 rfl) ?_
  refine va_get (v := .ref (a 12)) (C := RX3) (T := TX3) (N := 15) (ci := 3) hx hb hts hinX3 hown hK hP 0 rfl rfl 12 (by decide) (hts (.fieldLink RX3 39 "AxleKeeper$Line" "call" "[I") (by decide +kernel)) (fun _ h9 => h9) rfl dX3_judgeJoint_11 ?_
  refine lv_iload_n hx hb dX3_judgeJoint_14 rfl (lv_at hl 3 rfl) ?_
  refine va_iald hx hb hK hP 10 0 rfl rfl (n := 6) (by assumption) dX3_judgeJoint_15 ?_
  refine lv_iconst (v := 2) hx hb dX3_judgeJoint_16 (by decide) ?_
  refine lv_icmp_eq (tgt := 30) hx hb dX3_judgeJoint_17 (by decide) (fun c_17 => ?_) (fun c_17 => ?_)
  · have c_17 : (f 12 (ix x3)) = 2 := c_17
    refine lv_aload_n hx hb dX3_judgeJoint_30 rfl (lv_at hl 0 rfl) ?_
    refine lv_iload_n hx hb dX3_judgeJoint_31 rfl (lv_at hl 1 rfl) ?_
    refine k_rd (As := [.int x1]) (rest := []) (bytes := cX3_joint) (C := RX3) S (okX3_joint l D cI cZ cQ h a X f x1 (by assumption)) gX3_judgeJoint_X3_joint rfl ⟨rfl, rfl⟩ ndX3_joint ⟨Nat.le_of_ble_eq_true rfl, Nat.le_of_ble_eq_true rfl⟩ hK hP 0 rfl rfl rfl hl rfl (Nat.le_of_ble_eq_true rfl) dX3_judgeJoint_32 ⟨Nat.zero_le _, Nat.zero_le _⟩ ?_
    refine lv_if_le (tgt := 48) hx hb dX3_judgeJoint_35 (by decide) (fun c_35 => ?_) (fun c_35 => ?_)
    · have c_35 : (kX3_joint f x1) ≤ 0 := c_35
      refine lv_aload_n hx hb dX3_judgeJoint_48 rfl (lv_at hl 0 rfl) ?_
      refine lv_iload_n hx hb dX3_judgeJoint_49 rfl (lv_at hl 1 rfl) ?_
      refine lv_iload_n hx hb dX3_judgeJoint_50 rfl (lv_at hl 2 rfl) ?_
      refine lv_iload_n hx hb dX3_judgeJoint_51 rfl (lv_at hl 3 rfl) ?_
      refine k_rd (As := [.int x1, .int x2, .int x3]) (rest := []) (bytes := cX3_canHeal) (C := RX3) S (okX3_canHeal l D cI cZ cQ h a X f x1 x2 x3 (by assumption) (by assumption) (by assumption) (by assumption)) gX3_judgeJoint_X3_canHeal rfl ⟨rfl, rfl⟩ ndX3_canHeal ⟨Nat.le_of_ble_eq_true rfl, Nat.le_of_ble_eq_true rfl⟩ hK hP 0 rfl rfl rfl hl rfl (Nat.le_of_ble_eq_true rfl) dX3_judgeJoint_52 ⟨Nat.zero_le _, Nat.zero_le _⟩ ?_
      refine lv_if_eq (tgt := 65) hx hb dX3_judgeJoint_55 (by decide) (fun c_55 => ?_) (fun c_55 => ?_)
      · have c_55 : (kX3_canHeal f x1 x2 x3) = 0 := c_55
        have hρ : kX3_judgeJoint f x1 x2 x3 = f := (if_neg c_7).trans ((if_pos c_17).trans ((if_pos c_35).trans ((if_pos c_55))))
        exact e_wv hx hb hr hlk hK hP hD hS dX3_judgeJoint_65 (congrArg (fun z => (LW cI h a z ++ X)) hρ).symm
      have c_55 : ¬ ((kX3_canHeal f x1 x2 x3) = 0) := c_55
      refine lv_aload_n hx hb dX3_judgeJoint_58 rfl (lv_at hl 0 rfl) ?_
      refine lv_iload_n hx hb dX3_judgeJoint_59 rfl (lv_at hl 1 rfl) ?_
      refine lv_iload_n hx hb dX3_judgeJoint_60 rfl (lv_at hl 2 rfl) ?_
      refine lv_iload_n hx hb dX3_judgeJoint_61 rfl (lv_at hl 3 rfl) ?_
      refine k_wv (As := [.int x1, .int x2, .int x3]) (rest := []) (bytes := cX3_heal) (C := RX3) S (okX3_heal l D cI cZ cQ h a X f x1 x2 x3 _ (by assumption) (by assumption) (by assumption)) gX3_judgeJoint_X3_heal rfl ⟨rfl, rfl⟩ ndX3_heal ⟨Nat.le_of_ble_eq_true rfl, Nat.le_of_ble_eq_true rfl⟩ hK hP hD hS hA 0 rfl rfl rfl hl rfl (Nat.le_of_ble_eq_true rfl) dX3_judgeJoint_62 ⟨Nat.zero_le _, Nat.zero_le _⟩ (fun H locs hP hD hS => ?_)
      have hP : va_P D vwCl (LW cI h a (kX3_heal f x1 x2 x3) ++ X) H := hP
      have hD : va_D A (LW cI h a (kX3_heal f x1 x2 x3) ++ X) := hD
      have hρ : kX3_judgeJoint f x1 x2 x3 = (kX3_heal f x1 x2 x3) := (if_neg c_7).trans ((if_pos c_17).trans ((if_pos c_35).trans ((if_neg c_55))))
      exact e_wv hx hb hr hlk hK hP hD hS dX3_judgeJoint_65 (congrArg (fun z => (LW cI h a z ++ X)) hρ).symm
    have c_35 : ¬ ((kX3_joint f x1) ≤ 0) := c_35
    refine lv_aload_n hx hb dX3_judgeJoint_38 rfl (lv_at hl 0 rfl) ?_
    refine va_get (v := .ref (a 10)) (C := RX3) (T := TX3) (N := 15) (ci := 3) hx hb hts hinX3 hown hK hP 0 rfl rfl 10 (by decide) (hts (.fieldLink RX3 33 "AxleKeeper$Line" "sweptOver" "[I") (by decide +kernel)) (fun _ h9 => h9) rfl dX3_judgeJoint_39 ?_
    refine lv_iload_n hx hb dX3_judgeJoint_42 rfl (lv_at hl 1 rfl) ?_
    refine lv_iconst (v := 1) hx hb dX3_judgeJoint_43 (by decide) ?_
    refine st_L10 (x := 1) hx hb hK hP hD hS (by assumption) dX3_judgeJoint_44 (fun H locs hP hD hS => ?_)
    refine lv_goto (tgt := 65) hx hb dX3_judgeJoint_45 (by decide) ?_
    have hρ : kX3_judgeJoint f x1 x2 x3 = (up2 f 10 (ix x1) 1) := (if_neg c_7).trans ((if_pos c_17).trans ((if_neg c_35)))
    exact e_wv hx hb hr hlk hK hP hD hS dX3_judgeJoint_65 (congrArg (fun z => (LW cI h a z ++ X)) hρ).symm
  have c_17 : ¬ ((f 12 (ix x3)) = 2) := c_17
  refine lv_aload_n hx hb dX3_judgeJoint_20 rfl (lv_at hl 0 rfl) ?_
  refine va_get (v := .ref (a 10)) (C := RX3) (T := TX3) (N := 15) (ci := 3) hx hb hts hinX3 hown hK hP 0 rfl rfl 10 (by decide) (hts (.fieldLink RX3 33 "AxleKeeper$Line" "sweptOver" "[I") (by decide +kernel)) (fun _ h9 => h9) rfl dX3_judgeJoint_21 ?_
  refine lv_iload_n hx hb dX3_judgeJoint_24 rfl (lv_at hl 1 rfl) ?_
  refine lv_iconst (v := 0) hx hb dX3_judgeJoint_25 (by decide) ?_
  refine st_L10 (x := 0) hx hb hK hP hD hS (by assumption) dX3_judgeJoint_26 (fun H locs hP hD hS => ?_)
  refine lv_goto (tgt := 65) hx hb dX3_judgeJoint_27 (by decide) ?_
  have hρ : kX3_judgeJoint f x1 x2 x3 = (up2 f 10 (ix x1) 0) := (if_neg c_7).trans ((if_neg c_17))
  exact e_wv hx hb hr hlk hK hP hD hS dX3_judgeJoint_65 (congrArg (fun z => (LW cI h a z ++ X)) hρ).symm
theorem ndX3_awaitSweep : yX3_awaitSweep.cls = RX3 ∧ yX3_awaitSweep.cls ≠ "java/lang/invoke/MethodHandle" ∧ yX3_awaitSweep.cls ≠ "java/lang/invoke/VarHandle" ∧ (parseMethodDescriptor yX3_awaitSweep.desc).map (fun d => d.parameters.length) = some 1 := by decide +kernel
set_option maxHeartbeats 4000000 in
set_option maxRecDepth 100000 in
theorem okX3_awaitSweep (l : Launch) (D : va_G) (cI cZ cQ : ClassId) (h : Nat) (a : Nat → Nat) (X : va_W) (f : Nat → Nat → Int32) (x1 : Int32) (sz : Nat) (h1 : vp_in x1 6) : Met l yX3_awaitSweep wsX3_awaitSweep ({ frames := 0, cells := 0, slots := 0, locals := 0 }) (PW [.ref h, .int x1] sz D (TY cI cZ cQ) (LW cI h a f ++ X)) (QV D (TY cI cZ cQ) (LW cI h a (kX3_awaitSweep f x1) ++ X) (va_A (LW cI h a f ++ X) sz)) 0 0 (va_A (LW cI h a f ++ X) sz) := by
  refine m_wr (cc := cX3_awaitSweep) (maxL := 2) (ret := none) (by decide) rfl (Nat.le_of_ble_eq_true rfl) (lv0 := [(0, .ref h), (1, .int x1)]) rfl ?_
  intro p e s m below meth c ls A hAe S hr hlk hP hK hD hS hA hl
  rw [← hAe]
  have S : CallFix p m c cX3_awaitSweep 2 s ([.ref h, .int x1] : List Value).toArray wsX3_awaitSweep RX3 := S
  have hx := S.1
  have hb := S.2.1
  have hown : s.vm.findClass RX3 = some m.cls := S.2.2.2.1
  have hts := S.2.2.2.2
  have hinX3 : ∀ w ∈ wsX30, w ∈ wsX3_awaitSweep := by decide +kernel
  refine lv_aload_n hx hb dX3_awaitSweep_0 rfl (lv_at hl 0 rfl) ?_
  refine va_get (v := .ref (a 11)) (C := RX3) (T := TX3) (N := 15) (ci := 3) hx hb hts hinX3 hown hK hP 0 rfl rfl 11 (by decide) (hts (.fieldLink RX3 36 "AxleKeeper$Line" "sum" "[I") (by decide +kernel)) (fun _ h9 => h9) rfl dX3_awaitSweep_1 ?_
  refine lv_iload_n hx hb dX3_awaitSweep_4 rfl (lv_at hl 1 rfl) ?_
  refine lv_iconst (v := 0) hx hb dX3_awaitSweep_5 (by decide) ?_
  refine st_L11 (x := 0) hx hb hK hP hD hS (by assumption) dX3_awaitSweep_6 (fun H locs hP hD hS => ?_)
  refine lv_aload_n hx hb dX3_awaitSweep_7 rfl (lv_at hl 0 rfl) ?_
  refine va_get (v := .ref (a 12)) (C := RX3) (T := TX3) (N := 15) (ci := 3) hx hb hts hinX3 hown hK hP 0 rfl rfl 12 (by decide) (hts (.fieldLink RX3 39 "AxleKeeper$Line" "call" "[I") (by decide +kernel)) (fun _ h9 => h9) rfl dX3_awaitSweep_8 ?_
  refine lv_iload_n hx hb dX3_awaitSweep_11 rfl (lv_at hl 1 rfl) ?_
  refine lv_iconst (v := 3) hx hb dX3_awaitSweep_12 (by decide) ?_
  refine st_L12 (x := 3) hx hb hK hP hD hS (by assumption) dX3_awaitSweep_13 (fun H locs hP hD hS => ?_)
  refine lv_aload_n hx hb dX3_awaitSweep_14 rfl (lv_at hl 0 rfl) ?_
  refine va_get (v := .ref (a 13)) (C := RX3) (T := TX3) (N := 15) (ci := 3) hx hb hts hinX3 hown hK hP 0 rfl rfl 13 (by decide) (hts (.fieldLink RX3 42 "AxleKeeper$Line" "entered" "[I") (by decide +kernel)) (fun _ h9 => h9) rfl dX3_awaitSweep_15 ?_
  refine lv_iload_n hx hb dX3_awaitSweep_18 rfl (lv_at hl 1 rfl) ?_
  refine lv_iconst (v := 0) hx hb dX3_awaitSweep_19 (by decide) ?_
  refine st_L13 (x := 0) hx hb hK hP hD hS (by assumption) dX3_awaitSweep_20 (fun H locs hP hD hS => ?_)
  have hρ : kX3_awaitSweep f x1 = (up2 (up2 (up2 f 11 (ix x1) 0) 12 (ix x1) 3) 13 (ix x1) 0) := rfl
  exact e_wv hx hb hr hlk hK hP hD hS dX3_awaitSweep_21 (congrArg (fun z => (LW cI h a z ++ X)) hρ).symm
theorem ndX3_pass : yX3_pass.cls = RX3 ∧ yX3_pass.cls ≠ "java/lang/invoke/MethodHandle" ∧ yX3_pass.cls ≠ "java/lang/invoke/VarHandle" ∧ (parseMethodDescriptor yX3_pass.desc).map (fun d => d.parameters.length) = some 1 := by decide +kernel
set_option maxHeartbeats 4000000 in
set_option maxRecDepth 100000 in
theorem lpX3_pass_28 {p : Program} {e : Env} {s : State} {m : MethodId} {below : List Frame} {meth : Method} {c : Code} (l : Launch) (D : va_G) (cI cZ cQ : ClassId) (h : Nat) (a : Nat → Nat) (X : va_W) (x1 : Int32) (A : Nat → Prop) (hA : ∀ q, s.heap.size ≤ q → A q) (S : CallFix p m c cX3_pass 3 s ([.ref h, .int x1] : List Value).toArray wsX3_pass RX3) (hr : meth.sig.returnType = none) (hlk : meth.locks = false) (hK : va_K D vwCl (TY cI cZ cQ) s)  : ∀ (n i : Nat) (f : Nat → Nat → Int32) (H : Heap) (locs : List Loc), i ≤ 7 → 7 - i < n → (hok : okL f) → va_P D vwCl (LW cI h a f ++ X) H → va_D A (LW cI h a f ++ X) → va_S A s.heap H locs → ∀ {ls : Array Slot}, lv_has ls 3 [(0, .ref h), (1, .int x1), (2, .int (nI i))] → ∀ ρ : (Nat → Nat → Int32), ρ = kX3_pass_28 x1 n i f → W p l e { frames := 4, cells := 0, slots := 0, locals := 90 } s m ([.ref h, .int x1] : List Value).toArray below meth c H locs 0 0 (MQ below (QV D (TY cI cZ cQ) (LW cI h a ρ ++ X) A) ([.ref h, .int x1] : List Value).toArray s 0 0 A) (F0 m 28 ls []) := by
  have hx := S.1
  have hb := S.2.1
  have hown : s.vm.findClass RX3 = some m.cls := S.2.2.2.1
  have hts := S.2.2.2.2
  have hinX3 : ∀ w ∈ wsX30, w ∈ wsX3_pass := by decide +kernel
  intro n
  induction n with
  | zero =>
    intro i _ _ _ hi hn
    exact absurd hn (Nat.not_lt_zero _)
  | succ n ih =>
    intro i  f H locs hi hn hok hP hD hS ls hl ρ hρ0
    refine lv_iload_n hx hb dX3_pass_28 rfl (lv_at hl 2 rfl) ?_
    refine lv_aload_n hx hb dX3_pass_29 rfl (lv_at hl 0 rfl) ?_
    refine k_rd (As := []) (rest := [.int (nI i)]) (bytes := cX3_heads) (C := RX3) S (okX3_heads l D cI cZ cQ h a X f ) gX3_pass_X3_heads rfl ⟨rfl, rfl⟩ ndX3_heads ⟨Nat.le_of_ble_eq_true rfl, Nat.le_of_ble_eq_true rfl⟩ hK hP 0 rfl rfl rfl hl rfl (Nat.le_of_ble_eq_true rfl) dX3_pass_30 ⟨Nat.zero_le _, Nat.zero_le _⟩ ?_
    refine lv_icmp_ge (tgt := 65) hx hb dX3_pass_33 (by decide) (fun c_33 => ?_) (fun c_33 => ?_)
    · have c_33 : (kX3_heads f) ≤ (nI i) := c_33
      refine lv_aload_n hx hb dX3_pass_65 rfl (lv_at hl 0 rfl) ?_
      refine va_get (v := .int (f 2 0)) (C := RX3) (T := TX3) (N := 15) (ci := 3) hx hb hts hinX3 hown hK hP 0 rfl rfl 2 (by decide) (hts (.fieldLink RX3 56 "AxleKeeper$Line" "ticks" "I") (by decide +kernel)) (fun _ h9 => h9) rfl dX3_pass_66 ?_
      refine lv_sipush (v := 9999) hx hb dX3_pass_69 (by decide) ?_
      refine lv_icmp_ge (tgt := 85) hx hb dX3_pass_72 (by decide) (fun c_72 => ?_) (fun c_72 => ?_)
      · have c_72 : 9999 ≤ (f 2 0) := c_72
        have hρ : kX3_pass_28 x1 (n + 1) i f = f := (if_pos c_33).trans ((if_pos c_72))
        have hρ := hρ0.trans hρ
        exact e_wv hx hb hr hlk hK hP hD hS dX3_pass_85 (congrArg (fun z => (LW cI h a z ++ X)) hρ).symm
      have c_72 : ¬ (9999 ≤ (f 2 0)) := c_72
      refine lv_aload_n hx hb dX3_pass_75 rfl (lv_at hl 0 rfl) ?_
      refine lv_dup hx hb dX3_pass_76 rfl ?_
      refine va_get (v := .int (f 2 0)) (C := RX3) (T := TX3) (N := 15) (ci := 3) hx hb hts hinX3 hown hK hP 0 rfl rfl 2 (by decide) (hts (.fieldLink RX3 56 "AxleKeeper$Line" "ticks" "I") (by decide +kernel)) (fun _ h9 => h9) rfl dX3_pass_77 ?_
      refine lv_iconst (v := 1) hx hb dX3_pass_80 (by decide) ?_
      refine lv_iadd hx hb dX3_pass_81 ?_
      refine pf_L2 (x := ((f 2 0) + 1)) S hinX3 hK hP hD hS (hts (.fieldLink RX3 56 "AxleKeeper$Line" "ticks" "I") (by decide +kernel)) dX3_pass_82 (fun H locs hP hD hS => ?_)
      have hρ : kX3_pass_28 x1 (n + 1) i f = (up2 f 2 0 ((f 2 0) + 1)) := (if_pos c_33).trans ((if_neg c_72))
      have hρ := hρ0.trans hρ
      exact e_wv hx hb hr hlk hK hP hD hS dX3_pass_85 (congrArg (fun z => (LW cI h a z ++ X)) hρ).symm
    have c_33 : ¬ ((kX3_heads f) ≤ (nI i)) := c_33
    have hlt : i < 7 := il_lt (heads_le hok) (by decide) hi c_33
    have hvi : vp_in (nI i) 7 := vp_in_nI hlt (by decide)
    refine lv_aload_n hx hb dX3_pass_36 rfl (lv_at hl 0 rfl) ?_
    refine lv_iload_n hx hb dX3_pass_37 rfl (lv_at hl 2 rfl) ?_
    refine k_rd (As := [.int (nI i)]) (rest := []) (bytes := cX3_joins) (C := RX3) S (okX3_joins l D cI cZ cQ h a X f (nI i)) gX3_pass_X3_joins rfl ⟨rfl, rfl⟩ ndX3_joins ⟨Nat.le_of_ble_eq_true rfl, Nat.le_of_ble_eq_true rfl⟩ hK hP 0 rfl rfl rfl hl rfl (Nat.le_of_ble_eq_true rfl) dX3_pass_38 ⟨Nat.zero_le _, Nat.zero_le _⟩ ?_
    refine lv_if_eq (tgt := 59) hx hb dX3_pass_41 (by decide) (fun c_41 => ?_) (fun c_41 => ?_)
    · have c_41 : (kX3_joins f (nI i)) = 0 := c_41
      refine lv_iinc (v := (nI (i + 1))) (lv' := [(2, .int (nI (i + 1))), (0, .ref h), (1, .int x1)]) hx hb dX3_pass_59 hl (k := 2) rfl (nI_1 i) (by decide) rfl (fun ls hl => ?_)
      refine lv_goto (tgt := 28) hx hb dX3_pass_62 (by decide) ?_
      have hρ : kX3_pass_28 x1 (n + 1) i f = kX3_pass_28 x1 n (i + 1) f := (if_neg c_33).trans ((if_pos c_41))
      have hρ := hρ0.trans hρ
      exact ih  (i + 1)  f _ _ (by omega) (by omega) (by first | exact hok | exact ok_judgeJoint hok) hP hD hS (lv_sub hl [1, 2, 0] rfl) _ hρ
    have c_41 : ¬ ((kX3_joins f (nI i)) = 0) := c_41
    have hv2 : vp_in (kX3_leftOf f (nI i)) 6 := (joins_in hok c_41).1
    have hv3 : vp_in (kX3_rightOf f (nI i)) 6 := (joins_in hok c_41).2
    refine lv_aload_n hx hb dX3_pass_44 rfl (lv_at hl 0 rfl) ?_
    refine lv_iload_n hx hb dX3_pass_45 rfl (lv_at hl 2 rfl) ?_
    refine lv_aload_n hx hb dX3_pass_46 rfl (lv_at hl 0 rfl) ?_
    refine lv_iload_n hx hb dX3_pass_47 rfl (lv_at hl 2 rfl) ?_
    refine k_rd (As := [.int (nI i)]) (rest := [.int (nI i), .ref h]) (bytes := cX3_leftOf) (C := RX3) S (okX3_leftOf l D cI cZ cQ h a X f (nI i)) gX3_pass_X3_leftOf rfl ⟨rfl, rfl⟩ ndX3_leftOf ⟨Nat.le_of_ble_eq_true rfl, Nat.le_of_ble_eq_true rfl⟩ hK hP 0 rfl rfl rfl hl rfl (Nat.le_of_ble_eq_true rfl) dX3_pass_48 ⟨Nat.zero_le _, Nat.zero_le _⟩ ?_
    refine lv_aload_n hx hb dX3_pass_51 rfl (lv_at hl 0 rfl) ?_
    refine lv_iload_n hx hb dX3_pass_52 rfl (lv_at hl 2 rfl) ?_
    refine k_rd (As := [.int (nI i)]) (rest := [.int (kX3_leftOf f (nI i)), .int (nI i), .ref h]) (bytes := cX3_rightOf) (C := RX3) S (okX3_rightOf l D cI cZ cQ h a X f (nI i)) gX3_pass_X3_rightOf rfl ⟨rfl, rfl⟩ ndX3_rightOf ⟨Nat.le_of_ble_eq_true rfl, Nat.le_of_ble_eq_true rfl⟩ hK hP 0 rfl rfl rfl hl rfl (Nat.le_of_ble_eq_true rfl) dX3_pass_53 ⟨Nat.zero_le _, Nat.zero_le _⟩ ?_
    refine k_wv (As := [.int (nI i), .int (kX3_leftOf f (nI i)), .int (kX3_rightOf f (nI i))]) (rest := []) (bytes := cX3_judgeJoint) (C := RX3) S (okX3_judgeJoint l D cI cZ cQ h a X f (nI i) (kX3_leftOf f (nI i)) (kX3_rightOf f (nI i)) _ (by assumption) (by assumption) (by assumption) (by assumption)) gX3_pass_X3_judgeJoint rfl ⟨rfl, rfl⟩ ndX3_judgeJoint ⟨Nat.le_of_ble_eq_true rfl, Nat.le_of_ble_eq_true rfl⟩ hK hP hD hS hA 0 rfl rfl rfl hl rfl (Nat.le_of_ble_eq_true rfl) dX3_pass_56 ⟨Nat.zero_le _, Nat.zero_le _⟩ (fun H locs hP hD hS => ?_)
    have hP : va_P D vwCl (LW cI h a (kX3_judgeJoint f (nI i) (kX3_leftOf f (nI i)) (kX3_rightOf f (nI i))) ++ X) H := hP
    have hD : va_D A (LW cI h a (kX3_judgeJoint f (nI i) (kX3_leftOf f (nI i)) (kX3_rightOf f (nI i))) ++ X) := hD
    refine lv_iinc (v := (nI (i + 1))) (lv' := [(2, .int (nI (i + 1))), (0, .ref h), (1, .int x1)]) hx hb dX3_pass_59 hl (k := 2) rfl (nI_1 i) (by decide) rfl (fun ls hl => ?_)
    refine lv_goto (tgt := 28) hx hb dX3_pass_62 (by decide) ?_
    have hρ : kX3_pass_28 x1 (n + 1) i f = kX3_pass_28 x1 n (i + 1) (kX3_judgeJoint f (nI i) (kX3_leftOf f (nI i)) (kX3_rightOf f (nI i))) := (if_neg c_33).trans ((if_neg c_41))
    have hρ := hρ0.trans hρ
    exact ih  (i + 1)  (kX3_judgeJoint f (nI i) (kX3_leftOf f (nI i)) (kX3_rightOf f (nI i))) _ _ (by omega) (by omega) (by first | exact hok | exact ok_judgeJoint hok) hP hD hS (lv_sub hl [1, 2, 0] rfl) _ hρ
set_option maxHeartbeats 4000000 in
set_option maxRecDepth 100000 in
theorem lpX3_pass_7 {p : Program} {e : Env} {s : State} {m : MethodId} {below : List Frame} {meth : Method} {c : Code} (l : Launch) (D : va_G) (cI cZ cQ : ClassId) (h : Nat) (a : Nat → Nat) (X : va_W) (x1 : Int32) (A : Nat → Prop) (hA : ∀ q, s.heap.size ≤ q → A q) (S : CallFix p m c cX3_pass 3 s ([.ref h, .int x1] : List Value).toArray wsX3_pass RX3) (hr : meth.sig.returnType = none) (hlk : meth.locks = false) (hK : va_K D vwCl (TY cI cZ cQ) s)  : ∀ (n i : Nat) (f : Nat → Nat → Int32) (H : Heap) (locs : List Loc), i ≤ 6 → 6 - i < n → (hok : okL f) → va_P D vwCl (LW cI h a f ++ X) H → va_D A (LW cI h a f ++ X) → va_S A s.heap H locs → ∀ {ls : Array Slot}, lv_has ls 3 [(0, .ref h), (1, .int x1), (2, .int (nI i))] → ∀ ρ : (Nat → Nat → Int32), ρ = kX3_pass_7 x1 n i f → W p l e { frames := 4, cells := 0, slots := 0, locals := 90 } s m ([.ref h, .int x1] : List Value).toArray below meth c H locs 0 0 (MQ below (QV D (TY cI cZ cQ) (LW cI h a ρ ++ X) A) ([.ref h, .int x1] : List Value).toArray s 0 0 A) (F0 m 7 ls []) := by
  have hx := S.1
  have hb := S.2.1
  have hown : s.vm.findClass RX3 = some m.cls := S.2.2.2.1
  have hts := S.2.2.2.2
  have hinX3 : ∀ w ∈ wsX30, w ∈ wsX3_pass := by decide +kernel
  intro n
  induction n with
  | zero =>
    intro i _ _ _ hi hn
    exact absurd hn (Nat.not_lt_zero _)
  | succ n ih =>
    intro i  f H locs hi hn hok hP hD hS ls hl ρ hρ0
    refine lv_iload_n hx hb dX3_pass_7 rfl (lv_at hl 2 rfl) ?_
    refine lv_aload_n hx hb dX3_pass_8 rfl (lv_at hl 0 rfl) ?_
    refine va_get (v := .int (f 0 0)) (C := RX3) (T := TX3) (N := 15) (ci := 3) hx hb hts hinX3 hown hK hP 0 rfl rfl 0 (by decide) (hts (.fieldLink RX3 48 "AxleKeeper$Line" "sections" "I") (by decide +kernel)) (fun _ h9 => h9) rfl dX3_pass_9 ?_
    refine lv_icmp_ge (tgt := 26) hx hb dX3_pass_12 (by decide) (fun c_12 => ?_) (fun c_12 => ?_)
    · have c_12 : (f 0 0) ≤ (nI i) := c_12
      refine lv_iconst (v := 0) hx hb dX3_pass_26 (by decide) ?_
      refine lv_istore_n (lv' := [(2, .int 0), (0, .ref h), (1, .int x1)]) hx hb dX3_pass_27 rfl hl (by decide) rfl (fun ls hl => ?_)
      have hρ : kX3_pass_7 x1 (n + 1) i f = kX3_pass_28 x1 8 0 f := (if_pos c_12)
      have hρ := hρ0.trans hρ
      exact lpX3_pass_28 l D cI cZ cQ h a X x1 A hA S hr hlk hK   8 0  f _ _ (by omega) (by omega) hok hP hD hS (lv_sub hl [1, 2, 0] rfl) _ hρ
    have c_12 : ¬ ((f 0 0) ≤ (nI i)) := c_12
    have hlt : i < 6 := il_lt hok.2 (by decide) hi c_12
    have hvi : vp_in (nI i) 6 := vp_in_nI hlt (by decide)
    refine lv_aload_n hx hb dX3_pass_15 rfl (lv_at hl 0 rfl) ?_
    refine lv_iload_n hx hb dX3_pass_16 rfl (lv_at hl 2 rfl) ?_
    refine k_wv (As := [.int (nI i)]) (rest := []) (bytes := cX3_judge) (C := RX3) S (okX3_judge l D cI cZ cQ h a X f (nI i) _ (by assumption)) gX3_pass_X3_judge rfl ⟨rfl, rfl⟩ ndX3_judge ⟨Nat.le_of_ble_eq_true rfl, Nat.le_of_ble_eq_true rfl⟩ hK hP hD hS hA 0 rfl rfl rfl hl rfl (Nat.le_of_ble_eq_true rfl) dX3_pass_17 ⟨Nat.zero_le _, Nat.zero_le _⟩ (fun H locs hP hD hS => ?_)
    have hP : va_P D vwCl (LW cI h a (kX3_judge f (nI i)) ++ X) H := hP
    have hD : va_D A (LW cI h a (kX3_judge f (nI i)) ++ X) := hD
    refine lv_iinc (v := (nI (i + 1))) (lv' := [(2, .int (nI (i + 1))), (0, .ref h), (1, .int x1)]) hx hb dX3_pass_20 hl (k := 2) rfl (nI_1 i) (by decide) rfl (fun ls hl => ?_)
    refine lv_goto (tgt := 7) hx hb dX3_pass_23 (by decide) ?_
    have hρ : kX3_pass_7 x1 (n + 1) i f = kX3_pass_7 x1 n (i + 1) (kX3_judge f (nI i)) := (if_neg c_12)
    have hρ := hρ0.trans hρ
    exact ih  (i + 1)  (kX3_judge f (nI i)) _ _ (by omega) (by omega) (ok_judge hok) hP hD hS (lv_sub hl [1, 2, 0] rfl) _ hρ
set_option maxHeartbeats 4000000 in
set_option maxRecDepth 100000 in
theorem okX3_pass (l : Launch) (D : va_G) (cI cZ cQ : ClassId) (h : Nat) (a : Nat → Nat) (X : va_W) (f : Nat → Nat → Int32) (x1 : Int32) (sz : Nat) (hok : okL f) : Met l yX3_pass wsX3_pass ({ frames := 4, cells := 0, slots := 0, locals := 90 }) (PW [.ref h, .int x1] sz D (TY cI cZ cQ) (LW cI h a f ++ X)) (QV D (TY cI cZ cQ) (LW cI h a (kX3_pass f x1) ++ X) (va_A (LW cI h a f ++ X) sz)) 0 0 (va_A (LW cI h a f ++ X) sz) := by
  refine m_wr (cc := cX3_pass) (maxL := 3) (ret := none) (by decide) rfl (Nat.le_of_ble_eq_true rfl) (lv0 := [(0, .ref h), (1, .int x1)]) rfl ?_
  intro p e s m below meth c ls A hAe S hr hlk hP hK hD hS hA hl
  rw [← hAe]
  have S : CallFix p m c cX3_pass 3 s ([.ref h, .int x1] : List Value).toArray wsX3_pass RX3 := S
  have hx := S.1
  have hb := S.2.1
  have hown : s.vm.findClass RX3 = some m.cls := S.2.2.2.1
  have hts := S.2.2.2.2
  have hinX3 : ∀ w ∈ wsX30, w ∈ wsX3_pass := by decide +kernel
  refine lv_aload_n hx hb dX3_pass_0 rfl (lv_at hl 0 rfl) ?_
  refine lv_iload_n hx hb dX3_pass_1 rfl (lv_at hl 1 rfl) ?_
  refine k_wv (As := [.int x1]) (rest := []) (bytes := cX3_hear) (C := RX3) S (okX3_hear l D cI cZ cQ h a X f x1 _ (by assumption)) gX3_pass_X3_hear rfl ⟨rfl, rfl⟩ ndX3_hear ⟨Nat.le_of_ble_eq_true rfl, Nat.le_of_ble_eq_true rfl⟩ hK hP hD hS hA 0 rfl rfl rfl hl rfl (Nat.le_of_ble_eq_true rfl) dX3_pass_2 ⟨Nat.zero_le _, Nat.zero_le _⟩ (fun H locs hP hD hS => ?_)
  have hP : va_P D vwCl (LW cI h a (kX3_hear f x1) ++ X) H := hP
  have hD : va_D A (LW cI h a (kX3_hear f x1) ++ X) := hD
  refine lv_iconst (v := 0) hx hb dX3_pass_5 (by decide) ?_
  refine lv_istore_n (lv' := [(2, .int 0), (0, .ref h), (1, .int x1)]) hx hb dX3_pass_6 rfl hl (by decide) rfl (fun ls hl => ?_)
  have hρ : kX3_pass f x1 = kX3_pass_7 x1 7 0 (kX3_hear f x1) := rfl
  exact lpX3_pass_7 l D cI cZ cQ h a X x1 A hA S hr hlk hK   7 0  (kX3_hear f x1) _ _ (by omega) (by omega) (ok_hear hok) hP hD hS (lv_sub hl [1, 2, 0] rfl) _ hρ
