theorem ndX6_goOver : yX6_goOver.cls = RX6 ∧ yX6_goOver.cls ≠ "java/lang/invoke/MethodHandle" ∧ yX6_goOver.cls ≠ "java/lang/invoke/VarHandle" ∧ (parseMethodDescriptor yX6_goOver.desc).map (fun d => d.parameters.length) = some 4 := by decide +kernel
set_option maxHeartbeats 4000000 in
set_option maxRecDepth 100000 in
theorem okX6_goOver (l : Launch) (D : va_G) (cI cZ cQ : ClassId) (h : Nat) (a : Nat → Nat) (X : va_W) (f : Nat → Nat → Int32) (x1 x2 x3 x4 : Int32) (sz : Nat) (hok : okM f) (h1 : vp_in x1 7) : Met l yX6_goOver wsX6_goOver ({ frames := 1, cells := 0, slots := 0, locals := 21 }) (PW [.ref h, .int x1, .int x2, .int x3, .int x4] sz D (TY cI cZ cQ) (MW cI h a f ++ X)) (QI (kX6_goOver f x1 x2 x3 x4).1 D (TY cI cZ cQ) (MW cI h a (kX6_goOver f x1 x2 x3 x4).2 ++ X) (va_A (MW cI h a f ++ X) sz)) 0 0 (va_A (MW cI h a f ++ X) sz) := by
  refine m_wr (cc := cX6_goOver) (maxL := 7) (ret := (some .int)) (by decide) rfl (Nat.le_of_ble_eq_true rfl) (lv0 := [(0, .ref h), (1, .int x1), (2, .int x2), (3, .int x3), (4, .int x4)]) rfl ?_
  intro p e s m below meth c ls A hAe S hr hlk hP hK hD hS hA hl
  rw [← hAe]
  have S : CallFix p m c cX6_goOver 7 s ([.ref h, .int x1, .int x2, .int x3, .int x4] : List Value).toArray wsX6_goOver RX6 := S
  have hx := S.1
  have hb := S.2.1
  have hown : s.vm.findClass RX6 = some m.cls := S.2.2.2.1
  have hts := S.2.2.2.2
  have hinX6 : ∀ w ∈ wsX60, w ∈ wsX6_goOver := by decide +kernel
  refine lv_iload_n hx hb dX6_goOver_0 rfl (lv_at hl 2 rfl) ?_
  refine lv_if_ne (tgt := 12) hx hb dX6_goOver_1 (by decide) (fun c_1 => ?_) (fun c_1 => ?_)
  · have c_1 : ¬ (x2 = 0) := c_1
    refine lv_aload_n hx hb dX6_goOver_12 rfl (lv_at hl 0 rfl) ?_
    refine lv_iload_n hx hb dX6_goOver_13 rfl (lv_at hl 1 rfl) ?_
    refine k_rd (As := [.int x1]) (rest := []) (bytes := cX6_rightOf) (C := RX6) S (okX6_rightOf l D cI cZ cQ h a X f x1) gX6_goOver_X6_rightOf rfl ⟨rfl, rfl⟩ ndX6_rightOf ⟨Nat.le_of_ble_eq_true rfl, Nat.le_of_ble_eq_true rfl⟩ hK hP 0 rfl rfl rfl hl rfl (Nat.le_of_ble_eq_true rfl) dX6_goOver_14 ⟨Nat.zero_le _, Nat.zero_le _⟩ ?_
    refine lv_istore (lv' := [(5, .int (kX6_rightOf f x1)), (0, .ref h), (1, .int x1), (2, .int x2), (3, .int x3), (4, .int x4)]) hx hb dX6_goOver_17 hl (by decide) rfl (fun ls hl => ?_)
    refine lv_iload_n hx hb dX6_goOver_19 rfl (lv_at hl 3 rfl) ?_
    refine lv_if_ne (tgt := 31) hx hb dX6_goOver_20 (by decide) (fun c_20 => ?_) (fun c_20 => absurd c_20 c_1)
    refine lv_aload_n hx hb dX6_goOver_31 rfl (lv_at hl 1 rfl) ?_
    refine lv_iload_n hx hb dX6_goOver_32 rfl (lv_at hl 2 rfl) ?_
    refine k_rd (As := [.int x1]) (rest := []) (bytes := cX6_leftOf) (C := RX6) S (okX6_leftOf l D cI cZ cQ h a X f x1) gX6_goOver_X6_leftOf rfl ⟨rfl, rfl⟩ ndX6_leftOf ⟨Nat.le_of_ble_eq_true rfl, Nat.le_of_ble_eq_true rfl⟩ hK hP 0 rfl rfl rfl hl rfl (Nat.le_of_ble_eq_true rfl) dX6_goOver_33 ⟨Nat.zero_le _, Nat.zero_le _⟩ ?_
    refine lv_istore (lv' := [(6, .int (kX6_leftOf f x1)), (5, .int (kX6_rightOf f x1)), (0, .ref h), (1, .int x1), (2, .int x2), (3, .int x3), (4, .int x4)]) hx hb dX6_goOver_36 hl (by decide) rfl (fun ls hl => ?_)
    refine lv_iload hx hb dX6_goOver_38 (lv_at hl 1 rfl) ?_
    refine lv_iconst (v := (-1)) hx hb dX6_goOver_40 (by decide) ?_
    refine lv_icmp_eq (tgt := 58) hx hb dX6_goOver_41 (by decide) (fun c_41 => ?_) (fun c_41 => ?_)
    · have c_41 : (kX6_rightOf f x1) = (-1) := c_41
      refine lv_iload hx hb dX6_goOver_58 (lv_at hl 0 rfl) ?_
      refine lv_iconst (v := (-1)) hx hb dX6_goOver_60 (by decide) ?_
      refine lv_icmp_eq (tgt := 78) hx hb dX6_goOver_61 (by decide) (fun c_61 => ?_) (fun c_61 => ?_)
      · have c_61 : (kX6_leftOf f x1) = (-1) := c_61
        refine lv_iload hx hb dX6_goOver_78 (lv_at hl 6 rfl) ?_
        refine lv_if_eq (tgt := 105) hx hb dX6_goOver_80 (by decide) (fun c_80 => ?_) (fun c_80 => ?_)
        · have c_80 : x4 = 0 := c_80
          refine lv_iload hx hb dX6_goOver_105 (lv_at hl 0 rfl) ?_
          refine lv_iconst (v := (-1)) hx hb dX6_goOver_107 (by decide) ?_
          refine lv_icmp_ne (tgt := 115) hx hb dX6_goOver_108 (by decide) (fun c_108 => absurd c_61 c_108) (fun c_108 => ?_)
          refine lv_iconst (v := 0) hx hb dX6_goOver_111 (by decide) ?_
          refine lv_goto (tgt := 125) hx hb dX6_goOver_112 (by decide) ?_
          have hρ : kX6_goOver f x1 x2 x3 x4 = (0, f) := (if_neg c_1).trans ((if_pos c_41).trans ((if_pos c_61).trans ((if_pos c_80))))
          exact e_wi hx hb hr hlk hK hP hD hS dX6_goOver_125 (congrArg Prod.fst hρ).symm (congrArg (fun z => (MW cI h a z.2 ++ X)) hρ).symm
        have c_80 : ¬ (x4 = 0) := c_80
        refine lv_aload_n hx hb dX6_goOver_83 rfl (lv_at hl 2 rfl) ?_
        refine va_get (v := .ref (a 0)) (C := RX6) (T := TX6) (N := 6) (ci := 6) hx hb hts hinX6 hown hK hP 0 rfl rfl 0 (by decide) (hts (.fieldLink RX6 7 "AxleKeeperModel" "w" "[I") (by decide +kernel)) (fun _ h9 => h9) rfl dX6_goOver_84 ?_
        refine lv_bipush (v := 41) hx hb dX6_goOver_87 (by decide) ?_
        refine lv_iload_n hx hb dX6_goOver_89 rfl (lv_at hl 3 rfl) ?_
        refine lv_iadd hx hb dX6_goOver_90 ?_
        refine lv_dup2_11 hx hb dX6_goOver_91 rfl rfl ?_
        refine va_iald hx hb hK hP 1 0 rfl rfl (n := 1680) (vin2 (by assumption) (by decide)) dX6_goOver_92 ?_
        refine lv_iload_n hx hb dX6_goOver_93 rfl (lv_at hl 4 rfl) ?_
        refine lv_if_ne (tgt := 101) hx hb dX6_goOver_94 (by decide) (fun c_94 => ?_) (fun c_94 => absurd c_94 c_1)
        refine lv_iload_n hx hb dX6_goOver_101 rfl (lv_at hl 5 rfl) ?_
        refine lv_ineg hx hb dX6_goOver_102 ?_
        refine lv_iadd hx hb dX6_goOver_103 ?_
        refine st_M0 (x := ((f 0 (ix (41 + x1))) + (-x3))) hx hb hK hP hD hS (vin2 (by assumption) (by decide)) dX6_goOver_104 (fun H locs hP hD hS => ?_)
        refine lv_iload hx hb dX6_goOver_105 (lv_at hl 0 rfl) ?_
        refine lv_iconst (v := (-1)) hx hb dX6_goOver_107 (by decide) ?_
        refine lv_icmp_ne (tgt := 115) hx hb dX6_goOver_108 (by decide) (fun c_108 => absurd c_61 c_108) (fun c_108 => ?_)
        refine lv_iconst (v := 0) hx hb dX6_goOver_111 (by decide) ?_
        refine lv_goto (tgt := 125) hx hb dX6_goOver_112 (by decide) ?_
        have hρ : kX6_goOver f x1 x2 x3 x4 = (0, (up2 f 0 (ix (41 + x1)) ((f 0 (ix (41 + x1))) + (-x3)))) := (if_neg c_1).trans ((if_pos c_41).trans ((if_pos c_61).trans ((if_neg c_80))))
        exact e_wi hx hb hr hlk hK hP hD hS dX6_goOver_125 (congrArg Prod.fst hρ).symm (congrArg (fun z => (MW cI h a z.2 ++ X)) hρ).symm
      have c_61 : ¬ ((kX6_leftOf f x1) = (-1)) := c_61
      have hv2 : vp_in _ 6 := (by first | exact ml_in hok h1 c_61 | exact mr_in hok h1 c_61)
      refine lv_aload_n hx hb dX6_goOver_64 rfl (lv_at hl 2 rfl) ?_
      refine va_get (v := .ref (a 0)) (C := RX6) (T := TX6) (N := 6) (ci := 6) hx hb hts hinX6 hown hK hP 0 rfl rfl 0 (by decide) (hts (.fieldLink RX6 7 "AxleKeeperModel" "w" "[I") (by decide +kernel)) (fun _ h9 => h9) rfl dX6_goOver_65 ?_
      refine lv_bipush (v := 15) hx hb dX6_goOver_68 (by decide) ?_
      refine lv_iload hx hb dX6_goOver_70 (lv_at hl 0 rfl) ?_
      refine lv_iadd hx hb dX6_goOver_72 ?_
      refine lv_dup2_11 hx hb dX6_goOver_73 rfl rfl ?_
      refine va_iald hx hb hK hP 1 0 rfl rfl (n := 1680) (vin2 (by assumption) (by decide)) dX6_goOver_74 ?_
      refine lv_iload_n hx hb dX6_goOver_75 rfl (lv_at hl 5 rfl) ?_
      refine lv_iadd hx hb dX6_goOver_76 ?_
      refine st_M0 (x := ((f 0 (ix (15 + (kX6_leftOf f x1)))) + x3)) hx hb hK hP hD hS (vin2 (by assumption) (by decide)) dX6_goOver_77 (fun H locs hP hD hS => ?_)
      refine lv_iload hx hb dX6_goOver_78 (lv_at hl 6 rfl) ?_
      refine lv_if_eq (tgt := 105) hx hb dX6_goOver_80 (by decide) (fun c_80 => ?_) (fun c_80 => ?_)
      · have c_80 : x4 = 0 := c_80
        refine lv_iload hx hb dX6_goOver_105 (lv_at hl 0 rfl) ?_
        refine lv_iconst (v := (-1)) hx hb dX6_goOver_107 (by decide) ?_
        refine lv_icmp_ne (tgt := 115) hx hb dX6_goOver_108 (by decide) (fun c_108 => ?_) (fun c_108 => absurd c_108 c_61)
        refine lv_aload_n hx hb dX6_goOver_115 rfl (lv_at hl 2 rfl) ?_
        refine va_get (v := .ref (a 0)) (C := RX6) (T := TX6) (N := 6) (ci := 6) hx hb hts hinX6 hown hK hP 0 rfl rfl 0 (by decide) (hts (.fieldLink RX6 7 "AxleKeeperModel" "w" "[I") (by decide +kernel)) (fun _ h9 => h9) rfl dX6_goOver_116 ?_
        refine lv_bipush (v := 15) hx hb dX6_goOver_119 (by decide) ?_
        refine lv_iload hx hb dX6_goOver_121 (lv_at hl 0 rfl) ?_
        refine lv_iadd hx hb dX6_goOver_123 ?_
        refine va_iald hx hb hK hP 1 0 rfl rfl (n := 1680) (vin2 (by assumption) (by decide)) dX6_goOver_124 ?_
        have hρ : kX6_goOver f x1 x2 x3 x4 = (((up2 f 0 (ix (15 + (kX6_leftOf f x1))) ((f 0 (ix (15 + (kX6_leftOf f x1)))) + x3)) 0 (ix (15 + (kX6_leftOf f x1)))), (up2 f 0 (ix (15 + (kX6_leftOf f x1))) ((f 0 (ix (15 + (kX6_leftOf f x1)))) + x3))) := (if_neg c_1).trans ((if_pos c_41).trans ((if_neg c_61).trans ((if_pos c_80))))
        exact e_wi hx hb hr hlk hK hP hD hS dX6_goOver_125 (congrArg Prod.fst hρ).symm (congrArg (fun z => (MW cI h a z.2 ++ X)) hρ).symm
      have c_80 : ¬ (x4 = 0) := c_80
      refine lv_aload_n hx hb dX6_goOver_83 rfl (lv_at hl 2 rfl) ?_
      refine va_get (v := .ref (a 0)) (C := RX6) (T := TX6) (N := 6) (ci := 6) hx hb hts hinX6 hown hK hP 0 rfl rfl 0 (by decide) (hts (.fieldLink RX6 7 "AxleKeeperModel" "w" "[I") (by decide +kernel)) (fun _ h9 => h9) rfl dX6_goOver_84 ?_
      refine lv_bipush (v := 41) hx hb dX6_goOver_87 (by decide) ?_
      refine lv_iload_n hx hb dX6_goOver_89 rfl (lv_at hl 3 rfl) ?_
      refine lv_iadd hx hb dX6_goOver_90 ?_
      refine lv_dup2_11 hx hb dX6_goOver_91 rfl rfl ?_
      refine va_iald hx hb hK hP 1 0 rfl rfl (n := 1680) (vin2 (by assumption) (by decide)) dX6_goOver_92 ?_
      refine lv_iload_n hx hb dX6_goOver_93 rfl (lv_at hl 4 rfl) ?_
      refine lv_if_ne (tgt := 101) hx hb dX6_goOver_94 (by decide) (fun c_94 => ?_) (fun c_94 => absurd c_94 c_1)
      refine lv_iload_n hx hb dX6_goOver_101 rfl (lv_at hl 5 rfl) ?_
      refine lv_ineg hx hb dX6_goOver_102 ?_
      refine lv_iadd hx hb dX6_goOver_103 ?_
      refine st_M0 (x := (((up2 f 0 (ix (15 + (kX6_leftOf f x1))) ((f 0 (ix (15 + (kX6_leftOf f x1)))) + x3)) 0 (ix (41 + x1))) + (-x3))) hx hb hK hP hD hS (vin2 (by assumption) (by decide)) dX6_goOver_104 (fun H locs hP hD hS => ?_)
      refine lv_iload hx hb dX6_goOver_105 (lv_at hl 0 rfl) ?_
      refine lv_iconst (v := (-1)) hx hb dX6_goOver_107 (by decide) ?_
      refine lv_icmp_ne (tgt := 115) hx hb dX6_goOver_108 (by decide) (fun c_108 => ?_) (fun c_108 => absurd c_108 c_61)
      refine lv_aload_n hx hb dX6_goOver_115 rfl (lv_at hl 2 rfl) ?_
      refine va_get (v := .ref (a 0)) (C := RX6) (T := TX6) (N := 6) (ci := 6) hx hb hts hinX6 hown hK hP 0 rfl rfl 0 (by decide) (hts (.fieldLink RX6 7 "AxleKeeperModel" "w" "[I") (by decide +kernel)) (fun _ h9 => h9) rfl dX6_goOver_116 ?_
      refine lv_bipush (v := 15) hx hb dX6_goOver_119 (by decide) ?_
      refine lv_iload hx hb dX6_goOver_121 (lv_at hl 0 rfl) ?_
      refine lv_iadd hx hb dX6_goOver_123 ?_
      refine va_iald hx hb hK hP 1 0 rfl rfl (n := 1680) (vin2 (by assumption) (by decide)) dX6_goOver_124 ?_
      have hρ : kX6_goOver f x1 x2 x3 x4 = (((up2 (up2 f 0 (ix (15 + (kX6_leftOf f x1))) ((f 0 (ix (15 + (kX6_leftOf f x1)))) + x3)) 0 (ix (41 + x1)) (((up2 f 0 (ix (15 + (kX6_leftOf f x1))) ((f 0 (ix (15 + (kX6_leftOf f x1)))) + x3)) 0 (ix (41 + x1))) + (-x3))) 0 (ix (15 + (kX6_leftOf f x1)))), (up2 (up2 f 0 (ix (15 + (kX6_leftOf f x1))) ((f 0 (ix (15 + (kX6_leftOf f x1)))) + x3)) 0 (ix (41 + x1)) (((up2 f 0 (ix (15 + (kX6_leftOf f x1))) ((f 0 (ix (15 + (kX6_leftOf f x1)))) + x3)) 0 (ix (41 + x1))) + (-x3)))) := (if_neg c_1).trans ((if_pos c_41).trans ((if_neg c_61).trans ((if_neg c_80))))
      exact e_wi hx hb hr hlk hK hP hD hS dX6_goOver_125 (congrArg Prod.fst hρ).symm (congrArg (fun z => (MW cI h a z.2 ++ X)) hρ).symm
    have c_41 : ¬ ((kX6_rightOf f x1) = (-1)) := c_41
    have hv1 : vp_in _ 6 := (by first | exact ml_in hok h1 c_41 | exact mr_in hok h1 c_41)
    refine lv_aload_n hx hb dX6_goOver_44 rfl (lv_at hl 2 rfl) ?_
    refine va_get (v := .ref (a 0)) (C := RX6) (T := TX6) (N := 6) (ci := 6) hx hb hts hinX6 hown hK hP 0 rfl rfl 0 (by decide) (hts (.fieldLink RX6 7 "AxleKeeperModel" "w" "[I") (by decide +kernel)) (fun _ h9 => h9) rfl dX6_goOver_45 ?_
    refine lv_bipush (v := 15) hx hb dX6_goOver_48 (by decide) ?_
    refine lv_iload hx hb dX6_goOver_50 (lv_at hl 1 rfl) ?_
    refine lv_iadd hx hb dX6_goOver_52 ?_
    refine lv_dup2_11 hx hb dX6_goOver_53 rfl rfl ?_
    refine va_iald hx hb hK hP 1 0 rfl rfl (n := 1680) (vin2 (by assumption) (by decide)) dX6_goOver_54 ?_
    refine lv_iload_n hx hb dX6_goOver_55 rfl (lv_at hl 5 rfl) ?_
    refine lv_isub hx hb dX6_goOver_56 ?_
    refine st_M0 (x := ((f 0 (ix (15 + (kX6_rightOf f x1)))) - x3)) hx hb hK hP hD hS (vin2 (by assumption) (by decide)) dX6_goOver_57 (fun H locs hP hD hS => ?_)
    refine lv_iload hx hb dX6_goOver_58 (lv_at hl 0 rfl) ?_
    refine lv_iconst (v := (-1)) hx hb dX6_goOver_60 (by decide) ?_
    refine lv_icmp_eq (tgt := 78) hx hb dX6_goOver_61 (by decide) (fun c_61 => ?_) (fun c_61 => ?_)
    · have c_61 : (kX6_leftOf f x1) = (-1) := c_61
      refine lv_iload hx hb dX6_goOver_78 (lv_at hl 6 rfl) ?_
      refine lv_if_eq (tgt := 105) hx hb dX6_goOver_80 (by decide) (fun c_80 => ?_) (fun c_80 => ?_)
      · have c_80 : x4 = 0 := c_80
        refine lv_iload hx hb dX6_goOver_105 (lv_at hl 0 rfl) ?_
        refine lv_iconst (v := (-1)) hx hb dX6_goOver_107 (by decide) ?_
        refine lv_icmp_ne (tgt := 115) hx hb dX6_goOver_108 (by decide) (fun c_108 => absurd c_61 c_108) (fun c_108 => ?_)
        refine lv_iconst (v := 0) hx hb dX6_goOver_111 (by decide) ?_
        refine lv_goto (tgt := 125) hx hb dX6_goOver_112 (by decide) ?_
        have hρ : kX6_goOver f x1 x2 x3 x4 = (0, (up2 f 0 (ix (15 + (kX6_rightOf f x1))) ((f 0 (ix (15 + (kX6_rightOf f x1)))) - x3))) := (if_neg c_1).trans ((if_neg c_41).trans ((if_pos c_61).trans ((if_pos c_80))))
        exact e_wi hx hb hr hlk hK hP hD hS dX6_goOver_125 (congrArg Prod.fst hρ).symm (congrArg (fun z => (MW cI h a z.2 ++ X)) hρ).symm
      have c_80 : ¬ (x4 = 0) := c_80
      refine lv_aload_n hx hb dX6_goOver_83 rfl (lv_at hl 2 rfl) ?_
      refine va_get (v := .ref (a 0)) (C := RX6) (T := TX6) (N := 6) (ci := 6) hx hb hts hinX6 hown hK hP 0 rfl rfl 0 (by decide) (hts (.fieldLink RX6 7 "AxleKeeperModel" "w" "[I") (by decide +kernel)) (fun _ h9 => h9) rfl dX6_goOver_84 ?_
      refine lv_bipush (v := 41) hx hb dX6_goOver_87 (by decide) ?_
      refine lv_iload_n hx hb dX6_goOver_89 rfl (lv_at hl 3 rfl) ?_
      refine lv_iadd hx hb dX6_goOver_90 ?_
      refine lv_dup2_11 hx hb dX6_goOver_91 rfl rfl ?_
      refine va_iald hx hb hK hP 1 0 rfl rfl (n := 1680) (vin2 (by assumption) (by decide)) dX6_goOver_92 ?_
      refine lv_iload_n hx hb dX6_goOver_93 rfl (lv_at hl 4 rfl) ?_
      refine lv_if_ne (tgt := 101) hx hb dX6_goOver_94 (by decide) (fun c_94 => ?_) (fun c_94 => absurd c_94 c_1)
      refine lv_iload_n hx hb dX6_goOver_101 rfl (lv_at hl 5 rfl) ?_
      refine lv_ineg hx hb dX6_goOver_102 ?_
      refine lv_iadd hx hb dX6_goOver_103 ?_
      refine st_M0 (x := (((up2 f 0 (ix (15 + (kX6_rightOf f x1))) ((f 0 (ix (15 + (kX6_rightOf f x1)))) - x3)) 0 (ix (41 + x1))) + (-x3))) hx hb hK hP hD hS (vin2 (by assumption) (by decide)) dX6_goOver_104 (fun H locs hP hD hS => ?_)
      refine lv_iload hx hb dX6_goOver_105 (lv_at hl 0 rfl) ?_
      refine lv_iconst (v := (-1)) hx hb dX6_goOver_107 (by decide) ?_
      refine lv_icmp_ne (tgt := 115) hx hb dX6_goOver_108 (by decide) (fun c_108 => absurd c_61 c_108) (fun c_108 => ?_)
      refine lv_iconst (v := 0) hx hb dX6_goOver_111 (by decide) ?_
      refine lv_goto (tgt := 125) hx hb dX6_goOver_112 (by decide) ?_
      have hρ : kX6_goOver f x1 x2 x3 x4 = (0, (up2 (up2 f 0 (ix (15 + (kX6_rightOf f x1))) ((f 0 (ix (15 + (kX6_rightOf f x1)))) - x3)) 0 (ix (41 + x1)) (((up2 f 0 (ix (15 + (kX6_rightOf f x1))) ((f 0 (ix (15 + (kX6_rightOf f x1)))) - x3)) 0 (ix (41 + x1))) + (-x3)))) := (if_neg c_1).trans ((if_neg c_41).trans ((if_pos c_61).trans ((if_neg c_80))))
      exact e_wi hx hb hr hlk hK hP hD hS dX6_goOver_125 (congrArg Prod.fst hρ).symm (congrArg (fun z => (MW cI h a z.2 ++ X)) hρ).symm
    have c_61 : ¬ ((kX6_leftOf f x1) = (-1)) := c_61
    have hv2 : vp_in _ 6 := (by first | exact ml_in hok h1 c_61 | exact mr_in hok h1 c_61)
    refine lv_aload_n hx hb dX6_goOver_64 rfl (lv_at hl 2 rfl) ?_
    refine va_get (v := .ref (a 0)) (C := RX6) (T := TX6) (N := 6) (ci := 6) hx hb hts hinX6 hown hK hP 0 rfl rfl 0 (by decide) (hts (.fieldLink RX6 7 "AxleKeeperModel" "w" "[I") (by decide +kernel)) (fun _ h9 => h9) rfl dX6_goOver_65 ?_
    refine lv_bipush (v := 15) hx hb dX6_goOver_68 (by decide) ?_
    refine lv_iload hx hb dX6_goOver_70 (lv_at hl 0 rfl) ?_
    refine lv_iadd hx hb dX6_goOver_72 ?_
    refine lv_dup2_11 hx hb dX6_goOver_73 rfl rfl ?_
    refine va_iald hx hb hK hP 1 0 rfl rfl (n := 1680) (vin2 (by assumption) (by decide)) dX6_goOver_74 ?_
    refine lv_iload_n hx hb dX6_goOver_75 rfl (lv_at hl 5 rfl) ?_
    refine lv_iadd hx hb dX6_goOver_76 ?_
    refine st_M0 (x := (((up2 f 0 (ix (15 + (kX6_rightOf f x1))) ((f 0 (ix (15 + (kX6_rightOf f x1)))) - x3)) 0 (ix (15 + (kX6_leftOf f x1)))) + x3)) hx hb hK hP hD hS (vin2 (by assumption) (by decide)) dX6_goOver_77 (fun H locs hP hD hS => ?_)
    refine lv_iload hx hb dX6_goOver_78 (lv_at hl 6 rfl) ?_
    refine lv_if_eq (tgt := 105) hx hb dX6_goOver_80 (by decide) (fun c_80 => ?_) (fun c_80 => ?_)
    · have c_80 : x4 = 0 := c_80
      refine lv_iload hx hb dX6_goOver_105 (lv_at hl 0 rfl) ?_
      refine lv_iconst (v := (-1)) hx hb dX6_goOver_107 (by decide) ?_
      refine lv_icmp_ne (tgt := 115) hx hb dX6_goOver_108 (by decide) (fun c_108 => ?_) (fun c_108 => absurd c_108 c_61)
      refine lv_aload_n hx hb dX6_goOver_115 rfl (lv_at hl 2 rfl) ?_
      refine va_get (v := .ref (a 0)) (C := RX6) (T := TX6) (N := 6) (ci := 6) hx hb hts hinX6 hown hK hP 0 rfl rfl 0 (by decide) (hts (.fieldLink RX6 7 "AxleKeeperModel" "w" "[I") (by decide +kernel)) (fun _ h9 => h9) rfl dX6_goOver_116 ?_
      refine lv_bipush (v := 15) hx hb dX6_goOver_119 (by decide) ?_
      refine lv_iload hx hb dX6_goOver_121 (lv_at hl 0 rfl) ?_
      refine lv_iadd hx hb dX6_goOver_123 ?_
      refine va_iald hx hb hK hP 1 0 rfl rfl (n := 1680) (vin2 (by assumption) (by decide)) dX6_goOver_124 ?_
      have hρ : kX6_goOver f x1 x2 x3 x4 = (((up2 (up2 f 0 (ix (15 + (kX6_rightOf f x1))) ((f 0 (ix (15 + (kX6_rightOf f x1)))) - x3)) 0 (ix (15 + (kX6_leftOf f x1))) (((up2 f 0 (ix (15 + (kX6_rightOf f x1))) ((f 0 (ix (15 + (kX6_rightOf f x1)))) - x3)) 0 (ix (15 + (kX6_leftOf f x1)))) + x3)) 0 (ix (15 + (kX6_leftOf f x1)))), (up2 (up2 f 0 (ix (15 + (kX6_rightOf f x1))) ((f 0 (ix (15 + (kX6_rightOf f x1)))) - x3)) 0 (ix (15 + (kX6_leftOf f x1))) (((up2 f 0 (ix (15 + (kX6_rightOf f x1))) ((f 0 (ix (15 + (kX6_rightOf f x1)))) - x3)) 0 (ix (15 + (kX6_leftOf f x1)))) + x3))) := (if_neg c_1).trans ((if_neg c_41).trans ((if_neg c_61).trans ((if_pos c_80))))
      exact e_wi hx hb hr hlk hK hP hD hS dX6_goOver_125 (congrArg Prod.fst hρ).symm (congrArg (fun z => (MW cI h a z.2 ++ X)) hρ).symm
    have c_80 : ¬ (x4 = 0) := c_80
    refine lv_aload_n hx hb dX6_goOver_83 rfl (lv_at hl 2 rfl) ?_
    refine va_get (v := .ref (a 0)) (C := RX6) (T := TX6) (N := 6) (ci := 6) hx hb hts hinX6 hown hK hP 0 rfl rfl 0 (by decide) (hts (.fieldLink RX6 7 "AxleKeeperModel" "w" "[I") (by decide +kernel)) (fun _ h9 => h9) rfl dX6_goOver_84 ?_
    refine lv_bipush (v := 41) hx hb dX6_goOver_87 (by decide) ?_
    refine lv_iload_n hx hb dX6_goOver_89 rfl (lv_at hl 3 rfl) ?_
    refine lv_iadd hx hb dX6_goOver_90 ?_
    refine lv_dup2_11 hx hb dX6_goOver_91 rfl rfl ?_
    refine va_iald hx hb hK hP 1 0 rfl rfl (n := 1680) (vin2 (by assumption) (by decide)) dX6_goOver_92 ?_
    refine lv_iload_n hx hb dX6_goOver_93 rfl (lv_at hl 4 rfl) ?_
    refine lv_if_ne (tgt := 101) hx hb dX6_goOver_94 (by decide) (fun c_94 => ?_) (fun c_94 => absurd c_94 c_1)
    refine lv_iload_n hx hb dX6_goOver_101 rfl (lv_at hl 5 rfl) ?_
    refine lv_ineg hx hb dX6_goOver_102 ?_
    refine lv_iadd hx hb dX6_goOver_103 ?_
    refine st_M0 (x := (((up2 (up2 f 0 (ix (15 + (kX6_rightOf f x1))) ((f 0 (ix (15 + (kX6_rightOf f x1)))) - x3)) 0 (ix (15 + (kX6_leftOf f x1))) (((up2 f 0 (ix (15 + (kX6_rightOf f x1))) ((f 0 (ix (15 + (kX6_rightOf f x1)))) - x3)) 0 (ix (15 + (kX6_leftOf f x1)))) + x3)) 0 (ix (41 + x1))) + (-x3))) hx hb hK hP hD hS (vin2 (by assumption) (by decide)) dX6_goOver_104 (fun H locs hP hD hS => ?_)
    refine lv_iload hx hb dX6_goOver_105 (lv_at hl 0 rfl) ?_
    refine lv_iconst (v := (-1)) hx hb dX6_goOver_107 (by decide) ?_
    refine lv_icmp_ne (tgt := 115) hx hb dX6_goOver_108 (by decide) (fun c_108 => ?_) (fun c_108 => absurd c_108 c_61)
    refine lv_aload_n hx hb dX6_goOver_115 rfl (lv_at hl 2 rfl) ?_
    refine va_get (v := .ref (a 0)) (C := RX6) (T := TX6) (N := 6) (ci := 6) hx hb hts hinX6 hown hK hP 0 rfl rfl 0 (by decide) (hts (.fieldLink RX6 7 "AxleKeeperModel" "w" "[I") (by decide +kernel)) (fun _ h9 => h9) rfl dX6_goOver_116 ?_
    refine lv_bipush (v := 15) hx hb dX6_goOver_119 (by decide) ?_
    refine lv_iload hx hb dX6_goOver_121 (lv_at hl 0 rfl) ?_
    refine lv_iadd hx hb dX6_goOver_123 ?_
    refine va_iald hx hb hK hP 1 0 rfl rfl (n := 1680) (vin2 (by assumption) (by decide)) dX6_goOver_124 ?_
    have hρ : kX6_goOver f x1 x2 x3 x4 = (((up2 (up2 (up2 f 0 (ix (15 + (kX6_rightOf f x1))) ((f 0 (ix (15 + (kX6_rightOf f x1)))) - x3)) 0 (ix (15 + (kX6_leftOf f x1))) (((up2 f 0 (ix (15 + (kX6_rightOf f x1))) ((f 0 (ix (15 + (kX6_rightOf f x1)))) - x3)) 0 (ix (15 + (kX6_leftOf f x1)))) + x3)) 0 (ix (41 + x1)) (((up2 (up2 f 0 (ix (15 + (kX6_rightOf f x1))) ((f 0 (ix (15 + (kX6_rightOf f x1)))) - x3)) 0 (ix (15 + (kX6_leftOf f x1))) (((up2 f 0 (ix (15 + (kX6_rightOf f x1))) ((f 0 (ix (15 + (kX6_rightOf f x1)))) - x3)) 0 (ix (15 + (kX6_leftOf f x1)))) + x3)) 0 (ix (41 + x1))) + (-x3))) 0 (ix (15 + (kX6_leftOf f x1)))), (up2 (up2 (up2 f 0 (ix (15 + (kX6_rightOf f x1))) ((f 0 (ix (15 + (kX6_rightOf f x1)))) - x3)) 0 (ix (15 + (kX6_leftOf f x1))) (((up2 f 0 (ix (15 + (kX6_rightOf f x1))) ((f 0 (ix (15 + (kX6_rightOf f x1)))) - x3)) 0 (ix (15 + (kX6_leftOf f x1)))) + x3)) 0 (ix (41 + x1)) (((up2 (up2 f 0 (ix (15 + (kX6_rightOf f x1))) ((f 0 (ix (15 + (kX6_rightOf f x1)))) - x3)) 0 (ix (15 + (kX6_leftOf f x1))) (((up2 f 0 (ix (15 + (kX6_rightOf f x1))) ((f 0 (ix (15 + (kX6_rightOf f x1)))) - x3)) 0 (ix (15 + (kX6_leftOf f x1)))) + x3)) 0 (ix (41 + x1))) + (-x3)))) := (if_neg c_1).trans ((if_neg c_41).trans ((if_neg c_61).trans ((if_neg c_80))))
    exact e_wi hx hb hr hlk hK hP hD hS dX6_goOver_125 (congrArg Prod.fst hρ).symm (congrArg (fun z => (MW cI h a z.2 ++ X)) hρ).symm
  have c_1 : x2 = 0 := c_1
  refine lv_aload_n hx hb dX6_goOver_4 rfl (lv_at hl 0 rfl) ?_
  refine lv_iload_n hx hb dX6_goOver_5 rfl (lv_at hl 1 rfl) ?_
  refine k_rd (As := [.int x1]) (rest := []) (bytes := cX6_leftOf) (C := RX6) S (okX6_leftOf l D cI cZ cQ h a X f x1) gX6_goOver_X6_leftOf rfl ⟨rfl, rfl⟩ ndX6_leftOf ⟨Nat.le_of_ble_eq_true rfl, Nat.le_of_ble_eq_true rfl⟩ hK hP 0 rfl rfl rfl hl rfl (Nat.le_of_ble_eq_true rfl) dX6_goOver_6 ⟨Nat.zero_le _, Nat.zero_le _⟩ ?_
  refine lv_goto (tgt := 17) hx hb dX6_goOver_9 (by decide) ?_
  refine lv_istore (lv' := [(5, .int (kX6_leftOf f x1)), (0, .ref h), (1, .int x1), (2, .int x2), (3, .int x3), (4, .int x4)]) hx hb dX6_goOver_17 hl (by decide) rfl (fun ls hl => ?_)
  refine lv_iload_n hx hb dX6_goOver_19 rfl (lv_at hl 3 rfl) ?_
  refine lv_if_ne (tgt := 31) hx hb dX6_goOver_20 (by decide) (fun c_20 => absurd c_1 c_20) (fun c_20 => ?_)
  refine lv_aload_n hx hb dX6_goOver_23 rfl (lv_at hl 1 rfl) ?_
  refine lv_iload_n hx hb dX6_goOver_24 rfl (lv_at hl 2 rfl) ?_
  refine k_rd (As := [.int x1]) (rest := []) (bytes := cX6_rightOf) (C := RX6) S (okX6_rightOf l D cI cZ cQ h a X f x1) gX6_goOver_X6_rightOf rfl ⟨rfl, rfl⟩ ndX6_rightOf ⟨Nat.le_of_ble_eq_true rfl, Nat.le_of_ble_eq_true rfl⟩ hK hP 0 rfl rfl rfl hl rfl (Nat.le_of_ble_eq_true rfl) dX6_goOver_25 ⟨Nat.zero_le _, Nat.zero_le _⟩ ?_
  refine lv_goto (tgt := 36) hx hb dX6_goOver_28 (by decide) ?_
  refine lv_istore (lv' := [(6, .int (kX6_rightOf f x1)), (5, .int (kX6_leftOf f x1)), (0, .ref h), (1, .int x1), (2, .int x2), (3, .int x3), (4, .int x4)]) hx hb dX6_goOver_36 hl (by decide) rfl (fun ls hl => ?_)
  refine lv_iload hx hb dX6_goOver_38 (lv_at hl 1 rfl) ?_
  refine lv_iconst (v := (-1)) hx hb dX6_goOver_40 (by decide) ?_
  refine lv_icmp_eq (tgt := 58) hx hb dX6_goOver_41 (by decide) (fun c_41 => ?_) (fun c_41 => ?_)
  · have c_41 : (kX6_leftOf f x1) = (-1) := c_41
    refine lv_iload hx hb dX6_goOver_58 (lv_at hl 0 rfl) ?_
    refine lv_iconst (v := (-1)) hx hb dX6_goOver_60 (by decide) ?_
    refine lv_icmp_eq (tgt := 78) hx hb dX6_goOver_61 (by decide) (fun c_61 => ?_) (fun c_61 => ?_)
    · have c_61 : (kX6_rightOf f x1) = (-1) := c_61
      refine lv_iload hx hb dX6_goOver_78 (lv_at hl 6 rfl) ?_
      refine lv_if_eq (tgt := 105) hx hb dX6_goOver_80 (by decide) (fun c_80 => ?_) (fun c_80 => ?_)
      · have c_80 : x4 = 0 := c_80
        refine lv_iload hx hb dX6_goOver_105 (lv_at hl 0 rfl) ?_
        refine lv_iconst (v := (-1)) hx hb dX6_goOver_107 (by decide) ?_
        refine lv_icmp_ne (tgt := 115) hx hb dX6_goOver_108 (by decide) (fun c_108 => absurd c_61 c_108) (fun c_108 => ?_)
        refine lv_iconst (v := 0) hx hb dX6_goOver_111 (by decide) ?_
        refine lv_goto (tgt := 125) hx hb dX6_goOver_112 (by decide) ?_
        have hρ : kX6_goOver f x1 x2 x3 x4 = (0, f) := (if_pos c_1).trans ((if_pos c_41).trans ((if_pos c_61).trans ((if_pos c_80))))
        exact e_wi hx hb hr hlk hK hP hD hS dX6_goOver_125 (congrArg Prod.fst hρ).symm (congrArg (fun z => (MW cI h a z.2 ++ X)) hρ).symm
      have c_80 : ¬ (x4 = 0) := c_80
      refine lv_aload_n hx hb dX6_goOver_83 rfl (lv_at hl 2 rfl) ?_
      refine va_get (v := .ref (a 0)) (C := RX6) (T := TX6) (N := 6) (ci := 6) hx hb hts hinX6 hown hK hP 0 rfl rfl 0 (by decide) (hts (.fieldLink RX6 7 "AxleKeeperModel" "w" "[I") (by decide +kernel)) (fun _ h9 => h9) rfl dX6_goOver_84 ?_
      refine lv_bipush (v := 41) hx hb dX6_goOver_87 (by decide) ?_
      refine lv_iload_n hx hb dX6_goOver_89 rfl (lv_at hl 3 rfl) ?_
      refine lv_iadd hx hb dX6_goOver_90 ?_
      refine lv_dup2_11 hx hb dX6_goOver_91 rfl rfl ?_
      refine va_iald hx hb hK hP 1 0 rfl rfl (n := 1680) (vin2 (by assumption) (by decide)) dX6_goOver_92 ?_
      refine lv_iload_n hx hb dX6_goOver_93 rfl (lv_at hl 4 rfl) ?_
      refine lv_if_ne (tgt := 101) hx hb dX6_goOver_94 (by decide) (fun c_94 => absurd c_1 c_94) (fun c_94 => ?_)
      refine lv_iload_n hx hb dX6_goOver_97 rfl (lv_at hl 5 rfl) ?_
      refine lv_goto (tgt := 103) hx hb dX6_goOver_98 (by decide) ?_
      refine lv_iadd hx hb dX6_goOver_103 ?_
      refine st_M0 (x := ((f 0 (ix (41 + x1))) + x3)) hx hb hK hP hD hS (vin2 (by assumption) (by decide)) dX6_goOver_104 (fun H locs hP hD hS => ?_)
      refine lv_iload hx hb dX6_goOver_105 (lv_at hl 0 rfl) ?_
      refine lv_iconst (v := (-1)) hx hb dX6_goOver_107 (by decide) ?_
      refine lv_icmp_ne (tgt := 115) hx hb dX6_goOver_108 (by decide) (fun c_108 => absurd c_61 c_108) (fun c_108 => ?_)
      refine lv_iconst (v := 0) hx hb dX6_goOver_111 (by decide) ?_
      refine lv_goto (tgt := 125) hx hb dX6_goOver_112 (by decide) ?_
      have hρ : kX6_goOver f x1 x2 x3 x4 = (0, (up2 f 0 (ix (41 + x1)) ((f 0 (ix (41 + x1))) + x3))) := (if_pos c_1).trans ((if_pos c_41).trans ((if_pos c_61).trans ((if_neg c_80))))
      exact e_wi hx hb hr hlk hK hP hD hS dX6_goOver_125 (congrArg Prod.fst hρ).symm (congrArg (fun z => (MW cI h a z.2 ++ X)) hρ).symm
    have c_61 : ¬ ((kX6_rightOf f x1) = (-1)) := c_61
    have hv2 : vp_in _ 6 := (by first | exact ml_in hok h1 c_61 | exact mr_in hok h1 c_61)
    refine lv_aload_n hx hb dX6_goOver_64 rfl (lv_at hl 2 rfl) ?_
    refine va_get (v := .ref (a 0)) (C := RX6) (T := TX6) (N := 6) (ci := 6) hx hb hts hinX6 hown hK hP 0 rfl rfl 0 (by decide) (hts (.fieldLink RX6 7 "AxleKeeperModel" "w" "[I") (by decide +kernel)) (fun _ h9 => h9) rfl dX6_goOver_65 ?_
    refine lv_bipush (v := 15) hx hb dX6_goOver_68 (by decide) ?_
    refine lv_iload hx hb dX6_goOver_70 (lv_at hl 0 rfl) ?_
    refine lv_iadd hx hb dX6_goOver_72 ?_
    refine lv_dup2_11 hx hb dX6_goOver_73 rfl rfl ?_
    refine va_iald hx hb hK hP 1 0 rfl rfl (n := 1680) (vin2 (by assumption) (by decide)) dX6_goOver_74 ?_
    refine lv_iload_n hx hb dX6_goOver_75 rfl (lv_at hl 5 rfl) ?_
    refine lv_iadd hx hb dX6_goOver_76 ?_
    refine st_M0 (x := ((f 0 (ix (15 + (kX6_rightOf f x1)))) + x3)) hx hb hK hP hD hS (vin2 (by assumption) (by decide)) dX6_goOver_77 (fun H locs hP hD hS => ?_)
    refine lv_iload hx hb dX6_goOver_78 (lv_at hl 6 rfl) ?_
    refine lv_if_eq (tgt := 105) hx hb dX6_goOver_80 (by decide) (fun c_80 => ?_) (fun c_80 => ?_)
    · have c_80 : x4 = 0 := c_80
      refine lv_iload hx hb dX6_goOver_105 (lv_at hl 0 rfl) ?_
      refine lv_iconst (v := (-1)) hx hb dX6_goOver_107 (by decide) ?_
      refine lv_icmp_ne (tgt := 115) hx hb dX6_goOver_108 (by decide) (fun c_108 => ?_) (fun c_108 => absurd c_108 c_61)
      refine lv_aload_n hx hb dX6_goOver_115 rfl (lv_at hl 2 rfl) ?_
      refine va_get (v := .ref (a 0)) (C := RX6) (T := TX6) (N := 6) (ci := 6) hx hb hts hinX6 hown hK hP 0 rfl rfl 0 (by decide) (hts (.fieldLink RX6 7 "AxleKeeperModel" "w" "[I") (by decide +kernel)) (fun _ h9 => h9) rfl dX6_goOver_116 ?_
      refine lv_bipush (v := 15) hx hb dX6_goOver_119 (by decide) ?_
      refine lv_iload hx hb dX6_goOver_121 (lv_at hl 0 rfl) ?_
      refine lv_iadd hx hb dX6_goOver_123 ?_
      refine va_iald hx hb hK hP 1 0 rfl rfl (n := 1680) (vin2 (by assumption) (by decide)) dX6_goOver_124 ?_
      have hρ : kX6_goOver f x1 x2 x3 x4 = (((up2 f 0 (ix (15 + (kX6_rightOf f x1))) ((f 0 (ix (15 + (kX6_rightOf f x1)))) + x3)) 0 (ix (15 + (kX6_rightOf f x1)))), (up2 f 0 (ix (15 + (kX6_rightOf f x1))) ((f 0 (ix (15 + (kX6_rightOf f x1)))) + x3))) := (if_pos c_1).trans ((if_pos c_41).trans ((if_neg c_61).trans ((if_pos c_80))))
      exact e_wi hx hb hr hlk hK hP hD hS dX6_goOver_125 (congrArg Prod.fst hρ).symm (congrArg (fun z => (MW cI h a z.2 ++ X)) hρ).symm
    have c_80 : ¬ (x4 = 0) := c_80
    refine lv_aload_n hx hb dX6_goOver_83 rfl (lv_at hl 2 rfl) ?_
    refine va_get (v := .ref (a 0)) (C := RX6) (T := TX6) (N := 6) (ci := 6) hx hb hts hinX6 hown hK hP 0 rfl rfl 0 (by decide) (hts (.fieldLink RX6 7 "AxleKeeperModel" "w" "[I") (by decide +kernel)) (fun _ h9 => h9) rfl dX6_goOver_84 ?_
    refine lv_bipush (v := 41) hx hb dX6_goOver_87 (by decide) ?_
    refine lv_iload_n hx hb dX6_goOver_89 rfl (lv_at hl 3 rfl) ?_
    refine lv_iadd hx hb dX6_goOver_90 ?_
    refine lv_dup2_11 hx hb dX6_goOver_91 rfl rfl ?_
    refine va_iald hx hb hK hP 1 0 rfl rfl (n := 1680) (vin2 (by assumption) (by decide)) dX6_goOver_92 ?_
    refine lv_iload_n hx hb dX6_goOver_93 rfl (lv_at hl 4 rfl) ?_
    refine lv_if_ne (tgt := 101) hx hb dX6_goOver_94 (by decide) (fun c_94 => absurd c_1 c_94) (fun c_94 => ?_)
    refine lv_iload_n hx hb dX6_goOver_97 rfl (lv_at hl 5 rfl) ?_
    refine lv_goto (tgt := 103) hx hb dX6_goOver_98 (by decide) ?_
    refine lv_iadd hx hb dX6_goOver_103 ?_
    refine st_M0 (x := (((up2 f 0 (ix (15 + (kX6_rightOf f x1))) ((f 0 (ix (15 + (kX6_rightOf f x1)))) + x3)) 0 (ix (41 + x1))) + x3)) hx hb hK hP hD hS (vin2 (by assumption) (by decide)) dX6_goOver_104 (fun H locs hP hD hS => ?_)
    refine lv_iload hx hb dX6_goOver_105 (lv_at hl 0 rfl) ?_
    refine lv_iconst (v := (-1)) hx hb dX6_goOver_107 (by decide) ?_
    refine lv_icmp_ne (tgt := 115) hx hb dX6_goOver_108 (by decide) (fun c_108 => ?_) (fun c_108 => absurd c_108 c_61)
    refine lv_aload_n hx hb dX6_goOver_115 rfl (lv_at hl 2 rfl) ?_
    refine va_get (v := .ref (a 0)) (C := RX6) (T := TX6) (N := 6) (ci := 6) hx hb hts hinX6 hown hK hP 0 rfl rfl 0 (by decide) (hts (.fieldLink RX6 7 "AxleKeeperModel" "w" "[I") (by decide +kernel)) (fun _ h9 => h9) rfl dX6_goOver_116 ?_
    refine lv_bipush (v := 15) hx hb dX6_goOver_119 (by decide) ?_
    refine lv_iload hx hb dX6_goOver_121 (lv_at hl 0 rfl) ?_
    refine lv_iadd hx hb dX6_goOver_123 ?_
    refine va_iald hx hb hK hP 1 0 rfl rfl (n := 1680) (vin2 (by assumption) (by decide)) dX6_goOver_124 ?_
    have hρ : kX6_goOver f x1 x2 x3 x4 = (((up2 (up2 f 0 (ix (15 + (kX6_rightOf f x1))) ((f 0 (ix (15 + (kX6_rightOf f x1)))) + x3)) 0 (ix (41 + x1)) (((up2 f 0 (ix (15 + (kX6_rightOf f x1))) ((f 0 (ix (15 + (kX6_rightOf f x1)))) + x3)) 0 (ix (41 + x1))) + x3)) 0 (ix (15 + (kX6_rightOf f x1)))), (up2 (up2 f 0 (ix (15 + (kX6_rightOf f x1))) ((f 0 (ix (15 + (kX6_rightOf f x1)))) + x3)) 0 (ix (41 + x1)) (((up2 f 0 (ix (15 + (kX6_rightOf f x1))) ((f 0 (ix (15 + (kX6_rightOf f x1)))) + x3)) 0 (ix (41 + x1))) + x3))) := (if_pos c_1).trans ((if_pos c_41).trans ((if_neg c_61).trans ((if_neg c_80))))
    exact e_wi hx hb hr hlk hK hP hD hS dX6_goOver_125 (congrArg Prod.fst hρ).symm (congrArg (fun z => (MW cI h a z.2 ++ X)) hρ).symm
  have c_41 : ¬ ((kX6_leftOf f x1) = (-1)) := c_41
  have hv1 : vp_in _ 6 := (by first | exact ml_in hok h1 c_41 | exact mr_in hok h1 c_41)
  refine lv_aload_n hx hb dX6_goOver_44 rfl (lv_at hl 2 rfl) ?_
  refine va_get (v := .ref (a 0)) (C := RX6) (T := TX6) (N := 6) (ci := 6) hx hb hts hinX6 hown hK hP 0 rfl rfl 0 (by decide) (hts (.fieldLink RX6 7 "AxleKeeperModel" "w" "[I") (by decide +kernel)) (fun _ h9 => h9) rfl dX6_goOver_45 ?_
  refine lv_bipush (v := 15) hx hb dX6_goOver_48 (by decide) ?_
  refine lv_iload hx hb dX6_goOver_50 (lv_at hl 1 rfl) ?_
  refine lv_iadd hx hb dX6_goOver_52 ?_
  refine lv_dup2_11 hx hb dX6_goOver_53 rfl rfl ?_
  refine va_iald hx hb hK hP 1 0 rfl rfl (n := 1680) (vin2 (by assumption) (by decide)) dX6_goOver_54 ?_
  refine lv_iload_n hx hb dX6_goOver_55 rfl (lv_at hl 5 rfl) ?_
  refine lv_isub hx hb dX6_goOver_56 ?_
  refine st_M0 (x := ((f 0 (ix (15 + (kX6_leftOf f x1)))) - x3)) hx hb hK hP hD hS (vin2 (by assumption) (by decide)) dX6_goOver_57 (fun H locs hP hD hS => ?_)
  refine lv_iload hx hb dX6_goOver_58 (lv_at hl 0 rfl) ?_
  refine lv_iconst (v := (-1)) hx hb dX6_goOver_60 (by decide) ?_
  refine lv_icmp_eq (tgt := 78) hx hb dX6_goOver_61 (by decide) (fun c_61 => ?_) (fun c_61 => ?_)
  · have c_61 : (kX6_rightOf f x1) = (-1) := c_61
    refine lv_iload hx hb dX6_goOver_78 (lv_at hl 6 rfl) ?_
    refine lv_if_eq (tgt := 105) hx hb dX6_goOver_80 (by decide) (fun c_80 => ?_) (fun c_80 => ?_)
    · have c_80 : x4 = 0 := c_80
      refine lv_iload hx hb dX6_goOver_105 (lv_at hl 0 rfl) ?_
      refine lv_iconst (v := (-1)) hx hb dX6_goOver_107 (by decide) ?_
      refine lv_icmp_ne (tgt := 115) hx hb dX6_goOver_108 (by decide) (fun c_108 => absurd c_61 c_108) (fun c_108 => ?_)
      refine lv_iconst (v := 0) hx hb dX6_goOver_111 (by decide) ?_
      refine lv_goto (tgt := 125) hx hb dX6_goOver_112 (by decide) ?_
      have hρ : kX6_goOver f x1 x2 x3 x4 = (0, (up2 f 0 (ix (15 + (kX6_leftOf f x1))) ((f 0 (ix (15 + (kX6_leftOf f x1)))) - x3))) := (if_pos c_1).trans ((if_neg c_41).trans ((if_pos c_61).trans ((if_pos c_80))))
      exact e_wi hx hb hr hlk hK hP hD hS dX6_goOver_125 (congrArg Prod.fst hρ).symm (congrArg (fun z => (MW cI h a z.2 ++ X)) hρ).symm
    have c_80 : ¬ (x4 = 0) := c_80
    refine lv_aload_n hx hb dX6_goOver_83 rfl (lv_at hl 2 rfl) ?_
    refine va_get (v := .ref (a 0)) (C := RX6) (T := TX6) (N := 6) (ci := 6) hx hb hts hinX6 hown hK hP 0 rfl rfl 0 (by decide) (hts (.fieldLink RX6 7 "AxleKeeperModel" "w" "[I") (by decide +kernel)) (fun _ h9 => h9) rfl dX6_goOver_84 ?_
    refine lv_bipush (v := 41) hx hb dX6_goOver_87 (by decide) ?_
    refine lv_iload_n hx hb dX6_goOver_89 rfl (lv_at hl 3 rfl) ?_
    refine lv_iadd hx hb dX6_goOver_90 ?_
    refine lv_dup2_11 hx hb dX6_goOver_91 rfl rfl ?_
    refine va_iald hx hb hK hP 1 0 rfl rfl (n := 1680) (vin2 (by assumption) (by decide)) dX6_goOver_92 ?_
    refine lv_iload_n hx hb dX6_goOver_93 rfl (lv_at hl 4 rfl) ?_
    refine lv_if_ne (tgt := 101) hx hb dX6_goOver_94 (by decide) (fun c_94 => absurd c_1 c_94) (fun c_94 => ?_)
    refine lv_iload_n hx hb dX6_goOver_97 rfl (lv_at hl 5 rfl) ?_
    refine lv_goto (tgt := 103) hx hb dX6_goOver_98 (by decide) ?_
    refine lv_iadd hx hb dX6_goOver_103 ?_
    refine st_M0 (x := (((up2 f 0 (ix (15 + (kX6_leftOf f x1))) ((f 0 (ix (15 + (kX6_leftOf f x1)))) - x3)) 0 (ix (41 + x1))) + x3)) hx hb hK hP hD hS (vin2 (by assumption) (by decide)) dX6_goOver_104 (fun H locs hP hD hS => ?_)
    refine lv_iload hx hb dX6_goOver_105 (lv_at hl 0 rfl) ?_
    refine lv_iconst (v := (-1)) hx hb dX6_goOver_107 (by decide) ?_
    refine lv_icmp_ne (tgt := 115) hx hb dX6_goOver_108 (by decide) (fun c_108 => absurd c_61 c_108) (fun c_108 => ?_)
    refine lv_iconst (v := 0) hx hb dX6_goOver_111 (by decide) ?_
    refine lv_goto (tgt := 125) hx hb dX6_goOver_112 (by decide) ?_
    have hρ : kX6_goOver f x1 x2 x3 x4 = (0, (up2 (up2 f 0 (ix (15 + (kX6_leftOf f x1))) ((f 0 (ix (15 + (kX6_leftOf f x1)))) - x3)) 0 (ix (41 + x1)) (((up2 f 0 (ix (15 + (kX6_leftOf f x1))) ((f 0 (ix (15 + (kX6_leftOf f x1)))) - x3)) 0 (ix (41 + x1))) + x3))) := (if_pos c_1).trans ((if_neg c_41).trans ((if_pos c_61).trans ((if_neg c_80))))
    exact e_wi hx hb hr hlk hK hP hD hS dX6_goOver_125 (congrArg Prod.fst hρ).symm (congrArg (fun z => (MW cI h a z.2 ++ X)) hρ).symm
  have c_61 : ¬ ((kX6_rightOf f x1) = (-1)) := c_61
  have hv2 : vp_in _ 6 := (by first | exact ml_in hok h1 c_61 | exact mr_in hok h1 c_61)
  refine lv_aload_n hx hb dX6_goOver_64 rfl (lv_at hl 2 rfl) ?_
  refine va_get (v := .ref (a 0)) (C := RX6) (T := TX6) (N := 6) (ci := 6) hx hb hts hinX6 hown hK hP 0 rfl rfl 0 (by decide) (hts (.fieldLink RX6 7 "AxleKeeperModel" "w" "[I") (by decide +kernel)) (fun _ h9 => h9) rfl dX6_goOver_65 ?_
  refine lv_bipush (v := 15) hx hb dX6_goOver_68 (by decide) ?_
  refine lv_iload hx hb dX6_goOver_70 (lv_at hl 0 rfl) ?_
  refine lv_iadd hx hb dX6_goOver_72 ?_
  refine lv_dup2_11 hx hb dX6_goOver_73 rfl rfl ?_
  refine va_iald hx hb hK hP 1 0 rfl rfl (n := 1680) (vin2 (by assumption) (by decide)) dX6_goOver_74 ?_
  refine lv_iload_n hx hb dX6_goOver_75 rfl (lv_at hl 5 rfl) ?_
  refine lv_iadd hx hb dX6_goOver_76 ?_
  refine st_M0 (x := (((up2 f 0 (ix (15 + (kX6_leftOf f x1))) ((f 0 (ix (15 + (kX6_leftOf f x1)))) - x3)) 0 (ix (15 + (kX6_rightOf f x1)))) + x3)) hx hb hK hP hD hS (vin2 (by assumption) (by decide)) dX6_goOver_77 (fun H locs hP hD hS => ?_)
  refine lv_iload hx hb dX6_goOver_78 (lv_at hl 6 rfl) ?_
  refine lv_if_eq (tgt := 105) hx hb dX6_goOver_80 (by decide) (fun c_80 => ?_) (fun c_80 => ?_)
  · have c_80 : x4 = 0 := c_80
    refine lv_iload hx hb dX6_goOver_105 (lv_at hl 0 rfl) ?_
    refine lv_iconst (v := (-1)) hx hb dX6_goOver_107 (by decide) ?_
    refine lv_icmp_ne (tgt := 115) hx hb dX6_goOver_108 (by decide) (fun c_108 => ?_) (fun c_108 => absurd c_108 c_61)
    refine lv_aload_n hx hb dX6_goOver_115 rfl (lv_at hl 2 rfl) ?_
    refine va_get (v := .ref (a 0)) (C := RX6) (T := TX6) (N := 6) (ci := 6) hx hb hts hinX6 hown hK hP 0 rfl rfl 0 (by decide) (hts (.fieldLink RX6 7 "AxleKeeperModel" "w" "[I") (by decide +kernel)) (fun _ h9 => h9) rfl dX6_goOver_116 ?_
    refine lv_bipush (v := 15) hx hb dX6_goOver_119 (by decide) ?_
    refine lv_iload hx hb dX6_goOver_121 (lv_at hl 0 rfl) ?_
    refine lv_iadd hx hb dX6_goOver_123 ?_
    refine va_iald hx hb hK hP 1 0 rfl rfl (n := 1680) (vin2 (by assumption) (by decide)) dX6_goOver_124 ?_
    have hρ : kX6_goOver f x1 x2 x3 x4 = (((up2 (up2 f 0 (ix (15 + (kX6_leftOf f x1))) ((f 0 (ix (15 + (kX6_leftOf f x1)))) - x3)) 0 (ix (15 + (kX6_rightOf f x1))) (((up2 f 0 (ix (15 + (kX6_leftOf f x1))) ((f 0 (ix (15 + (kX6_leftOf f x1)))) - x3)) 0 (ix (15 + (kX6_rightOf f x1)))) + x3)) 0 (ix (15 + (kX6_rightOf f x1)))), (up2 (up2 f 0 (ix (15 + (kX6_leftOf f x1))) ((f 0 (ix (15 + (kX6_leftOf f x1)))) - x3)) 0 (ix (15 + (kX6_rightOf f x1))) (((up2 f 0 (ix (15 + (kX6_leftOf f x1))) ((f 0 (ix (15 + (kX6_leftOf f x1)))) - x3)) 0 (ix (15 + (kX6_rightOf f x1)))) + x3))) := (if_pos c_1).trans ((if_neg c_41).trans ((if_neg c_61).trans ((if_pos c_80))))
    exact e_wi hx hb hr hlk hK hP hD hS dX6_goOver_125 (congrArg Prod.fst hρ).symm (congrArg (fun z => (MW cI h a z.2 ++ X)) hρ).symm
  have c_80 : ¬ (x4 = 0) := c_80
  refine lv_aload_n hx hb dX6_goOver_83 rfl (lv_at hl 2 rfl) ?_
  refine va_get (v := .ref (a 0)) (C := RX6) (T := TX6) (N := 6) (ci := 6) hx hb hts hinX6 hown hK hP 0 rfl rfl 0 (by decide) (hts (.fieldLink RX6 7 "AxleKeeperModel" "w" "[I") (by decide +kernel)) (fun _ h9 => h9) rfl dX6_goOver_84 ?_
  refine lv_bipush (v := 41) hx hb dX6_goOver_87 (by decide) ?_
  refine lv_iload_n hx hb dX6_goOver_89 rfl (lv_at hl 3 rfl) ?_
  refine lv_iadd hx hb dX6_goOver_90 ?_
  refine lv_dup2_11 hx hb dX6_goOver_91 rfl rfl ?_
  refine va_iald hx hb hK hP 1 0 rfl rfl (n := 1680) (vin2 (by assumption) (by decide)) dX6_goOver_92 ?_
  refine lv_iload_n hx hb dX6_goOver_93 rfl (lv_at hl 4 rfl) ?_
  refine lv_if_ne (tgt := 101) hx hb dX6_goOver_94 (by decide) (fun c_94 => absurd c_1 c_94) (fun c_94 => ?_)
  refine lv_iload_n hx hb dX6_goOver_97 rfl (lv_at hl 5 rfl) ?_
  refine lv_goto (tgt := 103) hx hb dX6_goOver_98 (by decide) ?_
  refine lv_iadd hx hb dX6_goOver_103 ?_
  refine st_M0 (x := (((up2 (up2 f 0 (ix (15 + (kX6_leftOf f x1))) ((f 0 (ix (15 + (kX6_leftOf f x1)))) - x3)) 0 (ix (15 + (kX6_rightOf f x1))) (((up2 f 0 (ix (15 + (kX6_leftOf f x1))) ((f 0 (ix (15 + (kX6_leftOf f x1)))) - x3)) 0 (ix (15 + (kX6_rightOf f x1)))) + x3)) 0 (ix (41 + x1))) + x3)) hx hb hK hP hD hS (vin2 (by assumption) (by decide)) dX6_goOver_104 (fun H locs hP hD hS => ?_)
  refine lv_iload hx hb dX6_goOver_105 (lv_at hl 0 rfl) ?_
  refine lv_iconst (v := (-1)) hx hb dX6_goOver_107 (by decide) ?_
  refine lv_icmp_ne (tgt := 115) hx hb dX6_goOver_108 (by decide) (fun c_108 => ?_) (fun c_108 => absurd c_108 c_61)
  refine lv_aload_n hx hb dX6_goOver_115 rfl (lv_at hl 2 rfl) ?_
  refine va_get (v := .ref (a 0)) (C := RX6) (T := TX6) (N := 6) (ci := 6) hx hb hts hinX6 hown hK hP 0 rfl rfl 0 (by decide) (hts (.fieldLink RX6 7 "AxleKeeperModel" "w" "[I") (by decide +kernel)) (fun _ h9 => h9) rfl dX6_goOver_116 ?_
  refine lv_bipush (v := 15) hx hb dX6_goOver_119 (by decide) ?_
  refine lv_iload hx hb dX6_goOver_121 (lv_at hl 0 rfl) ?_
  refine lv_iadd hx hb dX6_goOver_123 ?_
  refine va_iald hx hb hK hP 1 0 rfl rfl (n := 1680) (vin2 (by assumption) (by decide)) dX6_goOver_124 ?_
  have hρ : kX6_goOver f x1 x2 x3 x4 = (((up2 (up2 (up2 f 0 (ix (15 + (kX6_leftOf f x1))) ((f 0 (ix (15 + (kX6_leftOf f x1)))) - x3)) 0 (ix (15 + (kX6_rightOf f x1))) (((up2 f 0 (ix (15 + (kX6_leftOf f x1))) ((f 0 (ix (15 + (kX6_leftOf f x1)))) - x3)) 0 (ix (15 + (kX6_rightOf f x1)))) + x3)) 0 (ix (41 + x1)) (((up2 (up2 f 0 (ix (15 + (kX6_leftOf f x1))) ((f 0 (ix (15 + (kX6_leftOf f x1)))) - x3)) 0 (ix (15 + (kX6_rightOf f x1))) (((up2 f 0 (ix (15 + (kX6_leftOf f x1))) ((f 0 (ix (15 + (kX6_leftOf f x1)))) - x3)) 0 (ix (15 + (kX6_rightOf f x1)))) + x3)) 0 (ix (41 + x1))) + x3)) 0 (ix (15 + (kX6_rightOf f x1)))), (up2 (up2 (up2 f 0 (ix (15 + (kX6_leftOf f x1))) ((f 0 (ix (15 + (kX6_leftOf f x1)))) - x3)) 0 (ix (15 + (kX6_rightOf f x1))) (((up2 f 0 (ix (15 + (kX6_leftOf f x1))) ((f 0 (ix (15 + (kX6_leftOf f x1)))) - x3)) 0 (ix (15 + (kX6_rightOf f x1)))) + x3)) 0 (ix (41 + x1)) (((up2 (up2 f 0 (ix (15 + (kX6_leftOf f x1))) ((f 0 (ix (15 + (kX6_leftOf f x1)))) - x3)) 0 (ix (15 + (kX6_rightOf f x1))) (((up2 f 0 (ix (15 + (kX6_leftOf f x1))) ((f 0 (ix (15 + (kX6_leftOf f x1)))) - x3)) 0 (ix (15 + (kX6_rightOf f x1)))) + x3)) 0 (ix (41 + x1))) + x3))) := (if_pos c_1).trans ((if_neg c_41).trans ((if_neg c_61).trans ((if_neg c_80))))
  exact e_wi hx hb hr hlk hK hP hD hS dX6_goOver_125 (congrArg Prod.fst hρ).symm (congrArg (fun z => (MW cI h a z.2 ++ X)) hρ).symm
theorem ndX6_goes : yX6_goes.cls = RX6 ∧ yX6_goes.cls ≠ "java/lang/invoke/MethodHandle" ∧ yX6_goes.cls ≠ "java/lang/invoke/VarHandle" ∧ (parseMethodDescriptor yX6_goes.desc).map (fun d => d.parameters.length) = some 4 := by decide +kernel
set_option maxHeartbeats 4000000 in
set_option maxRecDepth 100000 in
theorem okX6_goes (l : Launch) (D : va_G) (cI cZ cQ : ClassId) (h : Nat) (a : Nat → Nat) (X : va_W) (f : Nat → Nat → Int32) (x1 x2 x3 x4 : Int32) (sz : Nat) (hok : okM f) (hk : vp_in (f 1 0) 17) : Met l yX6_goes wsX6_goes ({ frames := 2, cells := 0, slots := 0, locals := 47 }) (PW [.ref h, .int x1, .int x2, .int x3, .int x4] sz D (TY cI cZ cQ) (MW cI h a f ++ X)) (QI (kX6_goes f x1 x2 x3 x4).1 D (TY cI cZ cQ) (MW cI h a (kX6_goes f x1 x2 x3 x4).2 ++ X) (va_A (MW cI h a f ++ X) sz)) 0 0 (va_A (MW cI h a f ++ X) sz) := by
  refine m_wr (cc := cX6_goes) (maxL := 5) (ret := (some .int)) (by decide) rfl (Nat.le_of_ble_eq_true rfl) (lv0 := [(0, .ref h), (1, .int x1), (2, .int x2), (3, .int x3), (4, .int x4)]) rfl ?_
  intro p e s m below meth c ls A hAe S hr hlk hP hK hD hS hA hl
  rw [← hAe]
  have S : CallFix p m c cX6_goes 5 s ([.ref h, .int x1, .int x2, .int x3, .int x4] : List Value).toArray wsX6_goes RX6 := S
  have hx := S.1
  have hb := S.2.1
  have hown : s.vm.findClass RX6 = some m.cls := S.2.2.2.1
  have hts := S.2.2.2.2
  refine lv_aload_n hx hb dX6_goes_0 rfl (lv_at hl 0 rfl) ?_
  refine lv_iload_n hx hb dX6_goes_1 rfl (lv_at hl 1 rfl) ?_
  refine k_rd (As := [.int x1]) (rest := []) (bytes := cX6_isHead) (C := RX6) S (okX6_isHead l D cI cZ cQ h a X f x1) gX6_goes_X6_isHead rfl ⟨rfl, rfl⟩ ndX6_isHead ⟨Nat.le_of_ble_eq_true rfl, Nat.le_of_ble_eq_true rfl⟩ hK hP 0 rfl rfl rfl hl rfl (Nat.le_of_ble_eq_true rfl) dX6_goes_2 ⟨Nat.zero_le _, Nat.zero_le _⟩ ?_
  refine lv_if_ne (tgt := 11) hx hb dX6_goes_5 (by decide) (fun c_5 => ?_) (fun c_5 => ?_)
  · have c_5 : ¬ ((kX6_isHead f x1) = 0) := c_5
    have h7 : vp_in x1 7 := mh_in hok c_5
    refine lv_iload_n hx hb dX6_goes_11 rfl (lv_at hl 2 rfl) ?_
    refine lv_iconst (v := 0) hx hb dX6_goes_12 (by decide) ?_
    refine lv_iconst (v := 1) hx hb dX6_goes_13 (by decide) ?_
    refine k_rs (As := [.int x2, .int 0, .int 1]) (rest := []) (bytes := cX6_in) S (okX6_in l D cI cZ cQ h a X f x2 0 1) gX6_goes_X6_in rfl ⟨rfl, rfl⟩ ndX6_in ⟨Nat.le_of_ble_eq_true rfl, Nat.le_of_ble_eq_true rfl⟩ hK hP rfl hl rfl (Nat.le_of_ble_eq_true rfl) dX6_goes_14 ⟨Nat.zero_le _, Nat.zero_le _⟩ ?_
    refine lv_if_eq (tgt := 30) hx hb dX6_goes_17 (by decide) (fun c_17 => ?_) (fun c_17 => ?_)
    · have c_17 : (kX6_in f x2 0 1) = 0 := c_17
      refine lv_ldc (v := (-1000000002)) hx hb hown (hts (.constant RX6 101 (-1000000002)) (by decide +kernel)) dX6_goes_30 ?_
      have hρ : kX6_goes f x1 x2 x3 x4 = ((-1000000002), f) := (if_neg c_5).trans ((if_pos c_17))
      exact e_wi hx hb hr hlk hK hP hD hS dX6_goes_32 (congrArg Prod.fst hρ).symm (congrArg (fun z => (MW cI h a z.2 ++ X)) hρ).symm
    have c_17 : ¬ ((kX6_in f x2 0 1) = 0) := c_17
    refine lv_iload_n hx hb dX6_goes_20 rfl (lv_at hl 3 rfl) ?_
    refine lv_iconst (v := 1) hx hb dX6_goes_21 (by decide) ?_
    refine lv_bipush (v := 9) hx hb dX6_goes_22 (by decide) ?_
    refine k_rs (As := [.int x3, .int 1, .int 9]) (rest := []) (bytes := cX6_in) S (okX6_in l D cI cZ cQ h a X f x3 1 9) gX6_goes_X6_in rfl ⟨rfl, rfl⟩ ndX6_in ⟨Nat.le_of_ble_eq_true rfl, Nat.le_of_ble_eq_true rfl⟩ hK hP rfl hl rfl (Nat.le_of_ble_eq_true rfl) dX6_goes_24 ⟨Nat.zero_le _, Nat.zero_le _⟩ ?_
    refine lv_if_ne (tgt := 33) hx hb dX6_goes_27 (by decide) (fun c_27 => ?_) (fun c_27 => ?_)
    · have c_27 : ¬ ((kX6_in f x3 1 9) = 0) := c_27
      refine lv_aload_n hx hb dX6_goes_33 rfl (lv_at hl 0 rfl) ?_
      refine lv_iload_n hx hb dX6_goes_34 rfl (lv_at hl 1 rfl) ?_
      refine lv_iload_n hx hb dX6_goes_35 rfl (lv_at hl 2 rfl) ?_
      refine lv_iload_n hx hb dX6_goes_36 rfl (lv_at hl 3 rfl) ?_
      refine k_rd (As := [.int x1, .int x2, .int x3]) (rest := []) (bytes := cX6_canGo) (C := RX6) S (okX6_canGo l D cI cZ cQ h a X f x1 x2 x3 (by assumption) (by assumption)) gX6_goes_X6_canGo rfl ⟨rfl, rfl⟩ ndX6_canGo ⟨Nat.le_of_ble_eq_true rfl, Nat.le_of_ble_eq_true rfl⟩ hK hP 0 rfl rfl rfl hl rfl (Nat.le_of_ble_eq_true rfl) dX6_goes_37 ⟨Nat.zero_le _, Nat.zero_le _⟩ ?_
      refine lv_if_eq (tgt := 56) hx hb dX6_goes_40 (by decide) (fun c_40 => ?_) (fun c_40 => ?_)
      · have c_40 : (kX6_canGo f x1 x2 x3) = 0 := c_40
        refine lv_ldc (v := (-1000000003)) hx hb hown (hts (.constant RX6 124 (-1000000003)) (by decide +kernel)) dX6_goes_56 ?_
        have hρ : kX6_goes f x1 x2 x3 x4 = ((-1000000003), f) := (if_neg c_5).trans ((if_neg c_17).trans ((if_neg c_27).trans ((if_pos c_40))))
        exact e_wi hx hb hr hlk hK hP hD hS dX6_goes_58 (congrArg Prod.fst hρ).symm (congrArg (fun z => (MW cI h a z.2 ++ X)) hρ).symm
      have c_40 : ¬ ((kX6_canGo f x1 x2 x3) = 0) := c_40
      refine lv_iload hx hb dX6_goes_43 (lv_at hl 4 rfl) ?_
      refine lv_if_eq (tgt := 59) hx hb dX6_goes_45 (by decide) (fun c_45 => ?_) (fun c_45 => ?_)
      · have c_45 : x4 = 0 := c_45
        refine lv_aload_n hx hb dX6_goes_59 rfl (lv_at hl 0 rfl) ?_
        refine k_wv (As := []) (rest := []) (bytes := cX6_remember) (C := RX6) S (okX6_remember l D cI cZ cQ h a X f _ (by assumption)) gX6_goes_X6_remember rfl ⟨rfl, rfl⟩ ndX6_remember ⟨Nat.le_of_ble_eq_true rfl, Nat.le_of_ble_eq_true rfl⟩ hK hP hD hS hA 0 rfl rfl rfl hl rfl (Nat.le_of_ble_eq_true rfl) dX6_goes_60 ⟨Nat.zero_le _, Nat.zero_le _⟩ (fun H locs hP hD hS => ?_)
        have hP : va_P D vwCl (MW cI h a (kX6_remember f) ++ X) H := hP
        have hD : va_D A (MW cI h a (kX6_remember f) ++ X) := hD
        refine lv_aload_n hx hb dX6_goes_63 rfl (lv_at hl 0 rfl) ?_
        refine lv_iload_n hx hb dX6_goes_64 rfl (lv_at hl 1 rfl) ?_
        refine lv_iload_n hx hb dX6_goes_65 rfl (lv_at hl 2 rfl) ?_
        refine lv_iload_n hx hb dX6_goes_66 rfl (lv_at hl 3 rfl) ?_
        refine lv_iload hx hb dX6_goes_67 (lv_at hl 4 rfl) ?_
        refine k_wi (As := [.int x1, .int x2, .int x3, .int x4]) (rest := []) (bytes := cX6_goOver) (C := RX6) S (okX6_goOver l D cI cZ cQ h a X (kX6_remember f) x1 x2 x3 x4 _ (okM_rem hok hk) h7) gX6_goes_X6_goOver rfl ⟨rfl, rfl⟩ ndX6_goOver ⟨Nat.le_of_ble_eq_true rfl, Nat.le_of_ble_eq_true rfl⟩ hK hP hD hS hA 0 rfl rfl rfl hl rfl (Nat.le_of_ble_eq_true rfl) dX6_goes_69 ⟨Nat.zero_le _, Nat.zero_le _⟩ (fun H locs hP hD hS => ?_)
        have hP : va_P D vwCl (MW cI h a (kX6_goOver (kX6_remember f) x1 x2 x3 x4).2 ++ X) H := hP
        have hD : va_D A (MW cI h a (kX6_goOver (kX6_remember f) x1 x2 x3 x4).2 ++ X) := hD
        have hρ : kX6_goes f x1 x2 x3 x4 = ((kX6_goOver (kX6_remember f) x1 x2 x3 x4).1, (kX6_goOver (kX6_remember f) x1 x2 x3 x4).2) := (if_neg c_5).trans ((if_neg c_17).trans ((if_neg c_27).trans ((if_neg c_40).trans ((if_pos c_45)))))
        exact e_wi hx hb hr hlk hK hP hD hS dX6_goes_72 (congrArg Prod.fst hρ).symm (congrArg (fun z => (MW cI h a z.2 ++ X)) hρ).symm
      have c_45 : ¬ (x4 = 0) := c_45
      refine lv_aload_n hx hb dX6_goes_48 rfl (lv_at hl 0 rfl) ?_
      refine lv_iload_n hx hb dX6_goes_49 rfl (lv_at hl 1 rfl) ?_
      refine k_rd (As := [.int x1]) (rest := []) (bytes := cX6_feels) (C := RX6) S (okX6_feels l D cI cZ cQ h a X f x1 (by assumption)) gX6_goes_X6_feels rfl ⟨rfl, rfl⟩ ndX6_feels ⟨Nat.le_of_ble_eq_true rfl, Nat.le_of_ble_eq_true rfl⟩ hK hP 0 rfl rfl rfl hl rfl (Nat.le_of_ble_eq_true rfl) dX6_goes_50 ⟨Nat.zero_le _, Nat.zero_le _⟩ ?_
      refine lv_if_ne (tgt := 59) hx hb dX6_goes_53 (by decide) (fun c_53 => ?_) (fun c_53 => ?_)
      · have c_53 : ¬ ((kX6_feels f x1) = 0) := c_53
        refine lv_aload_n hx hb dX6_goes_59 rfl (lv_at hl 0 rfl) ?_
        refine k_wv (As := []) (rest := []) (bytes := cX6_remember) (C := RX6) S (okX6_remember l D cI cZ cQ h a X f _ (by assumption)) gX6_goes_X6_remember rfl ⟨rfl, rfl⟩ ndX6_remember ⟨Nat.le_of_ble_eq_true rfl, Nat.le_of_ble_eq_true rfl⟩ hK hP hD hS hA 0 rfl rfl rfl hl rfl (Nat.le_of_ble_eq_true rfl) dX6_goes_60 ⟨Nat.zero_le _, Nat.zero_le _⟩ (fun H locs hP hD hS => ?_)
        have hP : va_P D vwCl (MW cI h a (kX6_remember f) ++ X) H := hP
        have hD : va_D A (MW cI h a (kX6_remember f) ++ X) := hD
        refine lv_aload_n hx hb dX6_goes_63 rfl (lv_at hl 0 rfl) ?_
        refine lv_iload_n hx hb dX6_goes_64 rfl (lv_at hl 1 rfl) ?_
        refine lv_iload_n hx hb dX6_goes_65 rfl (lv_at hl 2 rfl) ?_
        refine lv_iload_n hx hb dX6_goes_66 rfl (lv_at hl 3 rfl) ?_
        refine lv_iload hx hb dX6_goes_67 (lv_at hl 4 rfl) ?_
        refine k_wi (As := [.int x1, .int x2, .int x3, .int x4]) (rest := []) (bytes := cX6_goOver) (C := RX6) S (okX6_goOver l D cI cZ cQ h a X (kX6_remember f) x1 x2 x3 x4 _ (okM_rem hok hk) h7) gX6_goes_X6_goOver rfl ⟨rfl, rfl⟩ ndX6_goOver ⟨Nat.le_of_ble_eq_true rfl, Nat.le_of_ble_eq_true rfl⟩ hK hP hD hS hA 0 rfl rfl rfl hl rfl (Nat.le_of_ble_eq_true rfl) dX6_goes_69 ⟨Nat.zero_le _, Nat.zero_le _⟩ (fun H locs hP hD hS => ?_)
        have hP : va_P D vwCl (MW cI h a (kX6_goOver (kX6_remember f) x1 x2 x3 x4).2 ++ X) H := hP
        have hD : va_D A (MW cI h a (kX6_goOver (kX6_remember f) x1 x2 x3 x4).2 ++ X) := hD
        have hρ : kX6_goes f x1 x2 x3 x4 = ((kX6_goOver (kX6_remember f) x1 x2 x3 x4).1, (kX6_goOver (kX6_remember f) x1 x2 x3 x4).2) := (if_neg c_5).trans ((if_neg c_17).trans ((if_neg c_27).trans ((if_neg c_40).trans ((if_neg c_45).trans ((if_neg c_53))))))
        exact e_wi hx hb hr hlk hK hP hD hS dX6_goes_72 (congrArg Prod.fst hρ).symm (congrArg (fun z => (MW cI h a z.2 ++ X)) hρ).symm
      have c_53 : (kX6_feels f x1) = 0 := c_53
      refine lv_ldc (v := (-1000000003)) hx hb hown (hts (.constant RX6 124 (-1000000003)) (by decide +kernel)) dX6_goes_56 ?_
      have hρ : kX6_goes f x1 x2 x3 x4 = ((-1000000003), f) := (if_neg c_5).trans ((if_neg c_17).trans ((if_neg c_27).trans ((if_neg c_40).trans ((if_neg c_45).trans ((if_pos c_53))))))
      exact e_wi hx hb hr hlk hK hP hD hS dX6_goes_58 (congrArg Prod.fst hρ).symm (congrArg (fun z => (MW cI h a z.2 ++ X)) hρ).symm
    have c_27 : (kX6_in f x3 1 9) = 0 := c_27
    refine lv_ldc (v := (-1000000002)) hx hb hown (hts (.constant RX6 101 (-1000000002)) (by decide +kernel)) dX6_goes_30 ?_
    have hρ : kX6_goes f x1 x2 x3 x4 = ((-1000000002), f) := (if_neg c_5).trans ((if_neg c_17).trans ((if_pos c_27)))
    exact e_wi hx hb hr hlk hK hP hD hS dX6_goes_32 (congrArg Prod.fst hρ).symm (congrArg (fun z => (MW cI h a z.2 ++ X)) hρ).symm
  have c_5 : (kX6_isHead f x1) = 0 := c_5
  refine lv_ldc (v := (-1000000001)) hx hb hown (hts (.constant RX6 102 (-1000000001)) (by decide +kernel)) dX6_goes_8 ?_
  have hρ : kX6_goes f x1 x2 x3 x4 = ((-1000000001), f) := (if_pos c_5)
  exact e_wi hx hb hr hlk hK hP hD hS dX6_goes_10 (congrArg Prod.fst hρ).symm (congrArg (fun z => (MW cI h a z.2 ++ X)) hρ).symm
theorem ndX6_go : yX6_go.cls = RX6 ∧ yX6_go.cls ≠ "java/lang/invoke/MethodHandle" ∧ yX6_go.cls ≠ "java/lang/invoke/VarHandle" ∧ (parseMethodDescriptor yX6_go.desc).map (fun d => d.parameters.length) = some 3 := by decide +kernel
set_option maxHeartbeats 4000000 in
set_option maxRecDepth 100000 in
theorem okX6_go (l : Launch) (D : va_G) (cI cZ cQ : ClassId) (h : Nat) (a : Nat → Nat) (X : va_W) (f : Nat → Nat → Int32) (x1 x2 x3 : Int32) (sz : Nat) (hok : okM f) (hk : vp_in (f 1 0) 17) : Met l yX6_go wsX6_go ({ frames := 3, cells := 0, slots := 0, locals := 71 }) (PW [.ref h, .int x1, .int x2, .int x3] sz D (TY cI cZ cQ) (MW cI h a f ++ X)) (QI (kX6_go f x1 x2 x3).1 D (TY cI cZ cQ) (MW cI h a (kX6_go f x1 x2 x3).2 ++ X) (va_A (MW cI h a f ++ X) sz)) 0 0 (va_A (MW cI h a f ++ X) sz) := by
  refine m_wr (cc := cX6_go) (maxL := 4) (ret := (some .int)) (by decide) rfl (Nat.le_of_ble_eq_true rfl) (lv0 := [(0, .ref h), (1, .int x1), (2, .int x2), (3, .int x3)]) rfl ?_
  intro p e s m below meth c ls A hAe S hr hlk hP hK hD hS hA hl
  rw [← hAe]
  have S : CallFix p m c cX6_go 4 s ([.ref h, .int x1, .int x2, .int x3] : List Value).toArray wsX6_go RX6 := S
  have hx := S.1
  have hb := S.2.1
  have hown : s.vm.findClass RX6 = some m.cls := S.2.2.2.1
  have hts := S.2.2.2.2
  refine lv_aload_n hx hb dX6_go_0 rfl (lv_at hl 0 rfl) ?_
  refine lv_iload_n hx hb dX6_go_1 rfl (lv_at hl 1 rfl) ?_
  refine lv_iload_n hx hb dX6_go_2 rfl (lv_at hl 2 rfl) ?_
  refine lv_iload_n hx hb dX6_go_3 rfl (lv_at hl 3 rfl) ?_
  refine lv_iconst (v := 1) hx hb dX6_go_4 (by decide) ?_
  refine k_wi (As := [.int x1, .int x2, .int x3, .int 1]) (rest := []) (bytes := cX6_goes) (C := RX6) S (okX6_goes l D cI cZ cQ h a X f x1 x2 x3 1 _ (by assumption) (by assumption)) gX6_go_X6_goes rfl ⟨rfl, rfl⟩ ndX6_goes ⟨Nat.le_of_ble_eq_true rfl, Nat.le_of_ble_eq_true rfl⟩ hK hP hD hS hA 0 rfl rfl rfl hl rfl (Nat.le_of_ble_eq_true rfl) dX6_go_5 ⟨Nat.zero_le _, Nat.zero_le _⟩ (fun H locs hP hD hS => ?_)
  have hP : va_P D vwCl (MW cI h a (kX6_goes f x1 x2 x3 1).2 ++ X) H := hP
  have hD : va_D A (MW cI h a (kX6_goes f x1 x2 x3 1).2 ++ X) := hD
  have hρ : kX6_go f x1 x2 x3 = ((kX6_goes f x1 x2 x3 1).1, (kX6_goes f x1 x2 x3 1).2) := rfl
  exact e_wi hx hb hr hlk hK hP hD hS dX6_go_8 (congrArg Prod.fst hρ).symm (congrArg (fun z => (MW cI h a z.2 ++ X)) hρ).symm
theorem ndX6_miss : yX6_miss.cls = RX6 ∧ yX6_miss.cls ≠ "java/lang/invoke/MethodHandle" ∧ yX6_miss.cls ≠ "java/lang/invoke/VarHandle" ∧ (parseMethodDescriptor yX6_miss.desc).map (fun d => d.parameters.length) = some 3 := by decide +kernel
set_option maxHeartbeats 4000000 in
set_option maxRecDepth 100000 in
theorem okX6_miss (l : Launch) (D : va_G) (cI cZ cQ : ClassId) (h : Nat) (a : Nat → Nat) (X : va_W) (f : Nat → Nat → Int32) (x1 x2 x3 : Int32) (sz : Nat) (hok : okM f) (hk : vp_in (f 1 0) 17) : Met l yX6_miss wsX6_miss ({ frames := 3, cells := 0, slots := 0, locals := 71 }) (PW [.ref h, .int x1, .int x2, .int x3] sz D (TY cI cZ cQ) (MW cI h a f ++ X)) (QI (kX6_miss f x1 x2 x3).1 D (TY cI cZ cQ) (MW cI h a (kX6_miss f x1 x2 x3).2 ++ X) (va_A (MW cI h a f ++ X) sz)) 0 0 (va_A (MW cI h a f ++ X) sz) := by
  refine m_wr (cc := cX6_miss) (maxL := 4) (ret := (some .int)) (by decide) rfl (Nat.le_of_ble_eq_true rfl) (lv0 := [(0, .ref h), (1, .int x1), (2, .int x2), (3, .int x3)]) rfl ?_
  intro p e s m below meth c ls A hAe S hr hlk hP hK hD hS hA hl
  rw [← hAe]
  have S : CallFix p m c cX6_miss 4 s ([.ref h, .int x1, .int x2, .int x3] : List Value).toArray wsX6_miss RX6 := S
  have hx := S.1
  have hb := S.2.1
  have hown : s.vm.findClass RX6 = some m.cls := S.2.2.2.1
  have hts := S.2.2.2.2
  refine lv_aload_n hx hb dX6_miss_0 rfl (lv_at hl 0 rfl) ?_
  refine lv_iload_n hx hb dX6_miss_1 rfl (lv_at hl 1 rfl) ?_
  refine lv_iload_n hx hb dX6_miss_2 rfl (lv_at hl 2 rfl) ?_
  refine lv_iload_n hx hb dX6_miss_3 rfl (lv_at hl 3 rfl) ?_
  refine lv_iconst (v := 0) hx hb dX6_miss_4 (by decide) ?_
  refine k_wi (As := [.int x1, .int x2, .int x3, .int 0]) (rest := []) (bytes := cX6_goes) (C := RX6) S (okX6_goes l D cI cZ cQ h a X f x1 x2 x3 0 _ (by assumption) (by assumption)) gX6_miss_X6_goes rfl ⟨rfl, rfl⟩ ndX6_goes ⟨Nat.le_of_ble_eq_true rfl, Nat.le_of_ble_eq_true rfl⟩ hK hP hD hS hA 0 rfl rfl rfl hl rfl (Nat.le_of_ble_eq_true rfl) dX6_miss_5 ⟨Nat.zero_le _, Nat.zero_le _⟩ (fun H locs hP hD hS => ?_)
  have hP : va_P D vwCl (MW cI h a (kX6_goes f x1 x2 x3 0).2 ++ X) H := hP
  have hD : va_D A (MW cI h a (kX6_goes f x1 x2 x3 0).2 ++ X) := hD
  have hρ : kX6_miss f x1 x2 x3 = ((kX6_goes f x1 x2 x3 0).1, (kX6_goes f x1 x2 x3 0).2) := rfl
  exact e_wi hx hb hr hlk hK hP hD hS dX6_miss_8 (congrArg Prod.fst hρ).symm (congrArg (fun z => (MW cI h a z.2 ++ X)) hρ).symm
