theorem ndX6_judgeOne : yX6_judgeOne.cls = RX6 ∧ yX6_judgeOne.cls ≠ "java/lang/invoke/MethodHandle" ∧ yX6_judgeOne.cls ≠ "java/lang/invoke/VarHandle" ∧ (parseMethodDescriptor yX6_judgeOne.desc).map (fun d => d.parameters.length) = some 2 := by decide +kernel
set_option maxHeartbeats 4000000 in
set_option maxRecDepth 100000 in
theorem okX6_judgeOne (l : Launch) (D : va_G) (cI cZ cQ : ClassId) (h : Nat) (a : Nat → Nat) (X : va_W) (f : Nat → Nat → Int32) (x1 x2 : Int32) (sz : Nat) (hok : okM f) (h1 : vp_in x1 1597) (h2 : vp_in x2 6) : Met l yX6_judgeOne wsX6_judgeOne ({ frames := 3, cells := 0, slots := 0, locals := 66 }) (PW [.ref h, .int x1, .int x2] sz D (TY cI cZ cQ) (MW cI h a f ++ X)) (QV D (TY cI cZ cQ) (MW cI h a (kX6_judgeOne f x1 x2) ++ X) (va_A (MW cI h a f ++ X) sz)) 0 0 (va_A (MW cI h a f ++ X) sz) := by
  refine m_wr (cc := cX6_judgeOne) (maxL := 5) (ret := none) (by decide) rfl (Nat.le_of_ble_eq_true rfl) (lv0 := [(0, .ref h), (1, .int x1), (2, .int x2)]) rfl ?_
  intro p e s m below meth c ls A hAe S hr hlk hP hK hD hS hA hl
  rw [← hAe]
  have S : CallFix p m c cX6_judgeOne 5 s ([.ref h, .int x1, .int x2] : List Value).toArray wsX6_judgeOne RX6 := S
  have hx := S.1
  have hb := S.2.1
  have hown : s.vm.findClass RX6 = some m.cls := S.2.2.2.1
  have hts := S.2.2.2.2
  have hinX6 : ∀ w ∈ wsX60, w ∈ wsX6_judgeOne := by decide +kernel
  refine lv_aload_n hx hb dX6_judgeOne_0 rfl (lv_at hl 0 rfl) ?_
  refine va_get (v := .ref (a 0)) (C := RX6) (T := TX6) (N := 6) (ci := 6) hx hb hts hinX6 hown hK hP 0 rfl rfl 0 (by decide) (hts (.fieldLink RX6 7 "AxleKeeperModel" "w" "[I") (by decide +kernel)) (fun _ h9 => h9) rfl dX6_judgeOne_1 ?_
  refine lv_iload_n hx hb dX6_judgeOne_4 rfl (lv_at hl 1 rfl) ?_
  refine lv_iconst (v := 3) hx hb dX6_judgeOne_5 (by decide) ?_
  refine lv_iadd hx hb dX6_judgeOne_6 ?_
  refine lv_iload_n hx hb dX6_judgeOne_7 rfl (lv_at hl 2 rfl) ?_
  refine lv_iadd hx hb dX6_judgeOne_8 ?_
  refine va_iald hx hb hK hP 1 0 rfl rfl (n := 1680) (vin3 (by assumption) (by assumption) (by decide)) dX6_judgeOne_9 ?_
  refine lv_istore_n (lv' := [(3, .int (f 0 (ix ((x1 + 3) + x2)))), (0, .ref h), (1, .int x1), (2, .int x2)]) hx hb dX6_judgeOne_10 rfl hl (by decide) rfl (fun ls hl => ?_)
  refine lv_aload_n hx hb dX6_judgeOne_11 rfl (lv_at hl 1 rfl) ?_
  refine va_get (v := .ref (a 0)) (C := RX6) (T := TX6) (N := 6) (ci := 6) hx hb hts hinX6 hown hK hP 0 rfl rfl 0 (by decide) (hts (.fieldLink RX6 7 "AxleKeeperModel" "w" "[I") (by decide +kernel)) (fun _ h9 => h9) rfl dX6_judgeOne_12 ?_
  refine lv_iload_n hx hb dX6_judgeOne_15 rfl (lv_at hl 2 rfl) ?_
  refine lv_bipush (v := 9) hx hb dX6_judgeOne_16 (by decide) ?_
  refine lv_iadd hx hb dX6_judgeOne_18 ?_
  refine lv_iload_n hx hb dX6_judgeOne_19 rfl (lv_at hl 3 rfl) ?_
  refine lv_iadd hx hb dX6_judgeOne_20 ?_
  refine va_iald hx hb hK hP 1 0 rfl rfl (n := 1680) (vin3 (by assumption) (by assumption) (by decide)) dX6_judgeOne_21 ?_
  refine lv_istore (lv' := [(4, .int (f 0 (ix ((x1 + 9) + x2)))), (3, .int (f 0 (ix ((x1 + 3) + x2)))), (0, .ref h), (1, .int x1), (2, .int x2)]) hx hb dX6_judgeOne_22 hl (by decide) rfl (fun ls hl => ?_)
  refine lv_aload_n hx hb dX6_judgeOne_24 rfl (lv_at hl 2 rfl) ?_
  refine lv_iload_n hx hb dX6_judgeOne_25 rfl (lv_at hl 3 rfl) ?_
  refine lv_iload_n hx hb dX6_judgeOne_26 rfl (lv_at hl 4 rfl) ?_
  refine k_rd (As := [.int x1, .int x2]) (rest := []) (bytes := cX6_isTrouble) (C := RX6) S (okX6_isTrouble l D cI cZ cQ h a X f x1 x2 (by assumption) (by assumption) (by assumption)) gX6_judgeOne_X6_isTrouble rfl ⟨rfl, rfl⟩ ndX6_isTrouble ⟨Nat.le_of_ble_eq_true rfl, Nat.le_of_ble_eq_true rfl⟩ hK hP 0 rfl rfl rfl hl rfl (Nat.le_of_ble_eq_true rfl) dX6_judgeOne_27 ⟨Nat.zero_le _, Nat.zero_le _⟩ ?_
  refine lv_if_eq (tgt := 59) hx hb dX6_judgeOne_30 (by decide) (fun c_30 => ?_) (fun c_30 => ?_)
  · have c_30 : (kX6_isTrouble f x1 x2) = 0 := c_30
    refine lv_iload_n hx hb dX6_judgeOne_59 rfl (lv_at hl 1 rfl) ?_
    refine lv_if_eq (tgt := 68) hx hb dX6_judgeOne_60 (by decide) (fun c_60 => ?_) (fun c_60 => ?_)
    · have c_60 : (f 0 (ix ((x1 + 3) + x2))) = 0 := c_60
      refine lv_aload_n hx hb dX6_judgeOne_68 rfl (lv_at hl 2 rfl) ?_
      refine va_get (v := .ref (a 0)) (C := RX6) (T := TX6) (N := 6) (ci := 6) hx hb hts hinX6 hown hK hP 0 rfl rfl 0 (by decide) (hts (.fieldLink RX6 7 "AxleKeeperModel" "w" "[I") (by decide +kernel)) (fun _ h9 => h9) rfl dX6_judgeOne_69 ?_
      refine lv_iload_n hx hb dX6_judgeOne_72 rfl (lv_at hl 3 rfl) ?_
      refine lv_iconst (v := 3) hx hb dX6_judgeOne_73 (by decide) ?_
      refine lv_iadd hx hb dX6_judgeOne_74 ?_
      refine lv_iload_n hx hb dX6_judgeOne_75 rfl (lv_at hl 4 rfl) ?_
      refine lv_iadd hx hb dX6_judgeOne_76 ?_
      refine lv_iload hx hb dX6_judgeOne_77 (lv_at hl 0 rfl) ?_
      refine lv_if_le (tgt := 86) hx hb dX6_judgeOne_79 (by decide) (fun c_79 => ?_) (fun c_79 => ?_)
      · have c_79 : (f 0 (ix ((x1 + 9) + x2))) ≤ 0 := c_79
        refine lv_iconst (v := 0) hx hb dX6_judgeOne_86 (by decide) ?_
        refine st_M0 (x := 0) hx hb hK hP hD hS (vin3 (by assumption) (by assumption) (by decide)) dX6_judgeOne_87 (fun H locs hP hD hS => ?_)
        refine lv_goto (tgt := 137) hx hb dX6_judgeOne_88 (by decide) ?_
        have hρ : kX6_judgeOne f x1 x2 = (up2 f 0 (ix ((x1 + 3) + x2)) 0) := (if_pos c_30).trans ((if_pos c_60).trans ((if_pos c_79)))
        exact e_wv hx hb hr hlk hK hP hD hS dX6_judgeOne_137 (congrArg (fun z => (MW cI h a z ++ X)) hρ).symm
      have c_79 : ¬ ((f 0 (ix ((x1 + 9) + x2))) ≤ 0) := c_79
      refine lv_iconst (v := 1) hx hb dX6_judgeOne_82 (by decide) ?_
      refine lv_goto (tgt := 87) hx hb dX6_judgeOne_83 (by decide) ?_
      refine st_M0 (x := 1) hx hb hK hP hD hS (vin3 (by assumption) (by assumption) (by decide)) dX6_judgeOne_87 (fun H locs hP hD hS => ?_)
      refine lv_goto (tgt := 137) hx hb dX6_judgeOne_88 (by decide) ?_
      have hρ : kX6_judgeOne f x1 x2 = (up2 f 0 (ix ((x1 + 3) + x2)) 1) := (if_pos c_30).trans ((if_pos c_60).trans ((if_neg c_79)))
      exact e_wv hx hb hr hlk hK hP hD hS dX6_judgeOne_137 (congrArg (fun z => (MW cI h a z ++ X)) hρ).symm
    have c_60 : ¬ ((f 0 (ix ((x1 + 3) + x2))) = 0) := c_60
    refine lv_iload_n hx hb dX6_judgeOne_63 rfl (lv_at hl 1 rfl) ?_
    refine lv_iconst (v := 1) hx hb dX6_judgeOne_64 (by decide) ?_
    refine lv_icmp_ne (tgt := 91) hx hb dX6_judgeOne_65 (by decide) (fun c_65 => ?_) (fun c_65 => ?_)
    · have c_65 : ¬ ((f 0 (ix ((x1 + 3) + x2))) = 1) := c_65
      refine lv_iload_n hx hb dX6_judgeOne_91 rfl (lv_at hl 1 rfl) ?_
      refine lv_iconst (v := 3) hx hb dX6_judgeOne_92 (by decide) ?_
      refine lv_icmp_ne (tgt := 137) hx hb dX6_judgeOne_93 (by decide) (fun c_93 => ?_) (fun c_93 => ?_)
      · have c_93 : ¬ ((f 0 (ix ((x1 + 3) + x2))) = 3) := c_93
        have hρ : kX6_judgeOne f x1 x2 = f := (if_pos c_30).trans ((if_neg c_60).trans ((if_neg c_65).trans ((if_neg c_93))))
        exact e_wv hx hb hr hlk hK hP hD hS dX6_judgeOne_137 (congrArg (fun z => (MW cI h a z ++ X)) hρ).symm
      have c_93 : (f 0 (ix ((x1 + 3) + x2))) = 3 := c_93
      refine lv_iload hx hb dX6_judgeOne_96 (lv_at hl 0 rfl) ?_
      refine lv_if_le (tgt := 116) hx hb dX6_judgeOne_98 (by decide) (fun c_98 => ?_) (fun c_98 => ?_)
      · have c_98 : (f 0 (ix ((x1 + 9) + x2))) ≤ 0 := c_98
        refine lv_aload_n hx hb dX6_judgeOne_116 rfl (lv_at hl 2 rfl) ?_
        refine va_get (v := .ref (a 0)) (C := RX6) (T := TX6) (N := 6) (ci := 6) hx hb hts hinX6 hown hK hP 0 rfl rfl 0 (by decide) (hts (.fieldLink RX6 7 "AxleKeeperModel" "w" "[I") (by decide +kernel)) (fun _ h9 => h9) rfl dX6_judgeOne_117 ?_
        refine lv_iload_n hx hb dX6_judgeOne_120 rfl (lv_at hl 3 rfl) ?_
        refine lv_bipush (v := 21) hx hb dX6_judgeOne_121 (by decide) ?_
        refine lv_iadd hx hb dX6_judgeOne_123 ?_
        refine lv_iload_n hx hb dX6_judgeOne_124 rfl (lv_at hl 4 rfl) ?_
        refine lv_iadd hx hb dX6_judgeOne_125 ?_
        refine va_iald hx hb hK hP 1 0 rfl rfl (n := 1680) (vin3 (by assumption) (by assumption) (by decide)) dX6_judgeOne_126 ?_
        refine lv_iconst (v := 1) hx hb dX6_judgeOne_127 (by decide) ?_
        refine lv_icmp_ne (tgt := 137) hx hb dX6_judgeOne_128 (by decide) (fun c_128 => ?_) (fun c_128 => ?_)
        · have c_128 : ¬ ((f 0 (ix ((x1 + 21) + x2))) = 1) := c_128
          have hρ : kX6_judgeOne f x1 x2 = f := (if_pos c_30).trans ((if_neg c_60).trans ((if_neg c_65).trans ((if_pos c_93).trans ((if_pos c_98).trans ((if_neg c_128))))))
          exact e_wv hx hb hr hlk hK hP hD hS dX6_judgeOne_137 (congrArg (fun z => (MW cI h a z ++ X)) hρ).symm
        have c_128 : (f 0 (ix ((x1 + 21) + x2))) = 1 := c_128
        refine lv_aload_n hx hb dX6_judgeOne_131 rfl (lv_at hl 2 rfl) ?_
        refine lv_iload_n hx hb dX6_judgeOne_132 rfl (lv_at hl 3 rfl) ?_
        refine lv_iload_n hx hb dX6_judgeOne_133 rfl (lv_at hl 4 rfl) ?_
        refine k_wv (As := [.int x1, .int x2]) (rest := []) (bytes := cX6_heal) (C := RX6) S (okX6_heal l D cI cZ cQ h a X f x1 x2 _ (by assumption) (by assumption)) gX6_judgeOne_X6_heal rfl ⟨rfl, rfl⟩ ndX6_heal ⟨Nat.le_of_ble_eq_true rfl, Nat.le_of_ble_eq_true rfl⟩ hK hP hD hS hA 0 rfl rfl rfl hl rfl (Nat.le_of_ble_eq_true rfl) dX6_judgeOne_134 ⟨Nat.zero_le _, Nat.zero_le _⟩ (fun H locs hP hD hS => ?_)
        have hP : va_P D vwCl (MW cI h a (kX6_heal f x1 x2) ++ X) H := hP
        have hD : va_D A (MW cI h a (kX6_heal f x1 x2) ++ X) := hD
        have hρ : kX6_judgeOne f x1 x2 = (kX6_heal f x1 x2) := (if_pos c_30).trans ((if_neg c_60).trans ((if_neg c_65).trans ((if_pos c_93).trans ((if_pos c_98).trans ((if_pos c_128))))))
        exact e_wv hx hb hr hlk hK hP hD hS dX6_judgeOne_137 (congrArg (fun z => (MW cI h a z ++ X)) hρ).symm
      have c_98 : ¬ ((f 0 (ix ((x1 + 9) + x2))) ≤ 0) := c_98
      refine lv_aload_n hx hb dX6_judgeOne_101 rfl (lv_at hl 2 rfl) ?_
      refine va_get (v := .ref (a 0)) (C := RX6) (T := TX6) (N := 6) (ci := 6) hx hb hts hinX6 hown hK hP 0 rfl rfl 0 (by decide) (hts (.fieldLink RX6 7 "AxleKeeperModel" "w" "[I") (by decide +kernel)) (fun _ h9 => h9) rfl dX6_judgeOne_102 ?_
      refine lv_iload_n hx hb dX6_judgeOne_105 rfl (lv_at hl 3 rfl) ?_
      refine lv_bipush (v := 21) hx hb dX6_judgeOne_106 (by decide) ?_
      refine lv_iadd hx hb dX6_judgeOne_108 ?_
      refine lv_iload_n hx hb dX6_judgeOne_109 rfl (lv_at hl 4 rfl) ?_
      refine lv_iadd hx hb dX6_judgeOne_110 ?_
      refine lv_iconst (v := 1) hx hb dX6_judgeOne_111 (by decide) ?_
      refine st_M0 (x := 1) hx hb hK hP hD hS (vin3 (by assumption) (by assumption) (by decide)) dX6_judgeOne_112 (fun H locs hP hD hS => ?_)
      refine lv_goto (tgt := 137) hx hb dX6_judgeOne_113 (by decide) ?_
      have hρ : kX6_judgeOne f x1 x2 = (up2 f 0 (ix ((x1 + 21) + x2)) 1) := (if_pos c_30).trans ((if_neg c_60).trans ((if_neg c_65).trans ((if_pos c_93).trans ((if_neg c_98)))))
      exact e_wv hx hb hr hlk hK hP hD hS dX6_judgeOne_137 (congrArg (fun z => (MW cI h a z ++ X)) hρ).symm
    have c_65 : (f 0 (ix ((x1 + 3) + x2))) = 1 := c_65
    refine lv_aload_n hx hb dX6_judgeOne_68 rfl (lv_at hl 2 rfl) ?_
    refine va_get (v := .ref (a 0)) (C := RX6) (T := TX6) (N := 6) (ci := 6) hx hb hts hinX6 hown hK hP 0 rfl rfl 0 (by decide) (hts (.fieldLink RX6 7 "AxleKeeperModel" "w" "[I") (by decide +kernel)) (fun _ h9 => h9) rfl dX6_judgeOne_69 ?_
    refine lv_iload_n hx hb dX6_judgeOne_72 rfl (lv_at hl 3 rfl) ?_
    refine lv_iconst (v := 3) hx hb dX6_judgeOne_73 (by decide) ?_
    refine lv_iadd hx hb dX6_judgeOne_74 ?_
    refine lv_iload_n hx hb dX6_judgeOne_75 rfl (lv_at hl 4 rfl) ?_
    refine lv_iadd hx hb dX6_judgeOne_76 ?_
    refine lv_iload hx hb dX6_judgeOne_77 (lv_at hl 0 rfl) ?_
    refine lv_if_le (tgt := 86) hx hb dX6_judgeOne_79 (by decide) (fun c_79 => ?_) (fun c_79 => ?_)
    · have c_79 : (f 0 (ix ((x1 + 9) + x2))) ≤ 0 := c_79
      refine lv_iconst (v := 0) hx hb dX6_judgeOne_86 (by decide) ?_
      refine st_M0 (x := 0) hx hb hK hP hD hS (vin3 (by assumption) (by assumption) (by decide)) dX6_judgeOne_87 (fun H locs hP hD hS => ?_)
      refine lv_goto (tgt := 137) hx hb dX6_judgeOne_88 (by decide) ?_
      have hρ : kX6_judgeOne f x1 x2 = (up2 f 0 (ix ((x1 + 3) + x2)) 0) := (if_pos c_30).trans ((if_neg c_60).trans ((if_pos c_65).trans ((if_pos c_79))))
      exact e_wv hx hb hr hlk hK hP hD hS dX6_judgeOne_137 (congrArg (fun z => (MW cI h a z ++ X)) hρ).symm
    have c_79 : ¬ ((f 0 (ix ((x1 + 9) + x2))) ≤ 0) := c_79
    refine lv_iconst (v := 1) hx hb dX6_judgeOne_82 (by decide) ?_
    refine lv_goto (tgt := 87) hx hb dX6_judgeOne_83 (by decide) ?_
    refine st_M0 (x := 1) hx hb hK hP hD hS (vin3 (by assumption) (by assumption) (by decide)) dX6_judgeOne_87 (fun H locs hP hD hS => ?_)
    refine lv_goto (tgt := 137) hx hb dX6_judgeOne_88 (by decide) ?_
    have hρ : kX6_judgeOne f x1 x2 = (up2 f 0 (ix ((x1 + 3) + x2)) 1) := (if_pos c_30).trans ((if_neg c_60).trans ((if_pos c_65).trans ((if_neg c_79))))
    exact e_wv hx hb hr hlk hK hP hD hS dX6_judgeOne_137 (congrArg (fun z => (MW cI h a z ++ X)) hρ).symm
  have c_30 : ¬ ((kX6_isTrouble f x1 x2) = 0) := c_30
  refine lv_aload_n hx hb dX6_judgeOne_33 rfl (lv_at hl 2 rfl) ?_
  refine va_get (v := .ref (a 0)) (C := RX6) (T := TX6) (N := 6) (ci := 6) hx hb hts hinX6 hown hK hP 0 rfl rfl 0 (by decide) (hts (.fieldLink RX6 7 "AxleKeeperModel" "w" "[I") (by decide +kernel)) (fun _ h9 => h9) rfl dX6_judgeOne_34 ?_
  refine lv_iload_n hx hb dX6_judgeOne_37 rfl (lv_at hl 3 rfl) ?_
  refine lv_iconst (v := 3) hx hb dX6_judgeOne_38 (by decide) ?_
  refine lv_iadd hx hb dX6_judgeOne_39 ?_
  refine lv_iload_n hx hb dX6_judgeOne_40 rfl (lv_at hl 4 rfl) ?_
  refine lv_iadd hx hb dX6_judgeOne_41 ?_
  refine lv_iconst (v := 2) hx hb dX6_judgeOne_42 (by decide) ?_
  refine st_M0 (x := 2) hx hb hK hP hD hS (vin3 (by assumption) (by assumption) (by decide)) dX6_judgeOne_43 (fun H locs hP hD hS => ?_)
  refine lv_aload_n hx hb dX6_judgeOne_44 rfl (lv_at hl 2 rfl) ?_
  refine va_get (v := .ref (a 0)) (C := RX6) (T := TX6) (N := 6) (ci := 6) hx hb hts hinX6 hown hK hP 0 rfl rfl 0 (by decide) (hts (.fieldLink RX6 7 "AxleKeeperModel" "w" "[I") (by decide +kernel)) (fun _ h9 => h9) rfl dX6_judgeOne_45 ?_
  refine lv_iload_n hx hb dX6_judgeOne_48 rfl (lv_at hl 3 rfl) ?_
  refine lv_bipush (v := 21) hx hb dX6_judgeOne_49 (by decide) ?_
  refine lv_iadd hx hb dX6_judgeOne_51 ?_
  refine lv_iload_n hx hb dX6_judgeOne_52 rfl (lv_at hl 4 rfl) ?_
  refine lv_iadd hx hb dX6_judgeOne_53 ?_
  refine lv_iconst (v := 0) hx hb dX6_judgeOne_54 (by decide) ?_
  refine st_M0 (x := 0) hx hb hK hP hD hS (vin3 (by assumption) (by assumption) (by decide)) dX6_judgeOne_55 (fun H locs hP hD hS => ?_)
  refine lv_goto (tgt := 137) hx hb dX6_judgeOne_56 (by decide) ?_
  have hρ : kX6_judgeOne f x1 x2 = (up2 (up2 f 0 (ix ((x1 + 3) + x2)) 2) 0 (ix ((x1 + 21) + x2)) 0) := (if_neg c_30)
  exact e_wv hx hb hr hlk hK hP hD hS dX6_judgeOne_137 (congrArg (fun z => (MW cI h a z ++ X)) hρ).symm
theorem ndX6_sweepOver : yX6_sweepOver.cls = RX6 ∧ yX6_sweepOver.cls ≠ "java/lang/invoke/MethodHandle" ∧ yX6_sweepOver.cls ≠ "java/lang/invoke/VarHandle" ∧ (parseMethodDescriptor yX6_sweepOver.desc).map (fun d => d.parameters.length) = some 2 := by decide +kernel
set_option maxHeartbeats 4000000 in
set_option maxRecDepth 100000 in
theorem okX6_sweepOver (l : Launch) (D : va_G) (cI cZ cQ : ClassId) (h : Nat) (a : Nat → Nat) (X : va_W) (f : Nat → Nat → Int32) (x1 x2 : Int32) (sz : Nat) (hok : okM f) (h1 : vp_in x1 1597) (h2 : vp_in x2 7) (h3 : ¬ kX6_isJoint f x2 = 0) : Met l yX6_sweepOver wsX6_sweepOver ({ frames := 2, cells := 0, slots := 0, locals := 44 }) (PW [.ref h, .int x1, .int x2] sz D (TY cI cZ cQ) (MW cI h a f ++ X)) (QV D (TY cI cZ cQ) (MW cI h a (kX6_sweepOver f x1 x2) ++ X) (va_A (MW cI h a f ++ X) sz)) 0 0 (va_A (MW cI h a f ++ X) sz) := by
  refine m_wr (cc := cX6_sweepOver) (maxL := 6) (ret := none) (by decide) rfl (Nat.le_of_ble_eq_true rfl) (lv0 := [(0, .ref h), (1, .int x1), (2, .int x2)]) rfl ?_
  intro p e s m below meth c ls A hAe S hr hlk hP hK hD hS hA hl
  rw [← hAe]
  have S : CallFix p m c cX6_sweepOver 6 s ([.ref h, .int x1, .int x2] : List Value).toArray wsX6_sweepOver RX6 := S
  have hx := S.1
  have hb := S.2.1
  have hown : s.vm.findClass RX6 = some m.cls := S.2.2.2.1
  have hts := S.2.2.2.2
  have hinX6 : ∀ w ∈ wsX60, w ∈ wsX6_sweepOver := by decide +kernel
  have hvl : vp_in (kX6_leftOf f x2) 6 := (mj_in hok h2 h3).1
  have hvr : vp_in (kX6_rightOf f x2) 6 := (mj_in hok h2 h3).2
  refine lv_aload_n hx hb dX6_sweepOver_0 rfl (lv_at hl 0 rfl) ?_
  refine lv_iload_n hx hb dX6_sweepOver_1 rfl (lv_at hl 2 rfl) ?_
  refine k_rd (As := [.int x2]) (rest := []) (bytes := cX6_leftOf) (C := RX6) S (okX6_leftOf l D cI cZ cQ h a X f x2) gX6_sweepOver_X6_leftOf rfl ⟨rfl, rfl⟩ ndX6_leftOf ⟨Nat.le_of_ble_eq_true rfl, Nat.le_of_ble_eq_true rfl⟩ hK hP 0 rfl rfl rfl hl rfl (Nat.le_of_ble_eq_true rfl) dX6_sweepOver_2 ⟨Nat.zero_le _, Nat.zero_le _⟩ ?_
  refine lv_istore_n (lv' := [(3, .int (kX6_leftOf f x2)), (0, .ref h), (1, .int x1), (2, .int x2)]) hx hb dX6_sweepOver_5 rfl hl (by decide) rfl (fun ls hl => ?_)
  refine lv_aload_n hx hb dX6_sweepOver_6 rfl (lv_at hl 1 rfl) ?_
  refine lv_iload_n hx hb dX6_sweepOver_7 rfl (lv_at hl 3 rfl) ?_
  refine k_rd (As := [.int x2]) (rest := []) (bytes := cX6_rightOf) (C := RX6) S (okX6_rightOf l D cI cZ cQ h a X f x2) gX6_sweepOver_X6_rightOf rfl ⟨rfl, rfl⟩ ndX6_rightOf ⟨Nat.le_of_ble_eq_true rfl, Nat.le_of_ble_eq_true rfl⟩ hK hP 0 rfl rfl rfl hl rfl (Nat.le_of_ble_eq_true rfl) dX6_sweepOver_8 ⟨Nat.zero_le _, Nat.zero_le _⟩ ?_
  refine lv_istore (lv' := [(4, .int (kX6_rightOf f x2)), (3, .int (kX6_leftOf f x2)), (0, .ref h), (1, .int x1), (2, .int x2)]) hx hb dX6_sweepOver_11 hl (by decide) rfl (fun ls hl => ?_)
  refine lv_aload_n hx hb dX6_sweepOver_13 rfl (lv_at hl 2 rfl) ?_
  refine va_get (v := .ref (a 0)) (C := RX6) (T := TX6) (N := 6) (ci := 6) hx hb hts hinX6 hown hK hP 0 rfl rfl 0 (by decide) (hts (.fieldLink RX6 7 "AxleKeeperModel" "w" "[I") (by decide +kernel)) (fun _ h9 => h9) rfl dX6_sweepOver_14 ?_
  refine lv_iload_n hx hb dX6_sweepOver_17 rfl (lv_at hl 3 rfl) ?_
  refine lv_iconst (v := 3) hx hb dX6_sweepOver_18 (by decide) ?_
  refine lv_iadd hx hb dX6_sweepOver_19 ?_
  refine lv_iload_n hx hb dX6_sweepOver_20 rfl (lv_at hl 1 rfl) ?_
  refine lv_iadd hx hb dX6_sweepOver_21 ?_
  refine va_iald hx hb hK hP 1 0 rfl rfl (n := 1680) (vin3 (by assumption) (by assumption) (by decide)) dX6_sweepOver_22 ?_
  refine lv_iconst (v := 2) hx hb dX6_sweepOver_23 (by decide) ?_
  refine lv_icmp_eq (tgt := 55) hx hb dX6_sweepOver_24 (by decide) (fun c_24 => ?_) (fun c_24 => ?_)
  · have c_24 : (f 0 (ix ((x1 + 3) + (kX6_leftOf f x2)))) = 2 := c_24
    refine lv_aload_n hx hb dX6_sweepOver_55 rfl (lv_at hl 2 rfl) ?_
    refine va_get (v := .ref (a 0)) (C := RX6) (T := TX6) (N := 6) (ci := 6) hx hb hts hinX6 hown hK hP 0 rfl rfl 0 (by decide) (hts (.fieldLink RX6 7 "AxleKeeperModel" "w" "[I") (by decide +kernel)) (fun _ h9 => h9) rfl dX6_sweepOver_56 ?_
    refine lv_iload_n hx hb dX6_sweepOver_59 rfl (lv_at hl 3 rfl) ?_
    refine lv_bipush (v := 9) hx hb dX6_sweepOver_60 (by decide) ?_
    refine lv_iadd hx hb dX6_sweepOver_62 ?_
    refine lv_iload_n hx hb dX6_sweepOver_63 rfl (lv_at hl 1 rfl) ?_
    refine lv_iadd hx hb dX6_sweepOver_64 ?_
    refine va_iald hx hb hK hP 1 0 rfl rfl (n := 1680) (vin3 (by assumption) (by assumption) (by decide)) dX6_sweepOver_65 ?_
    refine lv_aload_n hx hb dX6_sweepOver_66 rfl (lv_at hl 2 rfl) ?_
    refine va_get (v := .ref (a 0)) (C := RX6) (T := TX6) (N := 6) (ci := 6) hx hb hts hinX6 hown hK hP 0 rfl rfl 0 (by decide) (hts (.fieldLink RX6 7 "AxleKeeperModel" "w" "[I") (by decide +kernel)) (fun _ h9 => h9) rfl dX6_sweepOver_67 ?_
    refine lv_iload_n hx hb dX6_sweepOver_70 rfl (lv_at hl 3 rfl) ?_
    refine lv_bipush (v := 9) hx hb dX6_sweepOver_71 (by decide) ?_
    refine lv_iadd hx hb dX6_sweepOver_73 ?_
    refine lv_iload hx hb dX6_sweepOver_74 (lv_at hl 0 rfl) ?_
    refine lv_iadd hx hb dX6_sweepOver_76 ?_
    refine va_iald hx hb hK hP 1 0 rfl rfl (n := 1680) (vin3 (by assumption) (by assumption) (by decide)) dX6_sweepOver_77 ?_
    refine lv_iadd hx hb dX6_sweepOver_78 ?_
    refine lv_istore (lv' := [(5, .int ((f 0 (ix ((x1 + 9) + (kX6_leftOf f x2)))) + (f 0 (ix ((x1 + 9) + (kX6_rightOf f x2)))))), (4, .int (kX6_rightOf f x2)), (3, .int (kX6_leftOf f x2)), (0, .ref h), (1, .int x1), (2, .int x2)]) hx hb dX6_sweepOver_79 hl (by decide) rfl (fun ls hl => ?_)
    refine lv_iload hx hb dX6_sweepOver_81 (lv_at hl 0 rfl) ?_
    refine lv_if_le (tgt := 101) hx hb dX6_sweepOver_83 (by decide) (fun c_83 => ?_) (fun c_83 => ?_)
    · have c_83 : ((f 0 (ix ((x1 + 9) + (kX6_leftOf f x2)))) + (f 0 (ix ((x1 + 9) + (kX6_rightOf f x2))))) ≤ 0 := c_83
      refine lv_iload hx hb dX6_sweepOver_101 (lv_at hl 0 rfl) ?_
      refine lv_if_ne (tgt := 165) hx hb dX6_sweepOver_103 (by decide) (fun c_103 => ?_) (fun c_103 => ?_)
      · have c_103 : ¬ (((f 0 (ix ((x1 + 9) + (kX6_leftOf f x2)))) + (f 0 (ix ((x1 + 9) + (kX6_rightOf f x2))))) = 0) := c_103
        have hρ : kX6_sweepOver f x1 x2 = f := (if_pos c_24).trans ((if_pos c_83).trans ((if_neg c_103)))
        exact e_wv hx hb hr hlk hK hP hD hS dX6_sweepOver_165 (congrArg (fun z => (MW cI h a z ++ X)) hρ).symm
      have c_103 : ((f 0 (ix ((x1 + 9) + (kX6_leftOf f x2)))) + (f 0 (ix ((x1 + 9) + (kX6_rightOf f x2))))) = 0 := c_103
      refine lv_aload_n hx hb dX6_sweepOver_106 rfl (lv_at hl 3 rfl) ?_
      refine va_get (v := .ref (a 0)) (C := RX6) (T := TX6) (N := 6) (ci := 6) hx hb hts hinX6 hown hK hP 0 rfl rfl 0 (by decide) (hts (.fieldLink RX6 7 "AxleKeeperModel" "w" "[I") (by decide +kernel)) (fun _ h9 => h9) rfl dX6_sweepOver_107 ?_
      refine lv_iload_n hx hb dX6_sweepOver_110 rfl (lv_at hl 4 rfl) ?_
      refine lv_bipush (v := 76) hx hb dX6_sweepOver_111 (by decide) ?_
      refine lv_iadd hx hb dX6_sweepOver_113 ?_
      refine lv_iload_n hx hb dX6_sweepOver_114 rfl (lv_at hl 5 rfl) ?_
      refine lv_iadd hx hb dX6_sweepOver_115 ?_
      refine va_iald hx hb hK hP 1 0 rfl rfl (n := 1680) (vin3 (by assumption) (by assumption) (by decide)) dX6_sweepOver_116 ?_
      refine lv_iconst (v := 1) hx hb dX6_sweepOver_117 (by decide) ?_
      refine lv_icmp_ne (tgt := 165) hx hb dX6_sweepOver_118 (by decide) (fun c_118 => ?_) (fun c_118 => ?_)
      · have c_118 : ¬ ((f 0 (ix ((x1 + 76) + x2))) = 1) := c_118
        have hρ : kX6_sweepOver f x1 x2 = f := (if_pos c_24).trans ((if_pos c_83).trans ((if_pos c_103).trans ((if_neg c_118))))
        exact e_wv hx hb hr hlk hK hP hD hS dX6_sweepOver_165 (congrArg (fun z => (MW cI h a z ++ X)) hρ).symm
      have c_118 : (f 0 (ix ((x1 + 76) + x2))) = 1 := c_118
      refine lv_aload_n hx hb dX6_sweepOver_121 rfl (lv_at hl 3 rfl) ?_
      refine lv_iload_n hx hb dX6_sweepOver_122 rfl (lv_at hl 4 rfl) ?_
      refine lv_iload_n hx hb dX6_sweepOver_123 rfl (lv_at hl 2 rfl) ?_
      refine k_rd (As := [.int x1, .int (kX6_leftOf f x2)]) (rest := []) (bytes := cX6_hasBad) (C := RX6) S (okX6_hasBad l D cI cZ cQ h a X f x1 (kX6_leftOf f x2) hok h1 (mj_in hok h2 h3).1) gX6_sweepOver_X6_hasBad rfl ⟨rfl, rfl⟩ ndX6_hasBad ⟨Nat.le_of_ble_eq_true rfl, Nat.le_of_ble_eq_true rfl⟩ hK hP 0 rfl rfl rfl hl rfl (Nat.le_of_ble_eq_true rfl) dX6_sweepOver_124 ⟨Nat.zero_le _, Nat.zero_le _⟩ ?_
      refine lv_if_ne (tgt := 165) hx hb dX6_sweepOver_127 (by decide) (fun c_127 => ?_) (fun c_127 => ?_)
      · have c_127 : ¬ ((kX6_hasBad f x1 (kX6_leftOf f x2)) = 0) := c_127
        have hρ : kX6_sweepOver f x1 x2 = f := (if_pos c_24).trans ((if_pos c_83).trans ((if_pos c_103).trans ((if_pos c_118).trans ((if_neg c_127)))))
        exact e_wv hx hb hr hlk hK hP hD hS dX6_sweepOver_165 (congrArg (fun z => (MW cI h a z ++ X)) hρ).symm
      have c_127 : (kX6_hasBad f x1 (kX6_leftOf f x2)) = 0 := c_127
      refine lv_aload_n hx hb dX6_sweepOver_130 rfl (lv_at hl 3 rfl) ?_
      refine lv_iload_n hx hb dX6_sweepOver_131 rfl (lv_at hl 4 rfl) ?_
      refine lv_iload hx hb dX6_sweepOver_132 (lv_at hl 1 rfl) ?_
      refine k_rd (As := [.int x1, .int (kX6_rightOf f x2)]) (rest := []) (bytes := cX6_hasBad) (C := RX6) S (okX6_hasBad l D cI cZ cQ h a X f x1 (kX6_rightOf f x2) hok h1 (mj_in hok h2 h3).2) gX6_sweepOver_X6_hasBad rfl ⟨rfl, rfl⟩ ndX6_hasBad ⟨Nat.le_of_ble_eq_true rfl, Nat.le_of_ble_eq_true rfl⟩ hK hP 0 rfl rfl rfl hl rfl (Nat.le_of_ble_eq_true rfl) dX6_sweepOver_134 ⟨Nat.zero_le _, Nat.zero_le _⟩ ?_
      refine lv_if_ne (tgt := 165) hx hb dX6_sweepOver_137 (by decide) (fun c_137 => ?_) (fun c_137 => ?_)
      · have c_137 : ¬ ((kX6_hasBad f x1 (kX6_rightOf f x2)) = 0) := c_137
        have hρ : kX6_sweepOver f x1 x2 = f := (if_pos c_24).trans ((if_pos c_83).trans ((if_pos c_103).trans ((if_pos c_118).trans ((if_pos c_127).trans ((if_neg c_137))))))
        exact e_wv hx hb hr hlk hK hP hD hS dX6_sweepOver_165 (congrArg (fun z => (MW cI h a z ++ X)) hρ).symm
      have c_137 : (kX6_hasBad f x1 (kX6_rightOf f x2)) = 0 := c_137
      refine lv_aload_n hx hb dX6_sweepOver_140 rfl (lv_at hl 3 rfl) ?_
      refine lv_iload_n hx hb dX6_sweepOver_141 rfl (lv_at hl 4 rfl) ?_
      refine lv_iload_n hx hb dX6_sweepOver_142 rfl (lv_at hl 2 rfl) ?_
      refine k_wv (As := [.int x1, .int (kX6_leftOf f x2)]) (rest := []) (bytes := cX6_heal) (C := RX6) S (okX6_heal l D cI cZ cQ h a X f x1 (kX6_leftOf f x2) _ h1 (mj_in hok h2 h3).1) gX6_sweepOver_X6_heal rfl ⟨rfl, rfl⟩ ndX6_heal ⟨Nat.le_of_ble_eq_true rfl, Nat.le_of_ble_eq_true rfl⟩ hK hP hD hS hA 0 rfl rfl rfl hl rfl (Nat.le_of_ble_eq_true rfl) dX6_sweepOver_143 ⟨Nat.zero_le _, Nat.zero_le _⟩ (fun H locs hP hD hS => ?_)
      have hP : va_P D vwCl (MW cI h a (kX6_heal f x1 (kX6_leftOf f x2)) ++ X) H := hP
      have hD : va_D A (MW cI h a (kX6_heal f x1 (kX6_leftOf f x2)) ++ X) := hD
      refine lv_aload_n hx hb dX6_sweepOver_146 rfl (lv_at hl 3 rfl) ?_
      refine lv_iload_n hx hb dX6_sweepOver_147 rfl (lv_at hl 4 rfl) ?_
      refine lv_iload hx hb dX6_sweepOver_148 (lv_at hl 1 rfl) ?_
      refine k_wv (As := [.int x1, .int (kX6_rightOf f x2)]) (rest := []) (bytes := cX6_heal) (C := RX6) S (okX6_heal l D cI cZ cQ h a X (kX6_heal f x1 (kX6_leftOf f x2)) x1 (kX6_rightOf f x2) _ h1 (mj_in hok h2 h3).2) gX6_sweepOver_X6_heal rfl ⟨rfl, rfl⟩ ndX6_heal ⟨Nat.le_of_ble_eq_true rfl, Nat.le_of_ble_eq_true rfl⟩ hK hP hD hS hA 0 rfl rfl rfl hl rfl (Nat.le_of_ble_eq_true rfl) dX6_sweepOver_150 ⟨Nat.zero_le _, Nat.zero_le _⟩ (fun H locs hP hD hS => ?_)
      have hP : va_P D vwCl (MW cI h a (kX6_heal (kX6_heal f x1 (kX6_leftOf f x2)) x1 (kX6_rightOf f x2)) ++ X) H := hP
      have hD : va_D A (MW cI h a (kX6_heal (kX6_heal f x1 (kX6_leftOf f x2)) x1 (kX6_rightOf f x2)) ++ X) := hD
      refine lv_aload_n hx hb dX6_sweepOver_153 rfl (lv_at hl 3 rfl) ?_
      refine va_get (v := .ref (a 0)) (C := RX6) (T := TX6) (N := 6) (ci := 6) hx hb hts hinX6 hown hK hP 0 rfl rfl 0 (by decide) (hts (.fieldLink RX6 7 "AxleKeeperModel" "w" "[I") (by decide +kernel)) (fun _ h9 => h9) rfl dX6_sweepOver_154 ?_
      refine lv_iload_n hx hb dX6_sweepOver_157 rfl (lv_at hl 4 rfl) ?_
      refine lv_bipush (v := 76) hx hb dX6_sweepOver_158 (by decide) ?_
      refine lv_iadd hx hb dX6_sweepOver_160 ?_
      refine lv_iload_n hx hb dX6_sweepOver_161 rfl (lv_at hl 5 rfl) ?_
      refine lv_iadd hx hb dX6_sweepOver_162 ?_
      refine lv_iconst (v := 0) hx hb dX6_sweepOver_163 (by decide) ?_
      refine st_M0 (x := 0) hx hb hK hP hD hS (vin3 (by assumption) (by assumption) (by decide)) dX6_sweepOver_164 (fun H locs hP hD hS => ?_)
      have hρ : kX6_sweepOver f x1 x2 = (up2 (kX6_heal (kX6_heal f x1 (kX6_leftOf f x2)) x1 (kX6_rightOf f x2)) 0 (ix ((x1 + 76) + x2)) 0) := (if_pos c_24).trans ((if_pos c_83).trans ((if_pos c_103).trans ((if_pos c_118).trans ((if_pos c_127).trans ((if_pos c_137))))))
      exact e_wv hx hb hr hlk hK hP hD hS dX6_sweepOver_165 (congrArg (fun z => (MW cI h a z ++ X)) hρ).symm
    have c_83 : ¬ (((f 0 (ix ((x1 + 9) + (kX6_leftOf f x2)))) + (f 0 (ix ((x1 + 9) + (kX6_rightOf f x2))))) ≤ 0) := c_83
    refine lv_aload_n hx hb dX6_sweepOver_86 rfl (lv_at hl 3 rfl) ?_
    refine va_get (v := .ref (a 0)) (C := RX6) (T := TX6) (N := 6) (ci := 6) hx hb hts hinX6 hown hK hP 0 rfl rfl 0 (by decide) (hts (.fieldLink RX6 7 "AxleKeeperModel" "w" "[I") (by decide +kernel)) (fun _ h9 => h9) rfl dX6_sweepOver_87 ?_
    refine lv_iload_n hx hb dX6_sweepOver_90 rfl (lv_at hl 4 rfl) ?_
    refine lv_bipush (v := 76) hx hb dX6_sweepOver_91 (by decide) ?_
    refine lv_iadd hx hb dX6_sweepOver_93 ?_
    refine lv_iload_n hx hb dX6_sweepOver_94 rfl (lv_at hl 5 rfl) ?_
    refine lv_iadd hx hb dX6_sweepOver_95 ?_
    refine lv_iconst (v := 1) hx hb dX6_sweepOver_96 (by decide) ?_
    refine st_M0 (x := 1) hx hb hK hP hD hS (vin3 (by assumption) (by assumption) (by decide)) dX6_sweepOver_97 (fun H locs hP hD hS => ?_)
    refine lv_goto (tgt := 165) hx hb dX6_sweepOver_98 (by decide) ?_
    have hρ : kX6_sweepOver f x1 x2 = (up2 f 0 (ix ((x1 + 76) + x2)) 1) := (if_pos c_24).trans ((if_neg c_83))
    exact e_wv hx hb hr hlk hK hP hD hS dX6_sweepOver_165 (congrArg (fun z => (MW cI h a z ++ X)) hρ).symm
  have c_24 : ¬ ((f 0 (ix ((x1 + 3) + (kX6_leftOf f x2)))) = 2) := c_24
  refine lv_aload_n hx hb dX6_sweepOver_27 rfl (lv_at hl 2 rfl) ?_
  refine va_get (v := .ref (a 0)) (C := RX6) (T := TX6) (N := 6) (ci := 6) hx hb hts hinX6 hown hK hP 0 rfl rfl 0 (by decide) (hts (.fieldLink RX6 7 "AxleKeeperModel" "w" "[I") (by decide +kernel)) (fun _ h9 => h9) rfl dX6_sweepOver_28 ?_
  refine lv_iload_n hx hb dX6_sweepOver_31 rfl (lv_at hl 3 rfl) ?_
  refine lv_iconst (v := 3) hx hb dX6_sweepOver_32 (by decide) ?_
  refine lv_iadd hx hb dX6_sweepOver_33 ?_
  refine lv_iload hx hb dX6_sweepOver_34 (lv_at hl 0 rfl) ?_
  refine lv_iadd hx hb dX6_sweepOver_36 ?_
  refine va_iald hx hb hK hP 1 0 rfl rfl (n := 1680) (vin3 (by assumption) (by assumption) (by decide)) dX6_sweepOver_37 ?_
  refine lv_iconst (v := 2) hx hb dX6_sweepOver_38 (by decide) ?_
  refine lv_icmp_eq (tgt := 55) hx hb dX6_sweepOver_39 (by decide) (fun c_39 => ?_) (fun c_39 => ?_)
  · have c_39 : (f 0 (ix ((x1 + 3) + (kX6_rightOf f x2)))) = 2 := c_39
    refine lv_aload_n hx hb dX6_sweepOver_55 rfl (lv_at hl 2 rfl) ?_
    refine va_get (v := .ref (a 0)) (C := RX6) (T := TX6) (N := 6) (ci := 6) hx hb hts hinX6 hown hK hP 0 rfl rfl 0 (by decide) (hts (.fieldLink RX6 7 "AxleKeeperModel" "w" "[I") (by decide +kernel)) (fun _ h9 => h9) rfl dX6_sweepOver_56 ?_
    refine lv_iload_n hx hb dX6_sweepOver_59 rfl (lv_at hl 3 rfl) ?_
    refine lv_bipush (v := 9) hx hb dX6_sweepOver_60 (by decide) ?_
    refine lv_iadd hx hb dX6_sweepOver_62 ?_
    refine lv_iload_n hx hb dX6_sweepOver_63 rfl (lv_at hl 1 rfl) ?_
    refine lv_iadd hx hb dX6_sweepOver_64 ?_
    refine va_iald hx hb hK hP 1 0 rfl rfl (n := 1680) (vin3 (by assumption) (by assumption) (by decide)) dX6_sweepOver_65 ?_
    refine lv_aload_n hx hb dX6_sweepOver_66 rfl (lv_at hl 2 rfl) ?_
    refine va_get (v := .ref (a 0)) (C := RX6) (T := TX6) (N := 6) (ci := 6) hx hb hts hinX6 hown hK hP 0 rfl rfl 0 (by decide) (hts (.fieldLink RX6 7 "AxleKeeperModel" "w" "[I") (by decide +kernel)) (fun _ h9 => h9) rfl dX6_sweepOver_67 ?_
    refine lv_iload_n hx hb dX6_sweepOver_70 rfl (lv_at hl 3 rfl) ?_
    refine lv_bipush (v := 9) hx hb dX6_sweepOver_71 (by decide) ?_
    refine lv_iadd hx hb dX6_sweepOver_73 ?_
    refine lv_iload hx hb dX6_sweepOver_74 (lv_at hl 0 rfl) ?_
    refine lv_iadd hx hb dX6_sweepOver_76 ?_
    refine va_iald hx hb hK hP 1 0 rfl rfl (n := 1680) (vin3 (by assumption) (by assumption) (by decide)) dX6_sweepOver_77 ?_
    refine lv_iadd hx hb dX6_sweepOver_78 ?_
    refine lv_istore (lv' := [(5, .int ((f 0 (ix ((x1 + 9) + (kX6_leftOf f x2)))) + (f 0 (ix ((x1 + 9) + (kX6_rightOf f x2)))))), (4, .int (kX6_rightOf f x2)), (3, .int (kX6_leftOf f x2)), (0, .ref h), (1, .int x1), (2, .int x2)]) hx hb dX6_sweepOver_79 hl (by decide) rfl (fun ls hl => ?_)
    refine lv_iload hx hb dX6_sweepOver_81 (lv_at hl 0 rfl) ?_
    refine lv_if_le (tgt := 101) hx hb dX6_sweepOver_83 (by decide) (fun c_83 => ?_) (fun c_83 => ?_)
    · have c_83 : ((f 0 (ix ((x1 + 9) + (kX6_leftOf f x2)))) + (f 0 (ix ((x1 + 9) + (kX6_rightOf f x2))))) ≤ 0 := c_83
      refine lv_iload hx hb dX6_sweepOver_101 (lv_at hl 0 rfl) ?_
      refine lv_if_ne (tgt := 165) hx hb dX6_sweepOver_103 (by decide) (fun c_103 => ?_) (fun c_103 => ?_)
      · have c_103 : ¬ (((f 0 (ix ((x1 + 9) + (kX6_leftOf f x2)))) + (f 0 (ix ((x1 + 9) + (kX6_rightOf f x2))))) = 0) := c_103
        have hρ : kX6_sweepOver f x1 x2 = f := (if_neg c_24).trans ((if_pos c_39).trans ((if_pos c_83).trans ((if_neg c_103))))
        exact e_wv hx hb hr hlk hK hP hD hS dX6_sweepOver_165 (congrArg (fun z => (MW cI h a z ++ X)) hρ).symm
      have c_103 : ((f 0 (ix ((x1 + 9) + (kX6_leftOf f x2)))) + (f 0 (ix ((x1 + 9) + (kX6_rightOf f x2))))) = 0 := c_103
      refine lv_aload_n hx hb dX6_sweepOver_106 rfl (lv_at hl 3 rfl) ?_
      refine va_get (v := .ref (a 0)) (C := RX6) (T := TX6) (N := 6) (ci := 6) hx hb hts hinX6 hown hK hP 0 rfl rfl 0 (by decide) (hts (.fieldLink RX6 7 "AxleKeeperModel" "w" "[I") (by decide +kernel)) (fun _ h9 => h9) rfl dX6_sweepOver_107 ?_
      refine lv_iload_n hx hb dX6_sweepOver_110 rfl (lv_at hl 4 rfl) ?_
      refine lv_bipush (v := 76) hx hb dX6_sweepOver_111 (by decide) ?_
      refine lv_iadd hx hb dX6_sweepOver_113 ?_
      refine lv_iload_n hx hb dX6_sweepOver_114 rfl (lv_at hl 5 rfl) ?_
      refine lv_iadd hx hb dX6_sweepOver_115 ?_
      refine va_iald hx hb hK hP 1 0 rfl rfl (n := 1680) (vin3 (by assumption) (by assumption) (by decide)) dX6_sweepOver_116 ?_
      refine lv_iconst (v := 1) hx hb dX6_sweepOver_117 (by decide) ?_
      refine lv_icmp_ne (tgt := 165) hx hb dX6_sweepOver_118 (by decide) (fun c_118 => ?_) (fun c_118 => ?_)
      · have c_118 : ¬ ((f 0 (ix ((x1 + 76) + x2))) = 1) := c_118
        have hρ : kX6_sweepOver f x1 x2 = f := (if_neg c_24).trans ((if_pos c_39).trans ((if_pos c_83).trans ((if_pos c_103).trans ((if_neg c_118)))))
        exact e_wv hx hb hr hlk hK hP hD hS dX6_sweepOver_165 (congrArg (fun z => (MW cI h a z ++ X)) hρ).symm
      have c_118 : (f 0 (ix ((x1 + 76) + x2))) = 1 := c_118
      refine lv_aload_n hx hb dX6_sweepOver_121 rfl (lv_at hl 3 rfl) ?_
      refine lv_iload_n hx hb dX6_sweepOver_122 rfl (lv_at hl 4 rfl) ?_
      refine lv_iload_n hx hb dX6_sweepOver_123 rfl (lv_at hl 2 rfl) ?_
      refine k_rd (As := [.int x1, .int (kX6_leftOf f x2)]) (rest := []) (bytes := cX6_hasBad) (C := RX6) S (okX6_hasBad l D cI cZ cQ h a X f x1 (kX6_leftOf f x2) hok h1 (mj_in hok h2 h3).1) gX6_sweepOver_X6_hasBad rfl ⟨rfl, rfl⟩ ndX6_hasBad ⟨Nat.le_of_ble_eq_true rfl, Nat.le_of_ble_eq_true rfl⟩ hK hP 0 rfl rfl rfl hl rfl (Nat.le_of_ble_eq_true rfl) dX6_sweepOver_124 ⟨Nat.zero_le _, Nat.zero_le _⟩ ?_
      refine lv_if_ne (tgt := 165) hx hb dX6_sweepOver_127 (by decide) (fun c_127 => ?_) (fun c_127 => ?_)
      · have c_127 : ¬ ((kX6_hasBad f x1 (kX6_leftOf f x2)) = 0) := c_127
        have hρ : kX6_sweepOver f x1 x2 = f := (if_neg c_24).trans ((if_pos c_39).trans ((if_pos c_83).trans ((if_pos c_103).trans ((if_pos c_118).trans ((if_neg c_127))))))
        exact e_wv hx hb hr hlk hK hP hD hS dX6_sweepOver_165 (congrArg (fun z => (MW cI h a z ++ X)) hρ).symm
      have c_127 : (kX6_hasBad f x1 (kX6_leftOf f x2)) = 0 := c_127
      refine lv_aload_n hx hb dX6_sweepOver_130 rfl (lv_at hl 3 rfl) ?_
      refine lv_iload_n hx hb dX6_sweepOver_131 rfl (lv_at hl 4 rfl) ?_
      refine lv_iload hx hb dX6_sweepOver_132 (lv_at hl 1 rfl) ?_
      refine k_rd (As := [.int x1, .int (kX6_rightOf f x2)]) (rest := []) (bytes := cX6_hasBad) (C := RX6) S (okX6_hasBad l D cI cZ cQ h a X f x1 (kX6_rightOf f x2) hok h1 (mj_in hok h2 h3).2) gX6_sweepOver_X6_hasBad rfl ⟨rfl, rfl⟩ ndX6_hasBad ⟨Nat.le_of_ble_eq_true rfl, Nat.le_of_ble_eq_true rfl⟩ hK hP 0 rfl rfl rfl hl rfl (Nat.le_of_ble_eq_true rfl) dX6_sweepOver_134 ⟨Nat.zero_le _, Nat.zero_le _⟩ ?_
      refine lv_if_ne (tgt := 165) hx hb dX6_sweepOver_137 (by decide) (fun c_137 => ?_) (fun c_137 => ?_)
      · have c_137 : ¬ ((kX6_hasBad f x1 (kX6_rightOf f x2)) = 0) := c_137
        have hρ : kX6_sweepOver f x1 x2 = f := (if_neg c_24).trans ((if_pos c_39).trans ((if_pos c_83).trans ((if_pos c_103).trans ((if_pos c_118).trans ((if_pos c_127).trans ((if_neg c_137)))))))
        exact e_wv hx hb hr hlk hK hP hD hS dX6_sweepOver_165 (congrArg (fun z => (MW cI h a z ++ X)) hρ).symm
      have c_137 : (kX6_hasBad f x1 (kX6_rightOf f x2)) = 0 := c_137
      refine lv_aload_n hx hb dX6_sweepOver_140 rfl (lv_at hl 3 rfl) ?_
      refine lv_iload_n hx hb dX6_sweepOver_141 rfl (lv_at hl 4 rfl) ?_
      refine lv_iload_n hx hb dX6_sweepOver_142 rfl (lv_at hl 2 rfl) ?_
      refine k_wv (As := [.int x1, .int (kX6_leftOf f x2)]) (rest := []) (bytes := cX6_heal) (C := RX6) S (okX6_heal l D cI cZ cQ h a X f x1 (kX6_leftOf f x2) _ h1 (mj_in hok h2 h3).1) gX6_sweepOver_X6_heal rfl ⟨rfl, rfl⟩ ndX6_heal ⟨Nat.le_of_ble_eq_true rfl, Nat.le_of_ble_eq_true rfl⟩ hK hP hD hS hA 0 rfl rfl rfl hl rfl (Nat.le_of_ble_eq_true rfl) dX6_sweepOver_143 ⟨Nat.zero_le _, Nat.zero_le _⟩ (fun H locs hP hD hS => ?_)
      have hP : va_P D vwCl (MW cI h a (kX6_heal f x1 (kX6_leftOf f x2)) ++ X) H := hP
      have hD : va_D A (MW cI h a (kX6_heal f x1 (kX6_leftOf f x2)) ++ X) := hD
      refine lv_aload_n hx hb dX6_sweepOver_146 rfl (lv_at hl 3 rfl) ?_
      refine lv_iload_n hx hb dX6_sweepOver_147 rfl (lv_at hl 4 rfl) ?_
      refine lv_iload hx hb dX6_sweepOver_148 (lv_at hl 1 rfl) ?_
      refine k_wv (As := [.int x1, .int (kX6_rightOf f x2)]) (rest := []) (bytes := cX6_heal) (C := RX6) S (okX6_heal l D cI cZ cQ h a X (kX6_heal f x1 (kX6_leftOf f x2)) x1 (kX6_rightOf f x2) _ h1 (mj_in hok h2 h3).2) gX6_sweepOver_X6_heal rfl ⟨rfl, rfl⟩ ndX6_heal ⟨Nat.le_of_ble_eq_true rfl, Nat.le_of_ble_eq_true rfl⟩ hK hP hD hS hA 0 rfl rfl rfl hl rfl (Nat.le_of_ble_eq_true rfl) dX6_sweepOver_150 ⟨Nat.zero_le _, Nat.zero_le _⟩ (fun H locs hP hD hS => ?_)
      have hP : va_P D vwCl (MW cI h a (kX6_heal (kX6_heal f x1 (kX6_leftOf f x2)) x1 (kX6_rightOf f x2)) ++ X) H := hP
      have hD : va_D A (MW cI h a (kX6_heal (kX6_heal f x1 (kX6_leftOf f x2)) x1 (kX6_rightOf f x2)) ++ X) := hD
      refine lv_aload_n hx hb dX6_sweepOver_153 rfl (lv_at hl 3 rfl) ?_
      refine va_get (v := .ref (a 0)) (C := RX6) (T := TX6) (N := 6) (ci := 6) hx hb hts hinX6 hown hK hP 0 rfl rfl 0 (by decide) (hts (.fieldLink RX6 7 "AxleKeeperModel" "w" "[I") (by decide +kernel)) (fun _ h9 => h9) rfl dX6_sweepOver_154 ?_
      refine lv_iload_n hx hb dX6_sweepOver_157 rfl (lv_at hl 4 rfl) ?_
      refine lv_bipush (v := 76) hx hb dX6_sweepOver_158 (by decide) ?_
      refine lv_iadd hx hb dX6_sweepOver_160 ?_
      refine lv_iload_n hx hb dX6_sweepOver_161 rfl (lv_at hl 5 rfl) ?_
      refine lv_iadd hx hb dX6_sweepOver_162 ?_
      refine lv_iconst (v := 0) hx hb dX6_sweepOver_163 (by decide) ?_
      refine st_M0 (x := 0) hx hb hK hP hD hS (vin3 (by assumption) (by assumption) (by decide)) dX6_sweepOver_164 (fun H locs hP hD hS => ?_)
      have hρ : kX6_sweepOver f x1 x2 = (up2 (kX6_heal (kX6_heal f x1 (kX6_leftOf f x2)) x1 (kX6_rightOf f x2)) 0 (ix ((x1 + 76) + x2)) 0) := (if_neg c_24).trans ((if_pos c_39).trans ((if_pos c_83).trans ((if_pos c_103).trans ((if_pos c_118).trans ((if_pos c_127).trans ((if_pos c_137)))))))
      exact e_wv hx hb hr hlk hK hP hD hS dX6_sweepOver_165 (congrArg (fun z => (MW cI h a z ++ X)) hρ).symm
    have c_83 : ¬ (((f 0 (ix ((x1 + 9) + (kX6_leftOf f x2)))) + (f 0 (ix ((x1 + 9) + (kX6_rightOf f x2))))) ≤ 0) := c_83
    refine lv_aload_n hx hb dX6_sweepOver_86 rfl (lv_at hl 3 rfl) ?_
    refine va_get (v := .ref (a 0)) (C := RX6) (T := TX6) (N := 6) (ci := 6) hx hb hts hinX6 hown hK hP 0 rfl rfl 0 (by decide) (hts (.fieldLink RX6 7 "AxleKeeperModel" "w" "[I") (by decide +kernel)) (fun _ h9 => h9) rfl dX6_sweepOver_87 ?_
    refine lv_iload_n hx hb dX6_sweepOver_90 rfl (lv_at hl 4 rfl) ?_
    refine lv_bipush (v := 76) hx hb dX6_sweepOver_91 (by decide) ?_
    refine lv_iadd hx hb dX6_sweepOver_93 ?_
    refine lv_iload_n hx hb dX6_sweepOver_94 rfl (lv_at hl 5 rfl) ?_
    refine lv_iadd hx hb dX6_sweepOver_95 ?_
    refine lv_iconst (v := 1) hx hb dX6_sweepOver_96 (by decide) ?_
    refine st_M0 (x := 1) hx hb hK hP hD hS (vin3 (by assumption) (by assumption) (by decide)) dX6_sweepOver_97 (fun H locs hP hD hS => ?_)
    refine lv_goto (tgt := 165) hx hb dX6_sweepOver_98 (by decide) ?_
    have hρ : kX6_sweepOver f x1 x2 = (up2 f 0 (ix ((x1 + 76) + x2)) 1) := (if_neg c_24).trans ((if_pos c_39).trans ((if_neg c_83)))
    exact e_wv hx hb hr hlk hK hP hD hS dX6_sweepOver_165 (congrArg (fun z => (MW cI h a z ++ X)) hρ).symm
  have c_39 : ¬ ((f 0 (ix ((x1 + 3) + (kX6_rightOf f x2)))) = 2) := c_39
  refine lv_aload_n hx hb dX6_sweepOver_42 rfl (lv_at hl 2 rfl) ?_
  refine va_get (v := .ref (a 0)) (C := RX6) (T := TX6) (N := 6) (ci := 6) hx hb hts hinX6 hown hK hP 0 rfl rfl 0 (by decide) (hts (.fieldLink RX6 7 "AxleKeeperModel" "w" "[I") (by decide +kernel)) (fun _ h9 => h9) rfl dX6_sweepOver_43 ?_
  refine lv_iload_n hx hb dX6_sweepOver_46 rfl (lv_at hl 3 rfl) ?_
  refine lv_bipush (v := 76) hx hb dX6_sweepOver_47 (by decide) ?_
  refine lv_iadd hx hb dX6_sweepOver_49 ?_
  refine lv_iload_n hx hb dX6_sweepOver_50 rfl (lv_at hl 4 rfl) ?_
  refine lv_iadd hx hb dX6_sweepOver_51 ?_
  refine lv_iconst (v := 0) hx hb dX6_sweepOver_52 (by decide) ?_
  refine st_M0 (x := 0) hx hb hK hP hD hS (vin3 (by assumption) (by assumption) (by decide)) dX6_sweepOver_53 (fun H locs hP hD hS => ?_)
  have hρ : kX6_sweepOver f x1 x2 = (up2 f 0 (ix ((x1 + 76) + x2)) 0) := (if_neg c_24).trans ((if_neg c_39))
  exact e_wv hx hb hr hlk hK hP hD hS dX6_sweepOver_54 (congrArg (fun z => (MW cI h a z ++ X)) hρ).symm
theorem ndX6_tickIn : yX6_tickIn.cls = RX6 ∧ yX6_tickIn.cls ≠ "java/lang/invoke/MethodHandle" ∧ yX6_tickIn.cls ≠ "java/lang/invoke/VarHandle" ∧ (parseMethodDescriptor yX6_tickIn.desc).map (fun d => d.parameters.length) = some 2 := by decide +kernel
set_option maxHeartbeats 4000000 in
set_option maxRecDepth 100000 in
theorem lpX6_tickIn_53 {p : Program} {e : Env} {s : State} {m : MethodId} {below : List Frame} {meth : Method} {c : Code} (l : Launch) (D : va_G) (cI cZ cQ : ClassId) (h : Nat) (a : Nat → Nat) (X : va_W) (x1 x2 : Int32) (A : Nat → Prop) (hA : ∀ q, s.heap.size ≤ q → A q) (S : CallFix p m c cX6_tickIn 4 s ([.ref h, .int x1, .int x2] : List Value).toArray wsX6_tickIn RX6) (hr : meth.sig.returnType = none) (hlk : meth.locks = false) (hK : va_K D vwCl (TY cI cZ cQ) s) (h1 : vp_in x1 1597) : ∀ (n i : Nat) (f : Nat → Nat → Int32) (H : Heap) (locs : List Loc), i ≤ 7 → 7 - i < n → (hok : okM f) → va_P D vwCl (MW cI h a f ++ X) H → va_D A (MW cI h a f ++ X) → va_S A s.heap H locs → ∀ {ls : Array Slot}, lv_has ls 4 [(0, .ref h), (1, .int x1), (2, .int x2), (3, .int (nI i))] → ∀ ρ : (Nat → Nat → Int32), ρ = kX6_tickIn_53 x1 x2 n i f → W p l e { frames := 4, cells := 0, slots := 0, locals := 90 } s m ([.ref h, .int x1, .int x2] : List Value).toArray below meth c H locs 0 0 (MQ below (QV D (TY cI cZ cQ) (MW cI h a ρ ++ X) A) ([.ref h, .int x1, .int x2] : List Value).toArray s 0 0 A) (F0 m 53 ls []) := by
  have hx := S.1
  have hb := S.2.1
  have hown : s.vm.findClass RX6 = some m.cls := S.2.2.2.1
  have hts := S.2.2.2.2
  have hinX6 : ∀ w ∈ wsX60, w ∈ wsX6_tickIn := by decide +kernel
  intro n
  induction n with
  | zero =>
    intro i _ _ _ hi hn
    exact absurd hn (Nat.not_lt_zero _)
  | succ n ih =>
    intro i  f H locs hi hn hok hP hD hS ls hl ρ hρ0
    refine lv_iload_n hx hb dX6_tickIn_53 rfl (lv_at hl 3 rfl) ?_
    refine lv_aload_n hx hb dX6_tickIn_54 rfl (lv_at hl 0 rfl) ?_
    refine k_rd (As := []) (rest := [.int (nI i)]) (bytes := cX6_heads) (C := RX6) S (okX6_heads l D cI cZ cQ h a X f ) gX6_tickIn_X6_heads rfl ⟨rfl, rfl⟩ ndX6_heads ⟨Nat.le_of_ble_eq_true rfl, Nat.le_of_ble_eq_true rfl⟩ hK hP 0 rfl rfl rfl hl rfl (Nat.le_of_ble_eq_true rfl) dX6_tickIn_55 ⟨Nat.zero_le _, Nat.zero_le _⟩ ?_
    refine lv_icmp_ge (tgt := 81) hx hb dX6_tickIn_58 (by decide) (fun c_58 => ?_) (fun c_58 => ?_)
    · have c_58 : (kX6_heads f) ≤ (nI i) := c_58
      refine lv_aload_n hx hb dX6_tickIn_81 rfl (lv_at hl 0 rfl) ?_
      refine va_get (v := .ref (a 0)) (C := RX6) (T := TX6) (N := 6) (ci := 6) hx hb hts hinX6 hown hK hP 0 rfl rfl 0 (by decide) (hts (.fieldLink RX6 7 "AxleKeeperModel" "w" "[I") (by decide +kernel)) (fun _ h9 => h9) rfl dX6_tickIn_82 ?_
      refine lv_iload_n hx hb dX6_tickIn_85 rfl (lv_at hl 1 rfl) ?_
      refine lv_iconst (v := 2) hx hb dX6_tickIn_86 (by decide) ?_
      refine lv_iadd hx hb dX6_tickIn_87 ?_
      refine lv_aload_n hx hb dX6_tickIn_88 rfl (lv_at hl 0 rfl) ?_
      refine va_get (v := .ref (a 0)) (C := RX6) (T := TX6) (N := 6) (ci := 6) hx hb hts hinX6 hown hK hP 0 rfl rfl 0 (by decide) (hts (.fieldLink RX6 7 "AxleKeeperModel" "w" "[I") (by decide +kernel)) (fun _ h9 => h9) rfl dX6_tickIn_89 ?_
      refine lv_iload_n hx hb dX6_tickIn_92 rfl (lv_at hl 1 rfl) ?_
      refine lv_iconst (v := 2) hx hb dX6_tickIn_93 (by decide) ?_
      refine lv_iadd hx hb dX6_tickIn_94 ?_
      refine va_iald hx hb hK hP 1 0 rfl rfl (n := 1680) (vin1 (by assumption) (by decide)) dX6_tickIn_95 ?_
      refine lv_sipush (v := 9999) hx hb dX6_tickIn_96 (by decide) ?_
      refine lv_icmp_ge (tgt := 115) hx hb dX6_tickIn_99 (by decide) (fun c_99 => ?_) (fun c_99 => ?_)
      · have c_99 : 9999 ≤ (f 0 (ix (x1 + 2))) := c_99
        refine lv_sipush (v := 9999) hx hb dX6_tickIn_115 (by decide) ?_
        refine st_M0 (x := 9999) hx hb hK hP hD hS (vin1 (by assumption) (by decide)) dX6_tickIn_118 (fun H locs hP hD hS => ?_)
        have hρ : kX6_tickIn_53 x1 x2 (n + 1) i f = (up2 f 0 (ix (x1 + 2)) 9999) := (if_pos c_58).trans ((if_pos c_99))
        have hρ := hρ0.trans hρ
        exact e_wv hx hb hr hlk hK hP hD hS dX6_tickIn_119 (congrArg (fun z => (MW cI h a z ++ X)) hρ).symm
      have c_99 : ¬ (9999 ≤ (f 0 (ix (x1 + 2)))) := c_99
      refine lv_aload_n hx hb dX6_tickIn_102 rfl (lv_at hl 0 rfl) ?_
      refine va_get (v := .ref (a 0)) (C := RX6) (T := TX6) (N := 6) (ci := 6) hx hb hts hinX6 hown hK hP 0 rfl rfl 0 (by decide) (hts (.fieldLink RX6 7 "AxleKeeperModel" "w" "[I") (by decide +kernel)) (fun _ h9 => h9) rfl dX6_tickIn_103 ?_
      refine lv_iload_n hx hb dX6_tickIn_106 rfl (lv_at hl 1 rfl) ?_
      refine lv_iconst (v := 2) hx hb dX6_tickIn_107 (by decide) ?_
      refine lv_iadd hx hb dX6_tickIn_108 ?_
      refine va_iald hx hb hK hP 1 0 rfl rfl (n := 1680) (vin1 (by assumption) (by decide)) dX6_tickIn_109 ?_
      refine lv_iconst (v := 1) hx hb dX6_tickIn_110 (by decide) ?_
      refine lv_iadd hx hb dX6_tickIn_111 ?_
      refine lv_goto (tgt := 118) hx hb dX6_tickIn_112 (by decide) ?_
      refine st_M0 (x := ((f 0 (ix (x1 + 2))) + 1)) hx hb hK hP hD hS (vin1 (by assumption) (by decide)) dX6_tickIn_118 (fun H locs hP hD hS => ?_)
      have hρ : kX6_tickIn_53 x1 x2 (n + 1) i f = (up2 f 0 (ix (x1 + 2)) ((f 0 (ix (x1 + 2))) + 1)) := (if_pos c_58).trans ((if_neg c_99))
      have hρ := hρ0.trans hρ
      exact e_wv hx hb hr hlk hK hP hD hS dX6_tickIn_119 (congrArg (fun z => (MW cI h a z ++ X)) hρ).symm
    have c_58 : ¬ ((kX6_heads f) ≤ (nI i)) := c_58
    have hlt : i < 7 := il_lt (mheads_le hok) (by decide) hi c_58
    have hvi : vp_in (nI i) 7 := vp_in_nI hlt (by decide)
    refine lv_aload_n hx hb dX6_tickIn_61 rfl (lv_at hl 0 rfl) ?_
    refine lv_iload_n hx hb dX6_tickIn_62 rfl (lv_at hl 3 rfl) ?_
    refine k_rd (As := [.int (nI i)]) (rest := []) (bytes := cX6_isJoint) (C := RX6) S (okX6_isJoint l D cI cZ cQ h a X f (nI i)) gX6_tickIn_X6_isJoint rfl ⟨rfl, rfl⟩ ndX6_isJoint ⟨Nat.le_of_ble_eq_true rfl, Nat.le_of_ble_eq_true rfl⟩ hK hP 0 rfl rfl rfl hl rfl (Nat.le_of_ble_eq_true rfl) dX6_tickIn_63 ⟨Nat.zero_le _, Nat.zero_le _⟩ ?_
    refine lv_if_eq (tgt := 75) hx hb dX6_tickIn_66 (by decide) (fun c_66 => ?_) (fun c_66 => ?_)
    · have c_66 : (kX6_isJoint f (nI i)) = 0 := c_66
      refine lv_iinc (v := (nI (i + 1))) (lv' := [(3, .int (nI (i + 1))), (0, .ref h), (1, .int x1), (2, .int x2)]) hx hb dX6_tickIn_75 hl (k := 3) rfl (nI_1 i) (by decide) rfl (fun ls hl => ?_)
      refine lv_goto (tgt := 53) hx hb dX6_tickIn_78 (by decide) ?_
      have hρ : kX6_tickIn_53 x1 x2 (n + 1) i f = kX6_tickIn_53 x1 x2 n (i + 1) f := (if_neg c_58).trans ((if_pos c_66))
      have hρ := hρ0.trans hρ
      exact ih  (i + 1)  f _ _ (by omega) (by omega) hok hP hD hS (lv_sub hl [1, 2, 3, 0] rfl) _ hρ
    have c_66 : ¬ ((kX6_isJoint f (nI i)) = 0) := c_66
    refine lv_aload_n hx hb dX6_tickIn_69 rfl (lv_at hl 0 rfl) ?_
    refine lv_iload_n hx hb dX6_tickIn_70 rfl (lv_at hl 1 rfl) ?_
    refine lv_iload_n hx hb dX6_tickIn_71 rfl (lv_at hl 3 rfl) ?_
    refine k_wv (As := [.int x1, .int (nI i)]) (rest := []) (bytes := cX6_sweepOver) (C := RX6) S (okX6_sweepOver l D cI cZ cQ h a X f x1 (nI i) _ hok h1 hvi c_66) gX6_tickIn_X6_sweepOver rfl ⟨rfl, rfl⟩ ndX6_sweepOver ⟨Nat.le_of_ble_eq_true rfl, Nat.le_of_ble_eq_true rfl⟩ hK hP hD hS hA 0 rfl rfl rfl hl rfl (Nat.le_of_ble_eq_true rfl) dX6_tickIn_72 ⟨Nat.zero_le _, Nat.zero_le _⟩ (fun H locs hP hD hS => ?_)
    have hP : va_P D vwCl (MW cI h a (kX6_sweepOver f x1 (nI i)) ++ X) H := hP
    have hD : va_D A (MW cI h a (kX6_sweepOver f x1 (nI i)) ++ X) := hD
    refine lv_iinc (v := (nI (i + 1))) (lv' := [(3, .int (nI (i + 1))), (0, .ref h), (1, .int x1), (2, .int x2)]) hx hb dX6_tickIn_75 hl (k := 3) rfl (nI_1 i) (by decide) rfl (fun ls hl => ?_)
    refine lv_goto (tgt := 53) hx hb dX6_tickIn_78 (by decide) ?_
    have hρ : kX6_tickIn_53 x1 x2 (n + 1) i f = kX6_tickIn_53 x1 x2 n (i + 1) (kX6_sweepOver f x1 (nI i)) := (if_neg c_58).trans ((if_neg c_66))
    have hρ := hρ0.trans hρ
    exact ih  (i + 1)  (kX6_sweepOver f x1 (nI i)) _ _ (by omega) (by omega) (okM_sweep hok h1 hvi c_66) hP hD hS (lv_sub hl [1, 2, 3, 0] rfl) _ hρ
set_option maxHeartbeats 4000000 in
set_option maxRecDepth 100000 in
theorem lpX6_tickIn_29 {p : Program} {e : Env} {s : State} {m : MethodId} {below : List Frame} {meth : Method} {c : Code} (l : Launch) (D : va_G) (cI cZ cQ : ClassId) (h : Nat) (a : Nat → Nat) (X : va_W) (x1 x2 : Int32) (A : Nat → Prop) (hA : ∀ q, s.heap.size ≤ q → A q) (S : CallFix p m c cX6_tickIn 4 s ([.ref h, .int x1, .int x2] : List Value).toArray wsX6_tickIn RX6) (hr : meth.sig.returnType = none) (hlk : meth.locks = false) (hK : va_K D vwCl (TY cI cZ cQ) s) (h1 : vp_in x1 1597) : ∀ (n i : Nat) (f : Nat → Nat → Int32) (H : Heap) (locs : List Loc), i ≤ 6 → 6 - i < n → (hok : okM f) → va_P D vwCl (MW cI h a f ++ X) H → va_D A (MW cI h a f ++ X) → va_S A s.heap H locs → ∀ {ls : Array Slot}, lv_has ls 4 [(0, .ref h), (1, .int x1), (2, .int x2), (3, .int (nI i))] → ∀ ρ : (Nat → Nat → Int32), ρ = kX6_tickIn_29 x1 x2 n i f → W p l e { frames := 4, cells := 0, slots := 0, locals := 90 } s m ([.ref h, .int x1, .int x2] : List Value).toArray below meth c H locs 0 0 (MQ below (QV D (TY cI cZ cQ) (MW cI h a ρ ++ X) A) ([.ref h, .int x1, .int x2] : List Value).toArray s 0 0 A) (F0 m 29 ls []) := by
  have hx := S.1
  have hb := S.2.1
  have hown : s.vm.findClass RX6 = some m.cls := S.2.2.2.1
  have hts := S.2.2.2.2
  have hinX6 : ∀ w ∈ wsX60, w ∈ wsX6_tickIn := by decide +kernel
  intro n
  induction n with
  | zero =>
    intro i _ _ _ hi hn
    exact absurd hn (Nat.not_lt_zero _)
  | succ n ih =>
    intro i  f H locs hi hn hok hP hD hS ls hl ρ hρ0
    refine lv_iload_n hx hb dX6_tickIn_29 rfl (lv_at hl 3 rfl) ?_
    refine lv_aload_n hx hb dX6_tickIn_30 rfl (lv_at hl 0 rfl) ?_
    refine va_get (v := .ref (a 0)) (C := RX6) (T := TX6) (N := 6) (ci := 6) hx hb hts hinX6 hown hK hP 0 rfl rfl 0 (by decide) (hts (.fieldLink RX6 7 "AxleKeeperModel" "w" "[I") (by decide +kernel)) (fun _ h9 => h9) rfl dX6_tickIn_31 ?_
    refine lv_iconst (v := 0) hx hb dX6_tickIn_34 (by decide) ?_
    refine va_iald hx hb hK hP 1 0 rfl rfl (n := 1680) (vin_c (by decide)) dX6_tickIn_35 ?_
    refine lv_icmp_ge (tgt := 51) hx hb dX6_tickIn_36 (by decide) (fun c_36 => ?_) (fun c_36 => ?_)
    · have c_36 : (f 0 (ix 0)) ≤ (nI i) := c_36
      refine lv_iconst (v := 0) hx hb dX6_tickIn_51 (by decide) ?_
      refine lv_istore_n (lv' := [(3, .int 0), (0, .ref h), (1, .int x1), (2, .int x2)]) hx hb dX6_tickIn_52 rfl hl (by decide) rfl (fun ls hl => ?_)
      have hρ : kX6_tickIn_29 x1 x2 (n + 1) i f = kX6_tickIn_53 x1 x2 8 0 f := (if_pos c_36)
      have hρ := hρ0.trans hρ
      exact lpX6_tickIn_53 l D cI cZ cQ h a X x1 x2 A hA S hr hlk hK h1  8 0  f _ _ (by omega) (by omega) hok hP hD hS (lv_sub hl [1, 2, 3, 0] rfl) _ hρ
    have c_36 : ¬ ((f 0 (ix 0)) ≤ (nI i)) := c_36
    have hlt : i < 6 := il_lt hok.2 (by decide) hi c_36
    have hvi : vp_in (nI i) 6 := vp_in_nI hlt (by decide)
    refine lv_aload_n hx hb dX6_tickIn_39 rfl (lv_at hl 0 rfl) ?_
    refine lv_iload_n hx hb dX6_tickIn_40 rfl (lv_at hl 1 rfl) ?_
    refine lv_iload_n hx hb dX6_tickIn_41 rfl (lv_at hl 3 rfl) ?_
    refine k_wv (As := [.int x1, .int (nI i)]) (rest := []) (bytes := cX6_judgeOne) (C := RX6) S (okX6_judgeOne l D cI cZ cQ h a X f x1 (nI i) _ (by assumption) (by assumption) (by assumption)) gX6_tickIn_X6_judgeOne rfl ⟨rfl, rfl⟩ ndX6_judgeOne ⟨Nat.le_of_ble_eq_true rfl, Nat.le_of_ble_eq_true rfl⟩ hK hP hD hS hA 0 rfl rfl rfl hl rfl (Nat.le_of_ble_eq_true rfl) dX6_tickIn_42 ⟨Nat.zero_le _, Nat.zero_le _⟩ (fun H locs hP hD hS => ?_)
    have hP : va_P D vwCl (MW cI h a (kX6_judgeOne f x1 (nI i)) ++ X) H := hP
    have hD : va_D A (MW cI h a (kX6_judgeOne f x1 (nI i)) ++ X) := hD
    refine lv_iinc (v := (nI (i + 1))) (lv' := [(3, .int (nI (i + 1))), (0, .ref h), (1, .int x1), (2, .int x2)]) hx hb dX6_tickIn_45 hl (k := 3) rfl (nI_1 i) (by decide) rfl (fun ls hl => ?_)
    refine lv_goto (tgt := 29) hx hb dX6_tickIn_48 (by decide) ?_
    have hρ : kX6_tickIn_29 x1 x2 (n + 1) i f = kX6_tickIn_29 x1 x2 n (i + 1) (kX6_judgeOne f x1 (nI i)) := (if_neg c_36)
    have hρ := hρ0.trans hρ
    exact ih  (i + 1)  (kX6_judgeOne f x1 (nI i)) _ _ (by omega) (by omega) (okM_judge hok h1 hvi) hP hD hS (lv_sub hl [1, 2, 3, 0] rfl) _ hρ
set_option maxHeartbeats 4000000 in
set_option maxRecDepth 100000 in
theorem lpX6_tickIn_2 {p : Program} {e : Env} {s : State} {m : MethodId} {below : List Frame} {meth : Method} {c : Code} (l : Launch) (D : va_G) (cI cZ cQ : ClassId) (h : Nat) (a : Nat → Nat) (X : va_W) (x1 x2 : Int32) (A : Nat → Prop) (hA : ∀ q, s.heap.size ≤ q → A q) (S : CallFix p m c cX6_tickIn 4 s ([.ref h, .int x1, .int x2] : List Value).toArray wsX6_tickIn RX6) (hr : meth.sig.returnType = none) (hlk : meth.locks = false) (hK : va_K D vwCl (TY cI cZ cQ) s) (h1 : vp_in x1 1597) : ∀ (n i : Nat) (f : Nat → Nat → Int32) (H : Heap) (locs : List Loc), i ≤ 7 → 7 - i < n → (hok : okM f) → va_P D vwCl (MW cI h a f ++ X) H → va_D A (MW cI h a f ++ X) → va_S A s.heap H locs → ∀ {ls : Array Slot}, lv_has ls 4 [(0, .ref h), (1, .int x1), (2, .int x2), (3, .int (nI i))] → ∀ ρ : (Nat → Nat → Int32), ρ = kX6_tickIn_2 x1 x2 n i f → W p l e { frames := 4, cells := 0, slots := 0, locals := 90 } s m ([.ref h, .int x1, .int x2] : List Value).toArray below meth c H locs 0 0 (MQ below (QV D (TY cI cZ cQ) (MW cI h a ρ ++ X) A) ([.ref h, .int x1, .int x2] : List Value).toArray s 0 0 A) (F0 m 2 ls []) := by
  have hx := S.1
  have hb := S.2.1
  have hown : s.vm.findClass RX6 = some m.cls := S.2.2.2.1
  have hts := S.2.2.2.2
  have hinX6 : ∀ w ∈ wsX60, w ∈ wsX6_tickIn := by decide +kernel
  intro n
  induction n with
  | zero =>
    intro i _ _ _ hi hn
    exact absurd hn (Nat.not_lt_zero _)
  | succ n ih =>
    intro i  f H locs hi hn hok hP hD hS ls hl ρ hρ0
    refine lv_iload_n hx hb dX6_tickIn_2 rfl (lv_at hl 3 rfl) ?_
    refine lv_aload_n hx hb dX6_tickIn_3 rfl (lv_at hl 0 rfl) ?_
    refine k_rd (As := []) (rest := [.int (nI i)]) (bytes := cX6_heads) (C := RX6) S (okX6_heads l D cI cZ cQ h a X f ) gX6_tickIn_X6_heads rfl ⟨rfl, rfl⟩ ndX6_heads ⟨Nat.le_of_ble_eq_true rfl, Nat.le_of_ble_eq_true rfl⟩ hK hP 0 rfl rfl rfl hl rfl (Nat.le_of_ble_eq_true rfl) dX6_tickIn_4 ⟨Nat.zero_le _, Nat.zero_le _⟩ ?_
    refine lv_icmp_ge (tgt := 27) hx hb dX6_tickIn_7 (by decide) (fun c_7 => ?_) (fun c_7 => ?_)
    · have c_7 : (kX6_heads f) ≤ (nI i) := c_7
      refine lv_iconst (v := 0) hx hb dX6_tickIn_27 (by decide) ?_
      refine lv_istore_n (lv' := [(3, .int 0), (0, .ref h), (1, .int x1), (2, .int x2)]) hx hb dX6_tickIn_28 rfl hl (by decide) rfl (fun ls hl => ?_)
      have hρ : kX6_tickIn_2 x1 x2 (n + 1) i f = kX6_tickIn_29 x1 x2 7 0 f := (if_pos c_7)
      have hρ := hρ0.trans hρ
      exact lpX6_tickIn_29 l D cI cZ cQ h a X x1 x2 A hA S hr hlk hK h1  7 0  f _ _ (by omega) (by omega) hok hP hD hS (lv_sub hl [1, 2, 3, 0] rfl) _ hρ
    have c_7 : ¬ ((kX6_heads f) ≤ (nI i)) := c_7
    have hlt : i < 7 := il_lt (mheads_le hok) (by decide) hi c_7
    have hvi : vp_in (nI i) 7 := vp_in_nI hlt (by decide)
    refine lv_aload_n hx hb dX6_tickIn_10 rfl (lv_at hl 0 rfl) ?_
    refine lv_iload_n hx hb dX6_tickIn_11 rfl (lv_at hl 1 rfl) ?_
    refine lv_iload_n hx hb dX6_tickIn_12 rfl (lv_at hl 3 rfl) ?_
    refine lv_iload_n hx hb dX6_tickIn_13 rfl (lv_at hl 2 rfl) ?_
    refine lv_iload_n hx hb dX6_tickIn_14 rfl (lv_at hl 3 rfl) ?_
    refine k_rs (As := [.int x2, .int (nI i)]) (rest := [.int (nI i), .int x1, .ref h]) (bytes := cX6_has) S (okX6_has l D cI cZ cQ h a X f x2 (nI i)) gX6_tickIn_X6_has rfl ⟨rfl, rfl⟩ ndX6_has ⟨Nat.le_of_ble_eq_true rfl, Nat.le_of_ble_eq_true rfl⟩ hK hP rfl hl rfl (Nat.le_of_ble_eq_true rfl) dX6_tickIn_15 ⟨Nat.zero_le _, Nat.zero_le _⟩ ?_
    refine k_wv (As := [.int x1, .int (nI i), .int (kX6_has f x2 (nI i))]) (rest := []) (bytes := cX6_hear) (C := RX6) S (okX6_hear l D cI cZ cQ h a X f x1 (nI i) (kX6_has f x2 (nI i)) _ (by assumption) (by assumption) (by assumption)) gX6_tickIn_X6_hear rfl ⟨rfl, rfl⟩ ndX6_hear ⟨Nat.le_of_ble_eq_true rfl, Nat.le_of_ble_eq_true rfl⟩ hK hP hD hS hA 0 rfl rfl rfl hl rfl (Nat.le_of_ble_eq_true rfl) dX6_tickIn_18 ⟨Nat.zero_le _, Nat.zero_le _⟩ (fun H locs hP hD hS => ?_)
    have hP : va_P D vwCl (MW cI h a (kX6_hear f x1 (nI i) (kX6_has f x2 (nI i))) ++ X) H := hP
    have hD : va_D A (MW cI h a (kX6_hear f x1 (nI i) (kX6_has f x2 (nI i))) ++ X) := hD
    refine lv_iinc (v := (nI (i + 1))) (lv' := [(3, .int (nI (i + 1))), (0, .ref h), (1, .int x1), (2, .int x2)]) hx hb dX6_tickIn_21 hl (k := 3) rfl (nI_1 i) (by decide) rfl (fun ls hl => ?_)
    refine lv_goto (tgt := 2) hx hb dX6_tickIn_24 (by decide) ?_
    have hρ : kX6_tickIn_2 x1 x2 (n + 1) i f = kX6_tickIn_2 x1 x2 n (i + 1) (kX6_hear f x1 (nI i) (kX6_has f x2 (nI i))) := (if_neg c_7)
    have hρ := hρ0.trans hρ
    exact ih  (i + 1)  (kX6_hear f x1 (nI i) (kX6_has f x2 (nI i))) _ _ (by omega) (by omega) (okM_hear hok h1 hvi) hP hD hS (lv_sub hl [1, 2, 3, 0] rfl) _ hρ
set_option maxHeartbeats 4000000 in
set_option maxRecDepth 100000 in
theorem okX6_tickIn (l : Launch) (D : va_G) (cI cZ cQ : ClassId) (h : Nat) (a : Nat → Nat) (X : va_W) (f : Nat → Nat → Int32) (x1 x2 : Int32) (sz : Nat) (hok : okM f) (h1 : vp_in x1 1597) : Met l yX6_tickIn wsX6_tickIn ({ frames := 4, cells := 0, slots := 0, locals := 90 }) (PW [.ref h, .int x1, .int x2] sz D (TY cI cZ cQ) (MW cI h a f ++ X)) (QV D (TY cI cZ cQ) (MW cI h a (kX6_tickIn f x1 x2) ++ X) (va_A (MW cI h a f ++ X) sz)) 0 0 (va_A (MW cI h a f ++ X) sz) := by
  refine m_wr (cc := cX6_tickIn) (maxL := 4) (ret := none) (by decide) rfl (Nat.le_of_ble_eq_true rfl) (lv0 := [(0, .ref h), (1, .int x1), (2, .int x2)]) rfl ?_
  intro p e s m below meth c ls A hAe S hr hlk hP hK hD hS hA hl
  rw [← hAe]
  have S : CallFix p m c cX6_tickIn 4 s ([.ref h, .int x1, .int x2] : List Value).toArray wsX6_tickIn RX6 := S
  have hx := S.1
  have hb := S.2.1
  have hown : s.vm.findClass RX6 = some m.cls := S.2.2.2.1
  have hts := S.2.2.2.2
  have hinX6 : ∀ w ∈ wsX60, w ∈ wsX6_tickIn := by decide +kernel
  refine lv_iconst (v := 0) hx hb dX6_tickIn_0 (by decide) ?_
  refine lv_istore_n (lv' := [(3, .int 0), (0, .ref h), (1, .int x1), (2, .int x2)]) hx hb dX6_tickIn_1 rfl hl (by decide) rfl (fun ls hl => ?_)
  have hρ : kX6_tickIn f x1 x2 = kX6_tickIn_2 x1 x2 8 0 f := rfl
  exact lpX6_tickIn_2 l D cI cZ cQ h a X x1 x2 A hA S hr hlk hK h1  8 0  f _ _ (by omega) (by omega) hok hP hD hS (lv_sub hl [1, 2, 3, 0] rfl) _ hρ
