theorem ndX6_told : yX6_told.cls = RX6 ∧ yX6_told.cls ≠ "java/lang/invoke/MethodHandle" ∧ yX6_told.cls ≠ "java/lang/invoke/VarHandle" ∧ (parseMethodDescriptor yX6_told.desc).map (fun d => d.parameters.length) = some 1 := by decide +kernel
set_option maxHeartbeats 4000000 in
set_option maxRecDepth 100000 in
theorem okX6_told (l : Launch) (D : va_G) (cI cZ cQ : ClassId) (h : Nat) (a : Nat → Nat) (X : va_W) (f : Nat → Nat → Int32) (x1 : Int32) (hok : okM f) (hw : vp_in (f 5 0) 21) : Met l yX6_told wsX6_told ({ frames := 4, cells := 0, slots := 0, locals := 94 }) (PR [.ref h, .int x1] D (TY cI cZ cQ) (MW cI h a f ++ X)) (QR (kX6_told f x1)) 0 0 (fun _ => False) := by
  refine m_rd (cc := cX6_told) (maxL := 2) (ret := (some .int)) (by decide) rfl (Nat.le_of_ble_eq_true rfl) (lv0 := [(0, .ref h), (1, .int x1)]) rfl ?_
  intro p e s m below meth c ls S hr hlk hP hK hl
  have S : CallFix p m c cX6_told 2 s ([.ref h, .int x1] : List Value).toArray wsX6_told RX6 := S
  have hx := S.1
  have hb := S.2.1
  have hown : s.vm.findClass RX6 = some m.cls := S.2.2.2.1
  have hts := S.2.2.2.2
  have hinX6 : ∀ w ∈ wsX60, w ∈ wsX6_told := by decide +kernel
  refine lv_iload_n hx hb dX6_told_0 rfl (lv_at hl 1 rfl) ?_
  by_cases c1_0 : x1 = 0
  · refine lv_tableIn (tgt := 84) (off := 83) hx hb dX6_told_1 (by rw [c1_0]; decide) (by rw [c1_0]; decide) (by rw [c1_0]; rfl) (by decide) ?_
    refine lv_aload_n hx hb dX6_told_84 rfl (lv_at hl 0 rfl) ?_
    refine va_get (v := .ref (a 0)) (C := RX6) (T := TX6) (N := 6) (ci := 6) hx hb hts hinX6 hown hK hP 0 rfl rfl 0 (by decide) (hts (.fieldLink RX6 7 "AxleKeeperModel" "w" "[I") (by decide +kernel)) (fun _ h9 => h9) rfl dX6_told_85 ?_
    refine lv_iconst (v := 0) hx hb dX6_told_88 (by decide) ?_
    refine va_iald hx hb hK hP 1 0 rfl rfl (n := 1680) (vin_c (by decide)) dX6_told_89 ?_
    have hρ : kX6_told f x1 = (f 0 (ix 0)) := (if_pos c1_0)
    exact e_rd hx hb hr hlk dX6_told_90 hρ.symm
  by_cases c1_1 : x1 = 1
  · refine lv_tableIn (tgt := 91) (off := 90) hx hb dX6_told_1 (by rw [c1_1]; decide) (by rw [c1_1]; decide) (by rw [c1_1]; rfl) (by decide) ?_
    refine lv_aload_n hx hb dX6_told_91 rfl (lv_at hl 0 rfl) ?_
    refine k_rd (As := []) (rest := []) (bytes := cX6_heads) (C := RX6) S (okX6_heads l D cI cZ cQ h a X f ) gX6_told_X6_heads rfl ⟨rfl, rfl⟩ ndX6_heads ⟨Nat.le_of_ble_eq_true rfl, Nat.le_of_ble_eq_true rfl⟩ hK hP 0 rfl rfl rfl hl rfl (Nat.le_of_ble_eq_true rfl) dX6_told_92 ⟨Nat.zero_le _, Nat.zero_le _⟩ ?_
    have hρ : kX6_told f x1 = (kX6_heads f) := (if_neg c1_0).trans ((if_pos c1_1))
    exact e_rd hx hb hr hlk dX6_told_95 hρ.symm
  by_cases c1_2 : x1 = 2
  · refine lv_tableIn (tgt := 96) (off := 95) hx hb dX6_told_1 (by rw [c1_2]; decide) (by rw [c1_2]; decide) (by rw [c1_2]; rfl) (by decide) ?_
    refine lv_aload_n hx hb dX6_told_96 rfl (lv_at hl 0 rfl) ?_
    refine va_get (v := .ref (a 0)) (C := RX6) (T := TX6) (N := 6) (ci := 6) hx hb hts hinX6 hown hK hP 0 rfl rfl 0 (by decide) (hts (.fieldLink RX6 7 "AxleKeeperModel" "w" "[I") (by decide +kernel)) (fun _ h9 => h9) rfl dX6_told_97 ?_
    refine lv_iconst (v := 1) hx hb dX6_told_100 (by decide) ?_
    refine va_iald hx hb hK hP 1 0 rfl rfl (n := 1680) (vin_c (by decide)) dX6_told_101 ?_
    have hρ : kX6_told f x1 = (f 0 (ix 1)) := (if_neg c1_0).trans ((if_neg c1_1).trans ((if_pos c1_2)))
    exact e_rd hx hb hr hlk dX6_told_102 hρ.symm
  by_cases c1_3 : x1 = 3
  · refine lv_tableIn (tgt := 103) (off := 102) hx hb dX6_told_1 (by rw [c1_3]; decide) (by rw [c1_3]; decide) (by rw [c1_3]; rfl) (by decide) ?_
    refine lv_aload_n hx hb dX6_told_103 rfl (lv_at hl 0 rfl) ?_
    refine va_get (v := .ref (a 0)) (C := RX6) (T := TX6) (N := 6) (ci := 6) hx hb hts hinX6 hown hK hP 0 rfl rfl 0 (by decide) (hts (.fieldLink RX6 7 "AxleKeeperModel" "w" "[I") (by decide +kernel)) (fun _ h9 => h9) rfl dX6_told_104 ?_
    refine lv_iconst (v := 2) hx hb dX6_told_107 (by decide) ?_
    refine va_iald hx hb hK hP 1 0 rfl rfl (n := 1680) (vin_c (by decide)) dX6_told_108 ?_
    have hρ : kX6_told f x1 = (f 0 (ix 2)) := (if_neg c1_0).trans ((if_neg c1_1).trans ((if_neg c1_2).trans ((if_pos c1_3))))
    exact e_rd hx hb hr hlk dX6_told_109 hρ.symm
  by_cases c1_4 : x1 = 4
  · refine lv_tableIn (tgt := 110) (off := 109) hx hb dX6_told_1 (by rw [c1_4]; decide) (by rw [c1_4]; decide) (by rw [c1_4]; rfl) (by decide) ?_
    refine lv_aload_n hx hb dX6_told_110 rfl (lv_at hl 0 rfl) ?_
    refine lv_iconst (v := 0) hx hb dX6_told_111 (by decide) ?_
    refine lv_iload_n hx hb dX6_told_112 rfl (lv_at hl 1 rfl) ?_
    refine lv_iconst (v := 4) hx hb dX6_told_113 (by decide) ?_
    refine lv_isub hx hb dX6_told_114 ?_
    refine k_rd (As := [.int 0, .int (x1 - 4)]) (rest := []) (bytes := cX6_called) (C := RX6) S (okX6_called l D cI cZ cQ h a X f 0 (x1 - 4) hok (vin_c (by decide))) gX6_told_X6_called rfl ⟨rfl, rfl⟩ ndX6_called ⟨Nat.le_of_ble_eq_true rfl, Nat.le_of_ble_eq_true rfl⟩ hK hP 0 rfl rfl rfl hl rfl (Nat.le_of_ble_eq_true rfl) dX6_told_115 ⟨Nat.zero_le _, Nat.zero_le _⟩ ?_
    have hρ : kX6_told f x1 = (kX6_called f 0 (x1 - 4)) := (if_neg c1_0).trans ((if_neg c1_1).trans ((if_neg c1_2).trans ((if_neg c1_3).trans ((if_pos c1_4)))))
    exact e_rd hx hb hr hlk dX6_told_118 hρ.symm
  by_cases c1_5 : x1 = 5
  · refine lv_tableIn (tgt := 110) (off := 109) hx hb dX6_told_1 (by rw [c1_5]; decide) (by rw [c1_5]; decide) (by rw [c1_5]; rfl) (by decide) ?_
    refine lv_aload_n hx hb dX6_told_110 rfl (lv_at hl 0 rfl) ?_
    refine lv_iconst (v := 0) hx hb dX6_told_111 (by decide) ?_
    refine lv_iload_n hx hb dX6_told_112 rfl (lv_at hl 1 rfl) ?_
    refine lv_iconst (v := 4) hx hb dX6_told_113 (by decide) ?_
    refine lv_isub hx hb dX6_told_114 ?_
    refine k_rd (As := [.int 0, .int (x1 - 4)]) (rest := []) (bytes := cX6_called) (C := RX6) S (okX6_called l D cI cZ cQ h a X f 0 (x1 - 4) hok (vin_c (by decide))) gX6_told_X6_called rfl ⟨rfl, rfl⟩ ndX6_called ⟨Nat.le_of_ble_eq_true rfl, Nat.le_of_ble_eq_true rfl⟩ hK hP 0 rfl rfl rfl hl rfl (Nat.le_of_ble_eq_true rfl) dX6_told_115 ⟨Nat.zero_le _, Nat.zero_le _⟩ ?_
    have hρ : kX6_told f x1 = (kX6_called f 0 (x1 - 4)) := (if_neg c1_0).trans ((if_neg c1_1).trans ((if_neg c1_2).trans ((if_neg c1_3).trans ((if_neg c1_4).trans ((if_pos c1_5))))))
    exact e_rd hx hb hr hlk dX6_told_118 hρ.symm
  by_cases c1_6 : x1 = 6
  · refine lv_tableIn (tgt := 110) (off := 109) hx hb dX6_told_1 (by rw [c1_6]; decide) (by rw [c1_6]; decide) (by rw [c1_6]; rfl) (by decide) ?_
    refine lv_aload_n hx hb dX6_told_110 rfl (lv_at hl 0 rfl) ?_
    refine lv_iconst (v := 0) hx hb dX6_told_111 (by decide) ?_
    refine lv_iload_n hx hb dX6_told_112 rfl (lv_at hl 1 rfl) ?_
    refine lv_iconst (v := 4) hx hb dX6_told_113 (by decide) ?_
    refine lv_isub hx hb dX6_told_114 ?_
    refine k_rd (As := [.int 0, .int (x1 - 4)]) (rest := []) (bytes := cX6_called) (C := RX6) S (okX6_called l D cI cZ cQ h a X f 0 (x1 - 4) hok (vin_c (by decide))) gX6_told_X6_called rfl ⟨rfl, rfl⟩ ndX6_called ⟨Nat.le_of_ble_eq_true rfl, Nat.le_of_ble_eq_true rfl⟩ hK hP 0 rfl rfl rfl hl rfl (Nat.le_of_ble_eq_true rfl) dX6_told_115 ⟨Nat.zero_le _, Nat.zero_le _⟩ ?_
    have hρ : kX6_told f x1 = (kX6_called f 0 (x1 - 4)) := (if_neg c1_0).trans ((if_neg c1_1).trans ((if_neg c1_2).trans ((if_neg c1_3).trans ((if_neg c1_4).trans ((if_neg c1_5).trans ((if_pos c1_6)))))))
    exact e_rd hx hb hr hlk dX6_told_118 hρ.symm
  by_cases c1_7 : x1 = 7
  · refine lv_tableIn (tgt := 110) (off := 109) hx hb dX6_told_1 (by rw [c1_7]; decide) (by rw [c1_7]; decide) (by rw [c1_7]; rfl) (by decide) ?_
    refine lv_aload_n hx hb dX6_told_110 rfl (lv_at hl 0 rfl) ?_
    refine lv_iconst (v := 0) hx hb dX6_told_111 (by decide) ?_
    refine lv_iload_n hx hb dX6_told_112 rfl (lv_at hl 1 rfl) ?_
    refine lv_iconst (v := 4) hx hb dX6_told_113 (by decide) ?_
    refine lv_isub hx hb dX6_told_114 ?_
    refine k_rd (As := [.int 0, .int (x1 - 4)]) (rest := []) (bytes := cX6_called) (C := RX6) S (okX6_called l D cI cZ cQ h a X f 0 (x1 - 4) hok (vin_c (by decide))) gX6_told_X6_called rfl ⟨rfl, rfl⟩ ndX6_called ⟨Nat.le_of_ble_eq_true rfl, Nat.le_of_ble_eq_true rfl⟩ hK hP 0 rfl rfl rfl hl rfl (Nat.le_of_ble_eq_true rfl) dX6_told_115 ⟨Nat.zero_le _, Nat.zero_le _⟩ ?_
    have hρ : kX6_told f x1 = (kX6_called f 0 (x1 - 4)) := (if_neg c1_0).trans ((if_neg c1_1).trans ((if_neg c1_2).trans ((if_neg c1_3).trans ((if_neg c1_4).trans ((if_neg c1_5).trans ((if_neg c1_6).trans ((if_pos c1_7))))))))
    exact e_rd hx hb hr hlk dX6_told_118 hρ.symm
  by_cases c1_8 : x1 = 8
  · refine lv_tableIn (tgt := 119) (off := 118) hx hb dX6_told_1 (by rw [c1_8]; decide) (by rw [c1_8]; decide) (by rw [c1_8]; rfl) (by decide) ?_
    refine lv_aload_n hx hb dX6_told_119 rfl (lv_at hl 0 rfl) ?_
    refine lv_iload_n hx hb dX6_told_120 rfl (lv_at hl 1 rfl) ?_
    refine k_rd (As := [.int x1]) (rest := []) (bytes := cX6_setOf) (C := RX6) S (okX6_setOf l D cI cZ cQ h a X f x1 (by assumption)) gX6_told_X6_setOf rfl ⟨rfl, rfl⟩ ndX6_setOf ⟨Nat.le_of_ble_eq_true rfl, Nat.le_of_ble_eq_true rfl⟩ hK hP 0 rfl rfl rfl hl rfl (Nat.le_of_ble_eq_true rfl) dX6_told_121 ⟨Nat.zero_le _, Nat.zero_le _⟩ ?_
    have hρ : kX6_told f x1 = (kX6_setOf f x1) := (if_neg c1_0).trans ((if_neg c1_1).trans ((if_neg c1_2).trans ((if_neg c1_3).trans ((if_neg c1_4).trans ((if_neg c1_5).trans ((if_neg c1_6).trans ((if_neg c1_7).trans ((if_pos c1_8)))))))))
    exact e_rd hx hb hr hlk dX6_told_124 hρ.symm
  by_cases c1_9 : x1 = 9
  · refine lv_tableIn (tgt := 119) (off := 118) hx hb dX6_told_1 (by rw [c1_9]; decide) (by rw [c1_9]; decide) (by rw [c1_9]; rfl) (by decide) ?_
    refine lv_aload_n hx hb dX6_told_119 rfl (lv_at hl 0 rfl) ?_
    refine lv_iload_n hx hb dX6_told_120 rfl (lv_at hl 1 rfl) ?_
    refine k_rd (As := [.int x1]) (rest := []) (bytes := cX6_setOf) (C := RX6) S (okX6_setOf l D cI cZ cQ h a X f x1 (by assumption)) gX6_told_X6_setOf rfl ⟨rfl, rfl⟩ ndX6_setOf ⟨Nat.le_of_ble_eq_true rfl, Nat.le_of_ble_eq_true rfl⟩ hK hP 0 rfl rfl rfl hl rfl (Nat.le_of_ble_eq_true rfl) dX6_told_121 ⟨Nat.zero_le _, Nat.zero_le _⟩ ?_
    have hρ : kX6_told f x1 = (kX6_setOf f x1) := (if_neg c1_0).trans ((if_neg c1_1).trans ((if_neg c1_2).trans ((if_neg c1_3).trans ((if_neg c1_4).trans ((if_neg c1_5).trans ((if_neg c1_6).trans ((if_neg c1_7).trans ((if_neg c1_8).trans ((if_pos c1_9))))))))))
    exact e_rd hx hb hr hlk dX6_told_124 hρ.symm
  by_cases c1_10 : x1 = 10
  · refine lv_tableIn (tgt := 125) (off := 124) hx hb dX6_told_1 (by rw [c1_10]; decide) (by rw [c1_10]; decide) (by rw [c1_10]; rfl) (by decide) ?_
    refine lv_aload_n hx hb dX6_told_125 rfl (lv_at hl 0 rfl) ?_
    refine lv_iconst (v := 1) hx hb dX6_told_126 (by decide) ?_
    refine k_rd (As := [.int 1]) (rest := []) (bytes := cX6_headSet) (C := RX6) S (okX6_headSet l D cI cZ cQ h a X f 1 (by assumption)) gX6_told_X6_headSet rfl ⟨rfl, rfl⟩ ndX6_headSet ⟨Nat.le_of_ble_eq_true rfl, Nat.le_of_ble_eq_true rfl⟩ hK hP 0 rfl rfl rfl hl rfl (Nat.le_of_ble_eq_true rfl) dX6_told_127 ⟨Nat.zero_le _, Nat.zero_le _⟩ ?_
    have hρ : kX6_told f x1 = (kX6_headSet f 1) := (if_neg c1_0).trans ((if_neg c1_1).trans ((if_neg c1_2).trans ((if_neg c1_3).trans ((if_neg c1_4).trans ((if_neg c1_5).trans ((if_neg c1_6).trans ((if_neg c1_7).trans ((if_neg c1_8).trans ((if_neg c1_9).trans ((if_pos c1_10)))))))))))
    exact e_rd hx hb hr hlk dX6_told_130 hρ.symm
  by_cases c1_11 : x1 = 11
  · refine lv_tableIn (tgt := 131) (off := 130) hx hb dX6_told_1 (by rw [c1_11]; decide) (by rw [c1_11]; decide) (by rw [c1_11]; rfl) (by decide) ?_
    refine lv_aload_n hx hb dX6_told_131 rfl (lv_at hl 0 rfl) ?_
    refine lv_iconst (v := 0) hx hb dX6_told_132 (by decide) ?_
    refine k_rd (As := [.int 0]) (rest := []) (bytes := cX6_headSet) (C := RX6) S (okX6_headSet l D cI cZ cQ h a X f 0 (by assumption)) gX6_told_X6_headSet rfl ⟨rfl, rfl⟩ ndX6_headSet ⟨Nat.le_of_ble_eq_true rfl, Nat.le_of_ble_eq_true rfl⟩ hK hP 0 rfl rfl rfl hl rfl (Nat.le_of_ble_eq_true rfl) dX6_told_133 ⟨Nat.zero_le _, Nat.zero_le _⟩ ?_
    have hρ : kX6_told f x1 = (kX6_headSet f 0) := (if_neg c1_0).trans ((if_neg c1_1).trans ((if_neg c1_2).trans ((if_neg c1_3).trans ((if_neg c1_4).trans ((if_neg c1_5).trans ((if_neg c1_6).trans ((if_neg c1_7).trans ((if_neg c1_8).trans ((if_neg c1_9).trans ((if_neg c1_10).trans ((if_pos c1_11))))))))))))
    exact e_rd hx hb hr hlk dX6_told_136 hρ.symm
  by_cases c1_12 : x1 = 12
  · refine lv_tableIn (tgt := 137) (off := 136) hx hb dX6_told_1 (by rw [c1_12]; decide) (by rw [c1_12]; decide) (by rw [c1_12]; rfl) (by decide) ?_
    refine lv_aload_n hx hb dX6_told_137 rfl (lv_at hl 0 rfl) ?_
    refine lv_bipush (v := 15) hx hb dX6_told_138 (by decide) ?_
    refine k_rd (As := [.int 15]) (rest := []) (bytes := cX6_allOf) (C := RX6) S (okX6_allOf l D cI cZ cQ h a X f 15 hok (vin_c (by decide))) gX6_told_X6_allOf rfl ⟨rfl, rfl⟩ ndX6_allOf ⟨Nat.le_of_ble_eq_true rfl, Nat.le_of_ble_eq_true rfl⟩ hK hP 0 rfl rfl rfl hl rfl (Nat.le_of_ble_eq_true rfl) dX6_told_140 ⟨Nat.zero_le _, Nat.zero_le _⟩ ?_
    have hρ : kX6_told f x1 = (kX6_allOf f 15) := (if_neg c1_0).trans ((if_neg c1_1).trans ((if_neg c1_2).trans ((if_neg c1_3).trans ((if_neg c1_4).trans ((if_neg c1_5).trans ((if_neg c1_6).trans ((if_neg c1_7).trans ((if_neg c1_8).trans ((if_neg c1_9).trans ((if_neg c1_10).trans ((if_neg c1_11).trans ((if_pos c1_12)))))))))))))
    exact e_rd hx hb hr hlk dX6_told_143 hρ.symm
  by_cases c1_13 : x1 = 13
  · refine lv_tableIn (tgt := 144) (off := 143) hx hb dX6_told_1 (by rw [c1_13]; decide) (by rw [c1_13]; decide) (by rw [c1_13]; rfl) (by decide) ?_
    refine lv_aload_n hx hb dX6_told_144 rfl (lv_at hl 0 rfl) ?_
    refine lv_bipush (v := 9) hx hb dX6_told_145 (by decide) ?_
    refine k_rd (As := [.int 9]) (rest := []) (bytes := cX6_allOf) (C := RX6) S (okX6_allOf l D cI cZ cQ h a X f 9 hok (vin_c (by decide))) gX6_told_X6_allOf rfl ⟨rfl, rfl⟩ ndX6_allOf ⟨Nat.le_of_ble_eq_true rfl, Nat.le_of_ble_eq_true rfl⟩ hK hP 0 rfl rfl rfl hl rfl (Nat.le_of_ble_eq_true rfl) dX6_told_147 ⟨Nat.zero_le _, Nat.zero_le _⟩ ?_
    refine lv_sipush (v := 1000) hx hb dX6_told_150 (by decide) ?_
    refine lv_iadd hx hb dX6_told_153 ?_
    have hρ : kX6_told f x1 = ((kX6_allOf f 9) + 1000) := (if_neg c1_0).trans ((if_neg c1_1).trans ((if_neg c1_2).trans ((if_neg c1_3).trans ((if_neg c1_4).trans ((if_neg c1_5).trans ((if_neg c1_6).trans ((if_neg c1_7).trans ((if_neg c1_8).trans ((if_neg c1_9).trans ((if_neg c1_10).trans ((if_neg c1_11).trans ((if_neg c1_12).trans ((if_pos c1_13))))))))))))))
    exact e_rd hx hb hr hlk dX6_told_154 hρ.symm
  by_cases c1_14 : x1 = 14
  · refine lv_tableIn (tgt := 155) (off := 154) hx hb dX6_told_1 (by rw [c1_14]; decide) (by rw [c1_14]; decide) (by rw [c1_14]; rfl) (by decide) ?_
    refine lv_aload_n hx hb dX6_told_155 rfl (lv_at hl 0 rfl) ?_
    refine va_get (v := .int (f 5 0)) (C := RX6) (T := TX6) (N := 6) (ci := 6) hx hb hts hinX6 hown hK hP 0 rfl rfl 5 (by decide) (hts (.fieldLink RX6 74 "AxleKeeperModel" "written" "I") (by decide +kernel)) (fun _ h9 => h9) rfl dX6_told_156 ?_
    have hρ : kX6_told f x1 = (f 5 0) := (if_neg c1_0).trans ((if_neg c1_1).trans ((if_neg c1_2).trans ((if_neg c1_3).trans ((if_neg c1_4).trans ((if_neg c1_5).trans ((if_neg c1_6).trans ((if_neg c1_7).trans ((if_neg c1_8).trans ((if_neg c1_9).trans ((if_neg c1_10).trans ((if_neg c1_11).trans ((if_neg c1_12).trans ((if_neg c1_13).trans ((if_pos c1_14)))))))))))))))
    exact e_rd hx hb hr hlk dX6_told_159 hρ.symm
  by_cases c1_15 : x1 = 15
  · refine lv_tableIn (tgt := 160) (off := 159) hx hb dX6_told_1 (by rw [c1_15]; decide) (by rw [c1_15]; decide) (by rw [c1_15]; rfl) (by decide) ?_
    refine lv_aload_n hx hb dX6_told_160 rfl (lv_at hl 0 rfl) ?_
    refine k_rd (As := []) (rest := []) (bytes := cX6_wrongEntry) (C := RX6) S (okX6_wrongEntry l D cI cZ cQ h a X f  (by assumption) (by assumption)) gX6_told_X6_wrongEntry rfl ⟨rfl, rfl⟩ ndX6_wrongEntry ⟨Nat.le_of_ble_eq_true rfl, Nat.le_of_ble_eq_true rfl⟩ hK hP 0 rfl rfl rfl hl rfl (Nat.le_of_ble_eq_true rfl) dX6_told_161 ⟨Nat.zero_le _, Nat.zero_le _⟩ ?_
    have hρ : kX6_told f x1 = (kX6_wrongEntry f) := (if_neg c1_0).trans ((if_neg c1_1).trans ((if_neg c1_2).trans ((if_neg c1_3).trans ((if_neg c1_4).trans ((if_neg c1_5).trans ((if_neg c1_6).trans ((if_neg c1_7).trans ((if_neg c1_8).trans ((if_neg c1_9).trans ((if_neg c1_10).trans ((if_neg c1_11).trans ((if_neg c1_12).trans ((if_neg c1_13).trans ((if_neg c1_14).trans ((if_pos c1_15))))))))))))))))
    exact e_rd hx hb hr hlk dX6_told_164 hρ.symm
  by_cases c1_16 : x1 = 16
  · refine lv_tableIn (tgt := 165) (off := 164) hx hb dX6_told_1 (by rw [c1_16]; decide) (by rw [c1_16]; decide) (by rw [c1_16]; rfl) (by decide) ?_
    refine lv_aload_n hx hb dX6_told_165 rfl (lv_at hl 0 rfl) ?_
    refine va_get (v := .int (f 1 0)) (C := RX6) (T := TX6) (N := 6) (ci := 6) hx hb hts hinX6 hown hK hP 0 rfl rfl 1 (by decide) (hts (.fieldLink RX6 98 "AxleKeeperModel" "known" "I") (by decide +kernel)) (fun _ h9 => h9) rfl dX6_told_166 ?_
    have hρ : kX6_told f x1 = (f 1 0) := (if_neg c1_0).trans ((if_neg c1_1).trans ((if_neg c1_2).trans ((if_neg c1_3).trans ((if_neg c1_4).trans ((if_neg c1_5).trans ((if_neg c1_6).trans ((if_neg c1_7).trans ((if_neg c1_8).trans ((if_neg c1_9).trans ((if_neg c1_10).trans ((if_neg c1_11).trans ((if_neg c1_12).trans ((if_neg c1_13).trans ((if_neg c1_14).trans ((if_neg c1_15).trans ((if_pos c1_16)))))))))))))))))
    exact e_rd hx hb hr hlk dX6_told_169 hρ.symm
  have hsw : x1.toInt < 0 ∨ 16 < x1.toInt := sw_out 16 (fun j hj => by
    rcases (show j = 0 ∨ j = 1 ∨ j = 2 ∨ j = 3 ∨ j = 4 ∨ j = 5 ∨ j = 6 ∨ j = 7 ∨ j = 8 ∨ j = 9 ∨ j = 10 ∨ j = 11 ∨ j = 12 ∨ j = 13 ∨ j = 14 ∨ j = 15 ∨ j = 16 by omega) with rfl | rfl | rfl | rfl | rfl | rfl | rfl | rfl | rfl | rfl | rfl | rfl | rfl | rfl | rfl | rfl | rfl
    · exact c1_0
    · exact c1_1
    · exact c1_2
    · exact c1_3
    · exact c1_4
    · exact c1_5
    · exact c1_6
    · exact c1_7
    · exact c1_8
    · exact c1_9
    · exact c1_10
    · exact c1_11
    · exact c1_12
    · exact c1_13
    · exact c1_14
    · exact c1_15
    · exact c1_16)
  refine lv_tableOut (tgt := 170) hx hb dX6_told_1 hsw (by decide) ?_
  refine lv_ldc (v := (-1000000002)) hx hb hown (hts (.constant RX6 101 (-1000000002)) (by decide +kernel)) dX6_told_170 ?_
  have hρ : kX6_told f x1 = (-1000000002) := (if_neg c1_0).trans ((if_neg c1_1).trans ((if_neg c1_2).trans ((if_neg c1_3).trans ((if_neg c1_4).trans ((if_neg c1_5).trans ((if_neg c1_6).trans ((if_neg c1_7).trans ((if_neg c1_8).trans ((if_neg c1_9).trans ((if_neg c1_10).trans ((if_neg c1_11).trans ((if_neg c1_12).trans ((if_neg c1_13).trans ((if_neg c1_14).trans ((if_neg c1_15).trans ((if_neg c1_16)))))))))))))))))
  exact e_rd hx hb hr hlk dX6_told_172 hρ.symm
theorem ndX6_leftTelegrams : yX6_leftTelegrams.cls = RX6 ∧ yX6_leftTelegrams.cls ≠ "java/lang/invoke/MethodHandle" ∧ yX6_leftTelegrams.cls ≠ "java/lang/invoke/VarHandle" ∧ (parseMethodDescriptor yX6_leftTelegrams.desc).map (fun d => d.parameters.length) = some 1 := by decide +kernel
set_option maxHeartbeats 4000000 in
set_option maxRecDepth 100000 in
theorem okX6_leftTelegrams (l : Launch) (D : va_G) (cI cZ cQ : ClassId) (h : Nat) (a : Nat → Nat) (X : va_W) (f : Nat → Nat → Int32) (x1 : Int32) (hok : okM f) (h1 : vp_in x1 6) : Met l yX6_leftTelegrams wsX6_leftTelegrams ({ frames := 1, cells := 0, slots := 0, locals := 21 }) (PR [.ref h, .int x1] D (TY cI cZ cQ) (MW cI h a f ++ X)) (QR (kX6_leftTelegrams f x1)) 0 0 (fun _ => False) := by
  refine m_rd (cc := cX6_leftTelegrams) (maxL := 4) (ret := (some .int)) (by decide) rfl (Nat.le_of_ble_eq_true rfl) (lv0 := [(0, .ref h), (1, .int x1)]) rfl ?_
  intro p e s m below meth c ls S hr hlk hP hK hl
  have S : CallFix p m c cX6_leftTelegrams 4 s ([.ref h, .int x1] : List Value).toArray wsX6_leftTelegrams RX6 := S
  have hx := S.1
  have hb := S.2.1
  have hown : s.vm.findClass RX6 = some m.cls := S.2.2.2.1
  have hts := S.2.2.2.2
  have hinX6 : ∀ w ∈ wsX60, w ∈ wsX6_leftTelegrams := by decide +kernel
  have hrh : vp_in (kX6_rightHead f x1) 7 := mrh_in hok h1
  refine lv_aload_n hx hb dX6_leftTelegrams_0 rfl (lv_at hl 0 rfl) ?_
  refine va_get (v := .ref (a 0)) (C := RX6) (T := TX6) (N := 6) (ci := 6) hx hb hts hinX6 hown hK hP 0 rfl rfl 0 (by decide) (hts (.fieldLink RX6 7 "AxleKeeperModel" "w" "[I") (by decide +kernel)) (fun _ h9 => h9) rfl dX6_leftTelegrams_1 ?_
  refine lv_bipush (v := 55) hx hb dX6_leftTelegrams_4 (by decide) ?_
  refine lv_iload_n hx hb dX6_leftTelegrams_6 rfl (lv_at hl 1 rfl) ?_
  refine lv_iadd hx hb dX6_leftTelegrams_7 ?_
  refine va_iald hx hb hK hP 1 0 rfl rfl (n := 1680) (vin2 (by assumption) (by decide)) dX6_leftTelegrams_8 ?_
  refine lv_iconst (v := 3) hx hb dX6_leftTelegrams_9 (by decide) ?_
  refine lv_icmp_le (tgt := 17) hx hb dX6_leftTelegrams_10 (by decide) (fun c_10 => ?_) (fun c_10 => ?_)
  · have c_10 : (f 0 (ix (55 + x1))) ≤ 3 := c_10
    refine lv_iconst (v := 4) hx hb dX6_leftTelegrams_17 (by decide) ?_
    refine lv_aload_n hx hb dX6_leftTelegrams_18 rfl (lv_at hl 0 rfl) ?_
    refine va_get (v := .ref (a 0)) (C := RX6) (T := TX6) (N := 6) (ci := 6) hx hb hts hinX6 hown hK hP 0 rfl rfl 0 (by decide) (hts (.fieldLink RX6 7 "AxleKeeperModel" "w" "[I") (by decide +kernel)) (fun _ h9 => h9) rfl dX6_leftTelegrams_19 ?_
    refine lv_bipush (v := 55) hx hb dX6_leftTelegrams_22 (by decide) ?_
    refine lv_iload_n hx hb dX6_leftTelegrams_24 rfl (lv_at hl 1 rfl) ?_
    refine lv_iadd hx hb dX6_leftTelegrams_25 ?_
    refine va_iald hx hb hK hP 1 0 rfl rfl (n := 1680) (vin2 (by assumption) (by decide)) dX6_leftTelegrams_26 ?_
    refine lv_isub hx hb dX6_leftTelegrams_27 ?_
    refine lv_istore_n (lv' := [(2, .int (4 - (f 0 (ix (55 + x1))))), (0, .ref h), (1, .int x1)]) hx hb dX6_leftTelegrams_28 rfl hl (by decide) rfl (fun ls hl => ?_)
    refine lv_aload_n hx hb dX6_leftTelegrams_29 rfl (lv_at hl 1 rfl) ?_
    refine va_get (v := .ref (a 0)) (C := RX6) (T := TX6) (N := 6) (ci := 6) hx hb hts hinX6 hown hK hP 0 rfl rfl 0 (by decide) (hts (.fieldLink RX6 7 "AxleKeeperModel" "w" "[I") (by decide +kernel)) (fun _ h9 => h9) rfl dX6_leftTelegrams_30 ?_
    refine lv_bipush (v := 55) hx hb dX6_leftTelegrams_33 (by decide) ?_
    refine lv_aload_n hx hb dX6_leftTelegrams_35 rfl (lv_at hl 1 rfl) ?_
    refine lv_iload_n hx hb dX6_leftTelegrams_36 rfl (lv_at hl 2 rfl) ?_
    refine k_rd (As := [.int x1]) (rest := [.int 55, .ref (a 0)]) (bytes := cX6_rightHead) (C := RX6) S (okX6_rightHead l D cI cZ cQ h a X f x1 (by assumption)) gX6_leftTelegrams_X6_rightHead rfl ⟨rfl, rfl⟩ ndX6_rightHead ⟨Nat.le_of_ble_eq_true rfl, Nat.le_of_ble_eq_true rfl⟩ hK hP 0 rfl rfl rfl hl rfl (Nat.le_of_ble_eq_true rfl) dX6_leftTelegrams_37 ⟨Nat.zero_le _, Nat.zero_le _⟩ ?_
    refine lv_iadd hx hb dX6_leftTelegrams_40 ?_
    refine va_iald hx hb hK hP 1 0 rfl rfl (n := 1680) (vin2 (by assumption) (by decide)) dX6_leftTelegrams_41 ?_
    refine lv_iconst (v := 3) hx hb dX6_leftTelegrams_42 (by decide) ?_
    refine lv_icmp_le (tgt := 50) hx hb dX6_leftTelegrams_43 (by decide) (fun c_43 => ?_) (fun c_43 => ?_)
    · have c_43 : (f 0 (ix (55 + (kX6_rightHead f x1)))) ≤ 3 := c_43
      refine lv_iconst (v := 4) hx hb dX6_leftTelegrams_50 (by decide) ?_
      refine lv_aload_n hx hb dX6_leftTelegrams_51 rfl (lv_at hl 1 rfl) ?_
      refine va_get (v := .ref (a 0)) (C := RX6) (T := TX6) (N := 6) (ci := 6) hx hb hts hinX6 hown hK hP 0 rfl rfl 0 (by decide) (hts (.fieldLink RX6 7 "AxleKeeperModel" "w" "[I") (by decide +kernel)) (fun _ h9 => h9) rfl dX6_leftTelegrams_52 ?_
      refine lv_bipush (v := 55) hx hb dX6_leftTelegrams_55 (by decide) ?_
      refine lv_aload_n hx hb dX6_leftTelegrams_57 rfl (lv_at hl 1 rfl) ?_
      refine lv_iload_n hx hb dX6_leftTelegrams_58 rfl (lv_at hl 2 rfl) ?_
      refine k_rd (As := [.int x1]) (rest := [.int 55, .ref (a 0), .int 4]) (bytes := cX6_rightHead) (C := RX6) S (okX6_rightHead l D cI cZ cQ h a X f x1 (by assumption)) gX6_leftTelegrams_X6_rightHead rfl ⟨rfl, rfl⟩ ndX6_rightHead ⟨Nat.le_of_ble_eq_true rfl, Nat.le_of_ble_eq_true rfl⟩ hK hP 0 rfl rfl rfl hl rfl (Nat.le_of_ble_eq_true rfl) dX6_leftTelegrams_59 ⟨Nat.zero_le _, Nat.zero_le _⟩ ?_
      refine lv_iadd hx hb dX6_leftTelegrams_62 ?_
      refine va_iald hx hb hK hP 1 0 rfl rfl (n := 1680) (vin2 (by assumption) (by decide)) dX6_leftTelegrams_63 ?_
      refine lv_isub hx hb dX6_leftTelegrams_64 ?_
      refine lv_istore_n (lv' := [(3, .int (4 - (f 0 (ix (55 + (kX6_rightHead f x1)))))), (2, .int (4 - (f 0 (ix (55 + x1))))), (0, .ref h), (1, .int x1)]) hx hb dX6_leftTelegrams_65 rfl hl (by decide) rfl (fun ls hl => ?_)
      refine lv_iload_n hx hb dX6_leftTelegrams_66 rfl (lv_at hl 1 rfl) ?_
      refine lv_iload_n hx hb dX6_leftTelegrams_67 rfl (lv_at hl 0 rfl) ?_
      refine lv_icmp_ge (tgt := 75) hx hb dX6_leftTelegrams_68 (by decide) (fun c_68 => ?_) (fun c_68 => ?_)
      · have c_68 : (4 - (f 0 (ix (55 + (kX6_rightHead f x1))))) ≤ (4 - (f 0 (ix (55 + x1)))) := c_68
        refine lv_iload_n hx hb dX6_leftTelegrams_75 rfl (lv_at hl 0 rfl) ?_
        have hρ : kX6_leftTelegrams f x1 = (4 - (f 0 (ix (55 + (kX6_rightHead f x1))))) := (if_pos c_10).trans ((if_pos c_43).trans ((if_pos c_68)))
        exact e_rd hx hb hr hlk dX6_leftTelegrams_76 hρ.symm
      have c_68 : ¬ ((4 - (f 0 (ix (55 + (kX6_rightHead f x1))))) ≤ (4 - (f 0 (ix (55 + x1))))) := c_68
      refine lv_iload_n hx hb dX6_leftTelegrams_71 rfl (lv_at hl 1 rfl) ?_
      refine lv_goto (tgt := 76) hx hb dX6_leftTelegrams_72 (by decide) ?_
      have hρ : kX6_leftTelegrams f x1 = (4 - (f 0 (ix (55 + x1)))) := (if_pos c_10).trans ((if_pos c_43).trans ((if_neg c_68)))
      exact e_rd hx hb hr hlk dX6_leftTelegrams_76 hρ.symm
    have c_43 : ¬ ((f 0 (ix (55 + (kX6_rightHead f x1)))) ≤ 3) := c_43
    refine lv_iconst (v := 0) hx hb dX6_leftTelegrams_46 (by decide) ?_
    refine lv_goto (tgt := 65) hx hb dX6_leftTelegrams_47 (by decide) ?_
    refine lv_istore_n (lv' := [(3, .int 0), (2, .int (4 - (f 0 (ix (55 + x1))))), (0, .ref h), (1, .int x1)]) hx hb dX6_leftTelegrams_65 rfl hl (by decide) rfl (fun ls hl => ?_)
    refine lv_iload_n hx hb dX6_leftTelegrams_66 rfl (lv_at hl 1 rfl) ?_
    refine lv_iload_n hx hb dX6_leftTelegrams_67 rfl (lv_at hl 0 rfl) ?_
    refine lv_icmp_ge (tgt := 75) hx hb dX6_leftTelegrams_68 (by decide) (fun c_68 => ?_) (fun c_68 => ?_)
    · have c_68 : 0 ≤ (4 - (f 0 (ix (55 + x1)))) := c_68
      refine lv_iload_n hx hb dX6_leftTelegrams_75 rfl (lv_at hl 0 rfl) ?_
      have hρ : kX6_leftTelegrams f x1 = 0 := (if_pos c_10).trans ((if_neg c_43).trans ((if_pos c_68)))
      exact e_rd hx hb hr hlk dX6_leftTelegrams_76 hρ.symm
    have c_68 : ¬ (0 ≤ (4 - (f 0 (ix (55 + x1))))) := c_68
    refine lv_iload_n hx hb dX6_leftTelegrams_71 rfl (lv_at hl 1 rfl) ?_
    refine lv_goto (tgt := 76) hx hb dX6_leftTelegrams_72 (by decide) ?_
    have hρ : kX6_leftTelegrams f x1 = (4 - (f 0 (ix (55 + x1)))) := (if_pos c_10).trans ((if_neg c_43).trans ((if_neg c_68)))
    exact e_rd hx hb hr hlk dX6_leftTelegrams_76 hρ.symm
  have c_10 : ¬ ((f 0 (ix (55 + x1))) ≤ 3) := c_10
  refine lv_iconst (v := 0) hx hb dX6_leftTelegrams_13 (by decide) ?_
  refine lv_goto (tgt := 28) hx hb dX6_leftTelegrams_14 (by decide) ?_
  refine lv_istore_n (lv' := [(2, .int 0), (0, .ref h), (1, .int x1)]) hx hb dX6_leftTelegrams_28 rfl hl (by decide) rfl (fun ls hl => ?_)
  refine lv_aload_n hx hb dX6_leftTelegrams_29 rfl (lv_at hl 1 rfl) ?_
  refine va_get (v := .ref (a 0)) (C := RX6) (T := TX6) (N := 6) (ci := 6) hx hb hts hinX6 hown hK hP 0 rfl rfl 0 (by decide) (hts (.fieldLink RX6 7 "AxleKeeperModel" "w" "[I") (by decide +kernel)) (fun _ h9 => h9) rfl dX6_leftTelegrams_30 ?_
  refine lv_bipush (v := 55) hx hb dX6_leftTelegrams_33 (by decide) ?_
  refine lv_aload_n hx hb dX6_leftTelegrams_35 rfl (lv_at hl 1 rfl) ?_
  refine lv_iload_n hx hb dX6_leftTelegrams_36 rfl (lv_at hl 2 rfl) ?_
  refine k_rd (As := [.int x1]) (rest := [.int 55, .ref (a 0)]) (bytes := cX6_rightHead) (C := RX6) S (okX6_rightHead l D cI cZ cQ h a X f x1 (by assumption)) gX6_leftTelegrams_X6_rightHead rfl ⟨rfl, rfl⟩ ndX6_rightHead ⟨Nat.le_of_ble_eq_true rfl, Nat.le_of_ble_eq_true rfl⟩ hK hP 0 rfl rfl rfl hl rfl (Nat.le_of_ble_eq_true rfl) dX6_leftTelegrams_37 ⟨Nat.zero_le _, Nat.zero_le _⟩ ?_
  refine lv_iadd hx hb dX6_leftTelegrams_40 ?_
  refine va_iald hx hb hK hP 1 0 rfl rfl (n := 1680) (vin2 (by assumption) (by decide)) dX6_leftTelegrams_41 ?_
  refine lv_iconst (v := 3) hx hb dX6_leftTelegrams_42 (by decide) ?_
  refine lv_icmp_le (tgt := 50) hx hb dX6_leftTelegrams_43 (by decide) (fun c_43 => ?_) (fun c_43 => ?_)
  · have c_43 : (f 0 (ix (55 + (kX6_rightHead f x1)))) ≤ 3 := c_43
    refine lv_iconst (v := 4) hx hb dX6_leftTelegrams_50 (by decide) ?_
    refine lv_aload_n hx hb dX6_leftTelegrams_51 rfl (lv_at hl 1 rfl) ?_
    refine va_get (v := .ref (a 0)) (C := RX6) (T := TX6) (N := 6) (ci := 6) hx hb hts hinX6 hown hK hP 0 rfl rfl 0 (by decide) (hts (.fieldLink RX6 7 "AxleKeeperModel" "w" "[I") (by decide +kernel)) (fun _ h9 => h9) rfl dX6_leftTelegrams_52 ?_
    refine lv_bipush (v := 55) hx hb dX6_leftTelegrams_55 (by decide) ?_
    refine lv_aload_n hx hb dX6_leftTelegrams_57 rfl (lv_at hl 1 rfl) ?_
    refine lv_iload_n hx hb dX6_leftTelegrams_58 rfl (lv_at hl 2 rfl) ?_
    refine k_rd (As := [.int x1]) (rest := [.int 55, .ref (a 0), .int 4]) (bytes := cX6_rightHead) (C := RX6) S (okX6_rightHead l D cI cZ cQ h a X f x1 (by assumption)) gX6_leftTelegrams_X6_rightHead rfl ⟨rfl, rfl⟩ ndX6_rightHead ⟨Nat.le_of_ble_eq_true rfl, Nat.le_of_ble_eq_true rfl⟩ hK hP 0 rfl rfl rfl hl rfl (Nat.le_of_ble_eq_true rfl) dX6_leftTelegrams_59 ⟨Nat.zero_le _, Nat.zero_le _⟩ ?_
    refine lv_iadd hx hb dX6_leftTelegrams_62 ?_
    refine va_iald hx hb hK hP 1 0 rfl rfl (n := 1680) (vin2 (by assumption) (by decide)) dX6_leftTelegrams_63 ?_
    refine lv_isub hx hb dX6_leftTelegrams_64 ?_
    refine lv_istore_n (lv' := [(3, .int (4 - (f 0 (ix (55 + (kX6_rightHead f x1)))))), (2, .int 0), (0, .ref h), (1, .int x1)]) hx hb dX6_leftTelegrams_65 rfl hl (by decide) rfl (fun ls hl => ?_)
    refine lv_iload_n hx hb dX6_leftTelegrams_66 rfl (lv_at hl 1 rfl) ?_
    refine lv_iload_n hx hb dX6_leftTelegrams_67 rfl (lv_at hl 0 rfl) ?_
    refine lv_icmp_ge (tgt := 75) hx hb dX6_leftTelegrams_68 (by decide) (fun c_68 => ?_) (fun c_68 => ?_)
    · have c_68 : (4 - (f 0 (ix (55 + (kX6_rightHead f x1))))) ≤ 0 := c_68
      refine lv_iload_n hx hb dX6_leftTelegrams_75 rfl (lv_at hl 0 rfl) ?_
      have hρ : kX6_leftTelegrams f x1 = (4 - (f 0 (ix (55 + (kX6_rightHead f x1))))) := (if_neg c_10).trans ((if_pos c_43).trans ((if_pos c_68)))
      exact e_rd hx hb hr hlk dX6_leftTelegrams_76 hρ.symm
    have c_68 : ¬ ((4 - (f 0 (ix (55 + (kX6_rightHead f x1))))) ≤ 0) := c_68
    refine lv_iload_n hx hb dX6_leftTelegrams_71 rfl (lv_at hl 1 rfl) ?_
    refine lv_goto (tgt := 76) hx hb dX6_leftTelegrams_72 (by decide) ?_
    have hρ : kX6_leftTelegrams f x1 = 0 := (if_neg c_10).trans ((if_pos c_43).trans ((if_neg c_68)))
    exact e_rd hx hb hr hlk dX6_leftTelegrams_76 hρ.symm
  have c_43 : ¬ ((f 0 (ix (55 + (kX6_rightHead f x1)))) ≤ 3) := c_43
  refine lv_iconst (v := 0) hx hb dX6_leftTelegrams_46 (by decide) ?_
  refine lv_goto (tgt := 65) hx hb dX6_leftTelegrams_47 (by decide) ?_
  refine lv_istore_n (lv' := [(3, .int 0), (2, .int 0), (0, .ref h), (1, .int x1)]) hx hb dX6_leftTelegrams_65 rfl hl (by decide) rfl (fun ls hl => ?_)
  refine lv_iload_n hx hb dX6_leftTelegrams_66 rfl (lv_at hl 1 rfl) ?_
  refine lv_iload_n hx hb dX6_leftTelegrams_67 rfl (lv_at hl 0 rfl) ?_
  refine lv_icmp_ge (tgt := 75) hx hb dX6_leftTelegrams_68 (by decide) (fun c_68 => ?_) (fun c_68 => absurd (by decide) c_68)
  refine lv_iload_n hx hb dX6_leftTelegrams_75 rfl (lv_at hl 0 rfl) ?_
  have hρ : kX6_leftTelegrams f x1 = 0 := (if_neg c_10).trans ((if_neg c_43))
  exact e_rd hx hb hr hlk dX6_leftTelegrams_76 hρ.symm
theorem ndX6_run : yX6_run.cls = RX6 ∧ yX6_run.cls ≠ "java/lang/invoke/MethodHandle" ∧ yX6_run.cls ≠ "java/lang/invoke/VarHandle" ∧ (parseMethodDescriptor yX6_run.desc).map (fun d => d.parameters.length) = some 1 := by decide +kernel
set_option maxHeartbeats 4000000 in
set_option maxRecDepth 100000 in
theorem lpX6_run_4 {p : Program} {e : Env} {s : State} {m : MethodId} {below : List Frame} {meth : Method} {c : Code} (l : Launch) (D : va_G) (cI cZ cQ : ClassId) (h : Nat) (a : Nat → Nat) (X : va_W) (x1 : Int32) (f : Nat → Nat → Int32) (S : CallFix p m c cX6_run 4 s ([.ref h, .int x1] : List Value).toArray wsX6_run RX6) (hr : meth.sig.returnType = (some .int)) (hlk : meth.locks = false) (hK : va_K D vwCl (TY cI cZ cQ) s) (hok : okM f) (h1 : vp_in x1 6) (hP : va_P D vwCl (MW cI h a f ++ X) s.heap) : ∀ (n i : Nat) (v3 : Int32), i ≤ 6 → 6 - i < n → (hv0 : vp_in v3 7) → ∀ {ls : Array Slot}, lv_has ls 4 [(0, .ref h), (1, .int x1), (2, .int (nI i)), (3, .int v3)] → ∀ ρ : Int32, ρ = kX6_run_4 x1 n i f v3 → W p l e { frames := 0, cells := 0, slots := 0, locals := 0 } s m ([.ref h, .int x1] : List Value).toArray below meth c s.heap [] 0 0 (MQ below (QR ρ) ([.ref h, .int x1] : List Value).toArray s 0 0 (fun _ => False)) (F0 m 4 ls []) := by
  have hx := S.1
  have hb := S.2.1
  have hown : s.vm.findClass RX6 = some m.cls := S.2.2.2.1
  have hts := S.2.2.2.2
  have hinX6 : ∀ w ∈ wsX60, w ∈ wsX6_run := by decide +kernel
  intro n
  induction n with
  | zero =>
    intro i _ hi hn
    exact absurd hn (Nat.not_lt_zero _)
  | succ n ih =>
    intro i v3 hi hn hv0 ls hl ρ hρ0
    refine lv_iload_n hx hb dX6_run_4 rfl (lv_at hl 2 rfl) ?_
    refine lv_aload_n hx hb dX6_run_5 rfl (lv_at hl 0 rfl) ?_
    refine va_get (v := .ref (a 0)) (C := RX6) (T := TX6) (N := 6) (ci := 6) hx hb hts hinX6 hown hK hP 0 rfl rfl 0 (by decide) (hts (.fieldLink RX6 7 "AxleKeeperModel" "w" "[I") (by decide +kernel)) (fun _ h9 => h9) rfl dX6_run_6 ?_
    refine lv_iconst (v := 0) hx hb dX6_run_9 (by decide) ?_
    refine va_iald hx hb hK hP 1 0 rfl rfl (n := 1680) (vin_c (by decide)) dX6_run_10 ?_
    refine lv_icmp_ge (tgt := 68) hx hb dX6_run_11 (by decide) (fun c_11 => ?_) (fun c_11 => ?_)
    · have c_11 : (f 0 (ix 0)) ≤ (nI i) := c_11
      refine lv_iload_n hx hb dX6_run_68 rfl (lv_at hl 2 rfl) ?_
      have hρ : kX6_run_4 x1 (n + 1) i f v3 = (nI i) := (if_pos c_11)
      have hρ := hρ0.trans hρ
      exact e_rd hx hb hr hlk dX6_run_69 hρ.symm
    have c_11 : ¬ ((f 0 (ix 0)) ≤ (nI i)) := c_11
    have hlt : i < 6 := il_lt hok.2 (by decide) hi c_11
    refine lv_iload_n hx hb dX6_run_14 rfl (lv_at hl 3 rfl) ?_
    refine lv_aload_n hx hb dX6_run_15 rfl (lv_at hl 0 rfl) ?_
    refine va_get (v := .ref (a 0)) (C := RX6) (T := TX6) (N := 6) (ci := 6) hx hb hts hinX6 hown hK hP 0 rfl rfl 0 (by decide) (hts (.fieldLink RX6 7 "AxleKeeperModel" "w" "[I") (by decide +kernel)) (fun _ h9 => h9) rfl dX6_run_16 ?_
    refine lv_iconst (v := 0) hx hb dX6_run_19 (by decide) ?_
    refine va_iald hx hb hK hP 1 0 rfl rfl (n := 1680) (vin_c (by decide)) dX6_run_20 ?_
    refine lv_icmp_ge (tgt := 68) hx hb dX6_run_21 (by decide) (fun c_21 => ?_) (fun c_21 => ?_)
    · have c_21 : (f 0 (ix 0)) ≤ v3 := c_21
      refine lv_iload_n hx hb dX6_run_68 rfl (lv_at hl 2 rfl) ?_
      have hρ : kX6_run_4 x1 (n + 1) i f v3 = (nI i) := (if_neg c_11).trans ((if_pos c_21))
      have hρ := hρ0.trans hρ
      exact e_rd hx hb hr hlk dX6_run_69 hρ.symm
    have c_21 : ¬ ((f 0 (ix 0)) ≤ v3) := c_21
    have hv6 : vp_in v3 6 := lt6 hok hv0 c_21
    refine lv_aload_n hx hb dX6_run_24 rfl (lv_at hl 0 rfl) ?_
    refine va_get (v := .ref (a 0)) (C := RX6) (T := TX6) (N := 6) (ci := 6) hx hb hts hinX6 hown hK hP 0 rfl rfl 0 (by decide) (hts (.fieldLink RX6 7 "AxleKeeperModel" "w" "[I") (by decide +kernel)) (fun _ h9 => h9) rfl dX6_run_25 ?_
    refine lv_iconst (v := 3) hx hb dX6_run_28 (by decide) ?_
    refine lv_iload_n hx hb dX6_run_29 rfl (lv_at hl 3 rfl) ?_
    refine lv_iadd hx hb dX6_run_30 ?_
    refine va_iald hx hb hK hP 1 0 rfl rfl (n := 1680) (vin2 (by assumption) (by decide)) dX6_run_31 ?_
    refine lv_if_ne (tgt := 68) hx hb dX6_run_32 (by decide) (fun c_32 => ?_) (fun c_32 => ?_)
    · have c_32 : ¬ ((f 0 (ix (3 + v3))) = 0) := c_32
      refine lv_iload_n hx hb dX6_run_68 rfl (lv_at hl 2 rfl) ?_
      have hρ : kX6_run_4 x1 (n + 1) i f v3 = (nI i) := (if_neg c_11).trans ((if_neg c_21).trans ((if_neg c_32)))
      have hρ := hρ0.trans hρ
      exact e_rd hx hb hr hlk dX6_run_69 hρ.symm
    have c_32 : (f 0 (ix (3 + v3))) = 0 := c_32
    refine lv_iinc (v := (nI (i + 1))) (lv' := [(2, .int (nI (i + 1))), (0, .ref h), (1, .int x1), (3, .int v3)]) hx hb dX6_run_35 hl (k := 2) rfl (nI_1 i) (by decide) rfl (fun ls hl => ?_)
    refine lv_aload_n hx hb dX6_run_38 rfl (lv_at hl 1 rfl) ?_
    refine va_get (v := .ref (a 0)) (C := RX6) (T := TX6) (N := 6) (ci := 6) hx hb hts hinX6 hown hK hP 0 rfl rfl 0 (by decide) (hts (.fieldLink RX6 7 "AxleKeeperModel" "w" "[I") (by decide +kernel)) (fun _ h9 => h9) rfl dX6_run_39 ?_
    refine lv_iconst (v := 1) hx hb dX6_run_42 (by decide) ?_
    refine va_iald hx hb hK hP 1 0 rfl rfl (n := 1680) (vin_c (by decide)) dX6_run_43 ?_
    refine lv_iconst (v := 1) hx hb dX6_run_44 (by decide) ?_
    refine lv_icmp_ne (tgt := 61) hx hb dX6_run_45 (by decide) (fun c_45 => ?_) (fun c_45 => ?_)
    · have c_45 : ¬ ((f 0 (ix 1)) = 1) := c_45
      refine lv_iload_n hx hb dX6_run_61 rfl (lv_at hl 3 rfl) ?_
      refine lv_iconst (v := 1) hx hb dX6_run_62 (by decide) ?_
      refine lv_iadd hx hb dX6_run_63 ?_
      refine lv_istore_n (lv' := [(3, .int (v3 + 1)), (2, .int (nI (i + 1))), (0, .ref h), (1, .int x1)]) hx hb dX6_run_64 rfl hl (by decide) rfl (fun ls hl => ?_)
      refine lv_goto (tgt := 4) hx hb dX6_run_65 (by decide) ?_
      have hρ : kX6_run_4 x1 (n + 1) i f v3 = kX6_run_4 x1 n (i + 1) f (v3 + 1) := (if_neg c_11).trans ((if_neg c_21).trans ((if_pos c_32).trans ((if_neg c_45))))
      have hρ := hρ0.trans hρ
      exact ih  (i + 1) (v3 + 1)   (by omega) (by omega) (inc7 hv6) (lv_sub hl [2, 3, 1, 0] rfl) _ hρ
    have c_45 : (f 0 (ix 1)) = 1 := c_45
    refine lv_iload_n hx hb dX6_run_48 rfl (lv_at hl 3 rfl) ?_
    refine lv_iconst (v := 1) hx hb dX6_run_49 (by decide) ?_
    refine lv_iadd hx hb dX6_run_50 ?_
    refine lv_aload_n hx hb dX6_run_51 rfl (lv_at hl 1 rfl) ?_
    refine va_get (v := .ref (a 0)) (C := RX6) (T := TX6) (N := 6) (ci := 6) hx hb hts hinX6 hown hK hP 0 rfl rfl 0 (by decide) (hts (.fieldLink RX6 7 "AxleKeeperModel" "w" "[I") (by decide +kernel)) (fun _ h9 => h9) rfl dX6_run_52 ?_
    refine lv_iconst (v := 0) hx hb dX6_run_55 (by decide) ?_
    refine va_iald hx hb hK hP 1 0 rfl rfl (n := 1680) (vin_c (by decide)) dX6_run_56 ?_
    refine lv_irem hx hb dX6_run_57 (n0M hok) ?_
    refine lv_goto (tgt := 64) hx hb dX6_run_58 (by decide) ?_
    refine lv_istore_n (lv' := [(3, .int (remI (v3 + 1) (f 0 (ix 0)))), (2, .int (nI (i + 1))), (0, .ref h), (1, .int x1)]) hx hb dX6_run_64 rfl hl (by decide) rfl (fun ls hl => ?_)
    refine lv_goto (tgt := 4) hx hb dX6_run_65 (by decide) ?_
    have hρ : kX6_run_4 x1 (n + 1) i f v3 = kX6_run_4 x1 n (i + 1) f (remI (v3 + 1) (f 0 (ix 0))) := (if_neg c_11).trans ((if_neg c_21).trans ((if_pos c_32).trans ((if_pos c_45))))
    have hρ := hρ0.trans hρ
    exact ih  (i + 1) (remI (v3 + 1) (f 0 (ix 0)))   (by omega) (by omega) (rem7 hok hv6) (lv_sub hl [2, 3, 1, 0] rfl) _ hρ
set_option maxHeartbeats 4000000 in
set_option maxRecDepth 100000 in
theorem okX6_run (l : Launch) (D : va_G) (cI cZ cQ : ClassId) (h : Nat) (a : Nat → Nat) (X : va_W) (f : Nat → Nat → Int32) (x1 : Int32) (hok : okM f) (h1 : vp_in x1 6) : Met l yX6_run wsX6_run ({ frames := 0, cells := 0, slots := 0, locals := 0 }) (PR [.ref h, .int x1] D (TY cI cZ cQ) (MW cI h a f ++ X)) (QR (kX6_run f x1)) 0 0 (fun _ => False) := by
  refine m_rd (cc := cX6_run) (maxL := 4) (ret := (some .int)) (by decide) rfl (Nat.le_of_ble_eq_true rfl) (lv0 := [(0, .ref h), (1, .int x1)]) rfl ?_
  intro p e s m below meth c ls S hr hlk hP hK hl
  have S : CallFix p m c cX6_run 4 s ([.ref h, .int x1] : List Value).toArray wsX6_run RX6 := S
  have hx := S.1
  have hb := S.2.1
  have hown : s.vm.findClass RX6 = some m.cls := S.2.2.2.1
  have hts := S.2.2.2.2
  have hinX6 : ∀ w ∈ wsX60, w ∈ wsX6_run := by decide +kernel
  refine lv_iconst (v := 0) hx hb dX6_run_0 (by decide) ?_
  refine lv_istore_n (lv' := [(2, .int 0), (0, .ref h), (1, .int x1)]) hx hb dX6_run_1 rfl hl (by decide) rfl (fun ls hl => ?_)
  refine lv_iload_n hx hb dX6_run_2 rfl (lv_at hl 2 rfl) ?_
  refine lv_istore_n (lv' := [(3, .int x1), (2, .int 0), (0, .ref h), (1, .int x1)]) hx hb dX6_run_3 rfl hl (by decide) rfl (fun ls hl => ?_)
  have hρ : kX6_run f x1 = kX6_run_4 x1 7 0 f x1 := rfl
  exact lpX6_run_4 l D cI cZ cQ h a X x1 f S hr hlk hK hok h1 hP 7 0 x1   (by omega) (by omega) (in67 h1) (lv_sub hl [2, 3, 1, 0] rfl) _ hρ
theorem ndX6_section : yX6_section.cls = RX6 ∧ yX6_section.cls ≠ "java/lang/invoke/MethodHandle" ∧ yX6_section.cls ≠ "java/lang/invoke/VarHandle" ∧ (parseMethodDescriptor yX6_section.desc).map (fun d => d.parameters.length) = some 2 := by decide +kernel
set_option maxHeartbeats 4000000 in
set_option maxRecDepth 100000 in
theorem okX6_section (l : Launch) (D : va_G) (cI cZ cQ : ClassId) (h : Nat) (a : Nat → Nat) (X : va_W) (f : Nat → Nat → Int32) (x1 x2 : Int32) (hok : okM f) : Met l yX6_section wsX6_section ({ frames := 3, cells := 0, slots := 0, locals := 66 }) (PR [.ref h, .int x1, .int x2] D (TY cI cZ cQ) (MW cI h a f ++ X)) (QR (kX6_section f x1 x2)) 0 0 (fun _ => False) := by
  refine m_rd (cc := cX6_section) (maxL := 3) (ret := (some .int)) (by decide) rfl (Nat.le_of_ble_eq_true rfl) (lv0 := [(0, .ref h), (1, .int x1), (2, .int x2)]) rfl ?_
  intro p e s m below meth c ls S hr hlk hP hK hl
  have S : CallFix p m c cX6_section 3 s ([.ref h, .int x1, .int x2] : List Value).toArray wsX6_section RX6 := S
  have hx := S.1
  have hb := S.2.1
  have hown : s.vm.findClass RX6 = some m.cls := S.2.2.2.1
  have hts := S.2.2.2.2
  have hinX6 : ∀ w ∈ wsX60, w ∈ wsX6_section := by decide +kernel
  refine lv_aload_n hx hb dX6_section_0 rfl (lv_at hl 0 rfl) ?_
  refine lv_iload_n hx hb dX6_section_1 rfl (lv_at hl 1 rfl) ?_
  refine k_rd (As := [.int x1]) (rest := []) (bytes := cX6_isSection) (C := RX6) S (okX6_isSection l D cI cZ cQ h a X f x1) gX6_section_X6_isSection rfl ⟨rfl, rfl⟩ ndX6_isSection ⟨Nat.le_of_ble_eq_true rfl, Nat.le_of_ble_eq_true rfl⟩ hK hP 0 rfl rfl rfl hl rfl (Nat.le_of_ble_eq_true rfl) dX6_section_2 ⟨Nat.zero_le _, Nat.zero_le _⟩ ?_
  refine lv_if_ne (tgt := 11) hx hb dX6_section_5 (by decide) (fun c_5 => ?_) (fun c_5 => ?_)
  · have c_5 : ¬ ((kX6_isSection f x1) = 0) := c_5
    have h6 : vp_in x1 6 := ms_in hok c_5
    refine lv_iload_n hx hb dX6_section_11 rfl (lv_at hl 2 rfl) ?_
    by_cases c12_0 : x2 = 0
    · refine lv_tableIn (tgt := 56) (off := 44) hx hb dX6_section_12 (by rw [c12_0]; decide) (by rw [c12_0]; decide) (by rw [c12_0]; rfl) (by decide) ?_
      refine lv_aload_n hx hb dX6_section_56 rfl (lv_at hl 0 rfl) ?_
      refine va_get (v := .ref (a 0)) (C := RX6) (T := TX6) (N := 6) (ci := 6) hx hb hts hinX6 hown hK hP 0 rfl rfl 0 (by decide) (hts (.fieldLink RX6 7 "AxleKeeperModel" "w" "[I") (by decide +kernel)) (fun _ h9 => h9) rfl dX6_section_57 ?_
      refine lv_iconst (v := 3) hx hb dX6_section_60 (by decide) ?_
      refine lv_iload_n hx hb dX6_section_61 rfl (lv_at hl 1 rfl) ?_
      refine lv_iadd hx hb dX6_section_62 ?_
      refine va_iald hx hb hK hP 1 0 rfl rfl (n := 1680) (vin2 (by assumption) (by decide)) dX6_section_63 ?_
      have hρ : kX6_section f x1 x2 = (f 0 (ix (3 + x1))) := (if_neg c_5).trans ((if_pos c12_0))
      exact e_rd hx hb hr hlk dX6_section_64 hρ.symm
    by_cases c12_1 : x2 = 1
    · refine lv_tableIn (tgt := 65) (off := 53) hx hb dX6_section_12 (by rw [c12_1]; decide) (by rw [c12_1]; decide) (by rw [c12_1]; rfl) (by decide) ?_
      refine lv_aload_n hx hb dX6_section_65 rfl (lv_at hl 0 rfl) ?_
      refine va_get (v := .ref (a 0)) (C := RX6) (T := TX6) (N := 6) (ci := 6) hx hb hts hinX6 hown hK hP 0 rfl rfl 0 (by decide) (hts (.fieldLink RX6 7 "AxleKeeperModel" "w" "[I") (by decide +kernel)) (fun _ h9 => h9) rfl dX6_section_66 ?_
      refine lv_bipush (v := 9) hx hb dX6_section_69 (by decide) ?_
      refine lv_iload_n hx hb dX6_section_71 rfl (lv_at hl 1 rfl) ?_
      refine lv_iadd hx hb dX6_section_72 ?_
      refine va_iald hx hb hK hP 1 0 rfl rfl (n := 1680) (vin2 (by assumption) (by decide)) dX6_section_73 ?_
      refine lv_sipush (v := 1000) hx hb dX6_section_74 (by decide) ?_
      refine lv_iadd hx hb dX6_section_77 ?_
      have hρ : kX6_section f x1 x2 = ((f 0 (ix (9 + x1))) + 1000) := (if_neg c_5).trans ((if_neg c12_0).trans ((if_pos c12_1)))
      exact e_rd hx hb hr hlk dX6_section_78 hρ.symm
    by_cases c12_2 : x2 = 2
    · refine lv_tableIn (tgt := 79) (off := 67) hx hb dX6_section_12 (by rw [c12_2]; decide) (by rw [c12_2]; decide) (by rw [c12_2]; rfl) (by decide) ?_
      refine lv_aload_n hx hb dX6_section_79 rfl (lv_at hl 0 rfl) ?_
      refine va_get (v := .ref (a 0)) (C := RX6) (T := TX6) (N := 6) (ci := 6) hx hb hts hinX6 hown hK hP 0 rfl rfl 0 (by decide) (hts (.fieldLink RX6 7 "AxleKeeperModel" "w" "[I") (by decide +kernel)) (fun _ h9 => h9) rfl dX6_section_80 ?_
      refine lv_bipush (v := 15) hx hb dX6_section_83 (by decide) ?_
      refine lv_iload_n hx hb dX6_section_85 rfl (lv_at hl 1 rfl) ?_
      refine lv_iadd hx hb dX6_section_86 ?_
      refine va_iald hx hb hK hP 1 0 rfl rfl (n := 1680) (vin2 (by assumption) (by decide)) dX6_section_87 ?_
      have hρ : kX6_section f x1 x2 = (f 0 (ix (15 + x1))) := (if_neg c_5).trans ((if_neg c12_0).trans ((if_neg c12_1).trans ((if_pos c12_2))))
      exact e_rd hx hb hr hlk dX6_section_88 hρ.symm
    by_cases c12_3 : x2 = 3
    · refine lv_tableIn (tgt := 89) (off := 77) hx hb dX6_section_12 (by rw [c12_3]; decide) (by rw [c12_3]; decide) (by rw [c12_3]; rfl) (by decide) ?_
      refine lv_aload_n hx hb dX6_section_89 rfl (lv_at hl 0 rfl) ?_
      refine lv_iconst (v := 0) hx hb dX6_section_90 (by decide) ?_
      refine lv_iload_n hx hb dX6_section_91 rfl (lv_at hl 1 rfl) ?_
      refine k_rd (As := [.int 0, .int x1]) (rest := []) (bytes := cX6_isTrouble) (C := RX6) S (okX6_isTrouble l D cI cZ cQ h a X f 0 x1 hok (vin_c (by decide)) h6) gX6_section_X6_isTrouble rfl ⟨rfl, rfl⟩ ndX6_isTrouble ⟨Nat.le_of_ble_eq_true rfl, Nat.le_of_ble_eq_true rfl⟩ hK hP 0 rfl rfl rfl hl rfl (Nat.le_of_ble_eq_true rfl) dX6_section_92 ⟨Nat.zero_le _, Nat.zero_le _⟩ ?_
      refine lv_if_eq (tgt := 102) hx hb dX6_section_95 (by decide) (fun c_95 => ?_) (fun c_95 => ?_)
      · have c_95 : (kX6_isTrouble f 0 x1) = 0 := c_95
        refine lv_iconst (v := 0) hx hb dX6_section_102 (by decide) ?_
        have hρ : kX6_section f x1 x2 = 0 := (if_neg c_5).trans ((if_neg c12_0).trans ((if_neg c12_1).trans ((if_neg c12_2).trans ((if_pos c12_3).trans ((if_pos c_95))))))
        exact e_rd hx hb hr hlk dX6_section_103 hρ.symm
      have c_95 : ¬ ((kX6_isTrouble f 0 x1) = 0) := c_95
      refine lv_iconst (v := 1) hx hb dX6_section_98 (by decide) ?_
      refine lv_goto (tgt := 103) hx hb dX6_section_99 (by decide) ?_
      have hρ : kX6_section f x1 x2 = 1 := (if_neg c_5).trans ((if_neg c12_0).trans ((if_neg c12_1).trans ((if_neg c12_2).trans ((if_pos c12_3).trans ((if_neg c_95))))))
      exact e_rd hx hb hr hlk dX6_section_103 hρ.symm
    by_cases c12_4 : x2 = 4
    · refine lv_tableIn (tgt := 104) (off := 92) hx hb dX6_section_12 (by rw [c12_4]; decide) (by rw [c12_4]; decide) (by rw [c12_4]; rfl) (by decide) ?_
      refine lv_aload_n hx hb dX6_section_104 rfl (lv_at hl 0 rfl) ?_
      refine va_get (v := .ref (a 0)) (C := RX6) (T := TX6) (N := 6) (ci := 6) hx hb hts hinX6 hown hK hP 0 rfl rfl 0 (by decide) (hts (.fieldLink RX6 7 "AxleKeeperModel" "w" "[I") (by decide +kernel)) (fun _ h9 => h9) rfl dX6_section_105 ?_
      refine lv_bipush (v := 21) hx hb dX6_section_108 (by decide) ?_
      refine lv_iload_n hx hb dX6_section_110 rfl (lv_at hl 1 rfl) ?_
      refine lv_iadd hx hb dX6_section_111 ?_
      refine va_iald hx hb hK hP 1 0 rfl rfl (n := 1680) (vin2 (by assumption) (by decide)) dX6_section_112 ?_
      have hρ : kX6_section f x1 x2 = (f 0 (ix (21 + x1))) := (if_neg c_5).trans ((if_neg c12_0).trans ((if_neg c12_1).trans ((if_neg c12_2).trans ((if_neg c12_3).trans ((if_pos c12_4))))))
      exact e_rd hx hb hr hlk dX6_section_113 hρ.symm
    by_cases c12_5 : x2 = 5
    · refine lv_tableIn (tgt := 114) (off := 102) hx hb dX6_section_12 (by rw [c12_5]; decide) (by rw [c12_5]; decide) (by rw [c12_5]; rfl) (by decide) ?_
      refine lv_aload_n hx hb dX6_section_114 rfl (lv_at hl 0 rfl) ?_
      refine lv_iload_n hx hb dX6_section_115 rfl (lv_at hl 1 rfl) ?_
      refine k_rd (As := [.int x1]) (rest := []) (bytes := cX6_leftTelegrams) (C := RX6) S (okX6_leftTelegrams l D cI cZ cQ h a X f x1 (by assumption) (by assumption)) gX6_section_X6_leftTelegrams rfl ⟨rfl, rfl⟩ ndX6_leftTelegrams ⟨Nat.le_of_ble_eq_true rfl, Nat.le_of_ble_eq_true rfl⟩ hK hP 0 rfl rfl rfl hl rfl (Nat.le_of_ble_eq_true rfl) dX6_section_116 ⟨Nat.zero_le _, Nat.zero_le _⟩ ?_
      have hρ : kX6_section f x1 x2 = (kX6_leftTelegrams f x1) := (if_neg c_5).trans ((if_neg c12_0).trans ((if_neg c12_1).trans ((if_neg c12_2).trans ((if_neg c12_3).trans ((if_neg c12_4).trans ((if_pos c12_5)))))))
      exact e_rd hx hb hr hlk dX6_section_119 hρ.symm
    by_cases c12_6 : x2 = 6
    · refine lv_tableIn (tgt := 120) (off := 108) hx hb dX6_section_12 (by rw [c12_6]; decide) (by rw [c12_6]; decide) (by rw [c12_6]; rfl) (by decide) ?_
      refine lv_aload_n hx hb dX6_section_120 rfl (lv_at hl 0 rfl) ?_
      refine lv_iload_n hx hb dX6_section_121 rfl (lv_at hl 1 rfl) ?_
      refine k_rd (As := [.int x1]) (rest := []) (bytes := cX6_run) (C := RX6) S (okX6_run l D cI cZ cQ h a X f x1 (by assumption) (by assumption)) gX6_section_X6_run rfl ⟨rfl, rfl⟩ ndX6_run ⟨Nat.le_of_ble_eq_true rfl, Nat.le_of_ble_eq_true rfl⟩ hK hP 0 rfl rfl rfl hl rfl (Nat.le_of_ble_eq_true rfl) dX6_section_122 ⟨Nat.zero_le _, Nat.zero_le _⟩ ?_
      have hρ : kX6_section f x1 x2 = (kX6_run f x1) := (if_neg c_5).trans ((if_neg c12_0).trans ((if_neg c12_1).trans ((if_neg c12_2).trans ((if_neg c12_3).trans ((if_neg c12_4).trans ((if_neg c12_5).trans ((if_pos c12_6))))))))
      exact e_rd hx hb hr hlk dX6_section_125 hρ.symm
    have hsw : x2.toInt < 0 ∨ 6 < x2.toInt := sw_out 6 (fun j hj => by
      rcases (show j = 0 ∨ j = 1 ∨ j = 2 ∨ j = 3 ∨ j = 4 ∨ j = 5 ∨ j = 6 by omega) with rfl | rfl | rfl | rfl | rfl | rfl | rfl
      · exact c12_0
      · exact c12_1
      · exact c12_2
      · exact c12_3
      · exact c12_4
      · exact c12_5
      · exact c12_6)
    refine lv_tableOut (tgt := 126) hx hb dX6_section_12 hsw (by decide) ?_
    refine lv_ldc (v := (-1000000002)) hx hb hown (hts (.constant RX6 101 (-1000000002)) (by decide +kernel)) dX6_section_126 ?_
    have hρ : kX6_section f x1 x2 = (-1000000002) := (if_neg c_5).trans ((if_neg c12_0).trans ((if_neg c12_1).trans ((if_neg c12_2).trans ((if_neg c12_3).trans ((if_neg c12_4).trans ((if_neg c12_5).trans ((if_neg c12_6))))))))
    exact e_rd hx hb hr hlk dX6_section_128 hρ.symm
  have c_5 : (kX6_isSection f x1) = 0 := c_5
  refine lv_ldc (v := (-1000000001)) hx hb hown (hts (.constant RX6 102 (-1000000001)) (by decide +kernel)) dX6_section_8 ?_
  have hρ : kX6_section f x1 x2 = (-1000000001) := (if_pos c_5)
  exact e_rd hx hb hr hlk dX6_section_10 hρ.symm
theorem ndX6_joint : yX6_joint.cls = RX6 ∧ yX6_joint.cls ≠ "java/lang/invoke/MethodHandle" ∧ yX6_joint.cls ≠ "java/lang/invoke/VarHandle" ∧ (parseMethodDescriptor yX6_joint.desc).map (fun d => d.parameters.length) = some 1 := by decide +kernel
set_option maxHeartbeats 4000000 in
set_option maxRecDepth 100000 in
theorem okX6_joint (l : Launch) (D : va_G) (cI cZ cQ : ClassId) (h : Nat) (a : Nat → Nat) (X : va_W) (f : Nat → Nat → Int32) (x1 : Int32) (hok : okM f) (h1 : vp_in x1 7) : Met l yX6_joint wsX6_joint ({ frames := 2, cells := 0, slots := 0, locals := 42 }) (PR [.ref h, .int x1] D (TY cI cZ cQ) (MW cI h a f ++ X)) (QR (kX6_joint f x1)) 0 0 (fun _ => False) := by
  refine m_rd (cc := cX6_joint) (maxL := 2) (ret := (some .int)) (by decide) rfl (Nat.le_of_ble_eq_true rfl) (lv0 := [(0, .ref h), (1, .int x1)]) rfl ?_
  intro p e s m below meth c ls S hr hlk hP hK hl
  have S : CallFix p m c cX6_joint 2 s ([.ref h, .int x1] : List Value).toArray wsX6_joint RX6 := S
  have hx := S.1
  have hb := S.2.1
  have hown : s.vm.findClass RX6 = some m.cls := S.2.2.2.1
  have hts := S.2.2.2.2
  have hinX6 : ∀ w ∈ wsX60, w ∈ wsX6_joint := by decide +kernel
  refine lv_aload_n hx hb dX6_joint_0 rfl (lv_at hl 0 rfl) ?_
  refine lv_iload_n hx hb dX6_joint_1 rfl (lv_at hl 1 rfl) ?_
  refine k_rd (As := [.int x1]) (rest := []) (bytes := cX6_isJoint) (C := RX6) S (okX6_isJoint l D cI cZ cQ h a X f x1) gX6_joint_X6_isJoint rfl ⟨rfl, rfl⟩ ndX6_isJoint ⟨Nat.le_of_ble_eq_true rfl, Nat.le_of_ble_eq_true rfl⟩ hK hP 0 rfl rfl rfl hl rfl (Nat.le_of_ble_eq_true rfl) dX6_joint_2 ⟨Nat.zero_le _, Nat.zero_le _⟩ ?_
  refine lv_if_eq (tgt := 42) hx hb dX6_joint_5 (by decide) (fun c_5 => ?_) (fun c_5 => ?_)
  · have c_5 : (kX6_isJoint f x1) = 0 := c_5
    refine lv_iconst (v := (-1)) hx hb dX6_joint_42 (by decide) ?_
    have hρ : kX6_joint f x1 = (-1) := (if_pos c_5)
    exact e_rd hx hb hr hlk dX6_joint_43 hρ.symm
  have c_5 : ¬ ((kX6_isJoint f x1) = 0) := c_5
  have hvl : vp_in (kX6_leftOf f x1) 6 := (mj_in hok h1 c_5).1
  have hvr : vp_in (kX6_rightOf f x1) 6 := (mj_in hok h1 c_5).2
  refine lv_aload_n hx hb dX6_joint_8 rfl (lv_at hl 0 rfl) ?_
  refine va_get (v := .ref (a 0)) (C := RX6) (T := TX6) (N := 6) (ci := 6) hx hb hts hinX6 hown hK hP 0 rfl rfl 0 (by decide) (hts (.fieldLink RX6 7 "AxleKeeperModel" "w" "[I") (by decide +kernel)) (fun _ h9 => h9) rfl dX6_joint_9 ?_
  refine lv_bipush (v := 9) hx hb dX6_joint_12 (by decide) ?_
  refine lv_aload_n hx hb dX6_joint_14 rfl (lv_at hl 0 rfl) ?_
  refine lv_iload_n hx hb dX6_joint_15 rfl (lv_at hl 1 rfl) ?_
  refine k_rd (As := [.int x1]) (rest := [.int 9, .ref (a 0)]) (bytes := cX6_leftOf) (C := RX6) S (okX6_leftOf l D cI cZ cQ h a X f x1) gX6_joint_X6_leftOf rfl ⟨rfl, rfl⟩ ndX6_leftOf ⟨Nat.le_of_ble_eq_true rfl, Nat.le_of_ble_eq_true rfl⟩ hK hP 0 rfl rfl rfl hl rfl (Nat.le_of_ble_eq_true rfl) dX6_joint_16 ⟨Nat.zero_le _, Nat.zero_le _⟩ ?_
  refine lv_iadd hx hb dX6_joint_19 ?_
  refine va_iald hx hb hK hP 1 0 rfl rfl (n := 1680) (vin2 (by assumption) (by decide)) dX6_joint_20 ?_
  refine lv_aload_n hx hb dX6_joint_21 rfl (lv_at hl 0 rfl) ?_
  refine va_get (v := .ref (a 0)) (C := RX6) (T := TX6) (N := 6) (ci := 6) hx hb hts hinX6 hown hK hP 0 rfl rfl 0 (by decide) (hts (.fieldLink RX6 7 "AxleKeeperModel" "w" "[I") (by decide +kernel)) (fun _ h9 => h9) rfl dX6_joint_22 ?_
  refine lv_bipush (v := 9) hx hb dX6_joint_25 (by decide) ?_
  refine lv_aload_n hx hb dX6_joint_27 rfl (lv_at hl 0 rfl) ?_
  refine lv_iload_n hx hb dX6_joint_28 rfl (lv_at hl 1 rfl) ?_
  refine k_rd (As := [.int x1]) (rest := [.int 9, .ref (a 0), .int (f 0 (ix (9 + (kX6_leftOf f x1))))]) (bytes := cX6_rightOf) (C := RX6) S (okX6_rightOf l D cI cZ cQ h a X f x1) gX6_joint_X6_rightOf rfl ⟨rfl, rfl⟩ ndX6_rightOf ⟨Nat.le_of_ble_eq_true rfl, Nat.le_of_ble_eq_true rfl⟩ hK hP 0 rfl rfl rfl hl rfl (Nat.le_of_ble_eq_true rfl) dX6_joint_29 ⟨Nat.zero_le _, Nat.zero_le _⟩ ?_
  refine lv_iadd hx hb dX6_joint_32 ?_
  refine va_iald hx hb hK hP 1 0 rfl rfl (n := 1680) (vin2 (by assumption) (by decide)) dX6_joint_33 ?_
  refine lv_iadd hx hb dX6_joint_34 ?_
  refine lv_sipush (v := 2000) hx hb dX6_joint_35 (by decide) ?_
  refine lv_iadd hx hb dX6_joint_38 ?_
  refine lv_goto (tgt := 43) hx hb dX6_joint_39 (by decide) ?_
  have hρ : kX6_joint f x1 = (((f 0 (ix (9 + (kX6_leftOf f x1)))) + (f 0 (ix (9 + (kX6_rightOf f x1))))) + 2000) := (if_neg c_5)
  exact e_rd hx hb hr hlk dX6_joint_43 hρ.symm
theorem ndX6_head : yX6_head.cls = RX6 ∧ yX6_head.cls ≠ "java/lang/invoke/MethodHandle" ∧ yX6_head.cls ≠ "java/lang/invoke/VarHandle" ∧ (parseMethodDescriptor yX6_head.desc).map (fun d => d.parameters.length) = some 2 := by decide +kernel
set_option maxHeartbeats 4000000 in
set_option maxRecDepth 100000 in
theorem okX6_head (l : Launch) (D : va_G) (cI cZ cQ : ClassId) (h : Nat) (a : Nat → Nat) (X : va_W) (f : Nat → Nat → Int32) (x1 x2 : Int32) (hok : okM f) : Met l yX6_head wsX6_head ({ frames := 3, cells := 0, slots := 0, locals := 70 }) (PR [.ref h, .int x1, .int x2] D (TY cI cZ cQ) (MW cI h a f ++ X)) (QR (kX6_head f x1 x2)) 0 0 (fun _ => False) := by
  refine m_rd (cc := cX6_head) (maxL := 3) (ret := (some .int)) (by decide) rfl (Nat.le_of_ble_eq_true rfl) (lv0 := [(0, .ref h), (1, .int x1), (2, .int x2)]) rfl ?_
  intro p e s m below meth c ls S hr hlk hP hK hl
  have S : CallFix p m c cX6_head 3 s ([.ref h, .int x1, .int x2] : List Value).toArray wsX6_head RX6 := S
  have hx := S.1
  have hb := S.2.1
  have hown : s.vm.findClass RX6 = some m.cls := S.2.2.2.1
  have hts := S.2.2.2.2
  have hinX6 : ∀ w ∈ wsX60, w ∈ wsX6_head := by decide +kernel
  refine lv_aload_n hx hb dX6_head_0 rfl (lv_at hl 0 rfl) ?_
  refine lv_iload_n hx hb dX6_head_1 rfl (lv_at hl 1 rfl) ?_
  refine k_rd (As := [.int x1]) (rest := []) (bytes := cX6_isHead) (C := RX6) S (okX6_isHead l D cI cZ cQ h a X f x1) gX6_head_X6_isHead rfl ⟨rfl, rfl⟩ ndX6_isHead ⟨Nat.le_of_ble_eq_true rfl, Nat.le_of_ble_eq_true rfl⟩ hK hP 0 rfl rfl rfl hl rfl (Nat.le_of_ble_eq_true rfl) dX6_head_2 ⟨Nat.zero_le _, Nat.zero_le _⟩ ?_
  refine lv_if_ne (tgt := 11) hx hb dX6_head_5 (by decide) (fun c_5 => ?_) (fun c_5 => ?_)
  · have c_5 : ¬ ((kX6_isHead f x1) = 0) := c_5
    have h7 : vp_in x1 7 := mh_in hok c_5
    refine lv_iload_n hx hb dX6_head_11 rfl (lv_at hl 2 rfl) ?_
    by_cases c12_0 : x2 = 0
    · refine lv_tableIn (tgt := 68) (off := 56) hx hb dX6_head_12 (by rw [c12_0]; decide) (by rw [c12_0]; decide) (by rw [c12_0]; rfl) (by decide) ?_
      refine lv_aload_n hx hb dX6_head_68 rfl (lv_at hl 0 rfl) ?_
      refine va_get (v := .ref (a 0)) (C := RX6) (T := TX6) (N := 6) (ci := 6) hx hb hts hinX6 hown hK hP 0 rfl rfl 0 (by decide) (hts (.fieldLink RX6 7 "AxleKeeperModel" "w" "[I") (by decide +kernel)) (fun _ h9 => h9) rfl dX6_head_69 ?_
      refine lv_bipush (v := 27) hx hb dX6_head_72 (by decide) ?_
      refine lv_iload_n hx hb dX6_head_74 rfl (lv_at hl 1 rfl) ?_
      refine lv_iadd hx hb dX6_head_75 ?_
      refine va_iald hx hb hK hP 1 0 rfl rfl (n := 1680) (vin2 (by assumption) (by decide)) dX6_head_76 ?_
      have hρ : kX6_head f x1 x2 = (f 0 (ix (27 + x1))) := (if_neg c_5).trans ((if_pos c12_0))
      exact e_rd hx hb hr hlk dX6_head_77 hρ.symm
    by_cases c12_1 : x2 = 1
    · refine lv_tableIn (tgt := 78) (off := 66) hx hb dX6_head_12 (by rw [c12_1]; decide) (by rw [c12_1]; decide) (by rw [c12_1]; rfl) (by decide) ?_
      refine lv_aload_n hx hb dX6_head_78 rfl (lv_at hl 0 rfl) ?_
      refine va_get (v := .ref (a 0)) (C := RX6) (T := TX6) (N := 6) (ci := 6) hx hb hts hinX6 hown hK hP 0 rfl rfl 0 (by decide) (hts (.fieldLink RX6 7 "AxleKeeperModel" "w" "[I") (by decide +kernel)) (fun _ h9 => h9) rfl dX6_head_79 ?_
      refine lv_bipush (v := 34) hx hb dX6_head_82 (by decide) ?_
      refine lv_iload_n hx hb dX6_head_84 rfl (lv_at hl 1 rfl) ?_
      refine lv_iadd hx hb dX6_head_85 ?_
      refine va_iald hx hb hK hP 1 0 rfl rfl (n := 1680) (vin2 (by assumption) (by decide)) dX6_head_86 ?_
      refine lv_iconst (v := 4) hx hb dX6_head_87 (by decide) ?_
      refine lv_iadd hx hb dX6_head_88 ?_
      have hρ : kX6_head f x1 x2 = ((f 0 (ix (34 + x1))) + 4) := (if_neg c_5).trans ((if_neg c12_0).trans ((if_pos c12_1)))
      exact e_rd hx hb hr hlk dX6_head_89 hρ.symm
    by_cases c12_2 : x2 = 2
    · refine lv_tableIn (tgt := 90) (off := 78) hx hb dX6_head_12 (by rw [c12_2]; decide) (by rw [c12_2]; decide) (by rw [c12_2]; rfl) (by decide) ?_
      refine lv_aload_n hx hb dX6_head_90 rfl (lv_at hl 0 rfl) ?_
      refine va_get (v := .ref (a 0)) (C := RX6) (T := TX6) (N := 6) (ci := 6) hx hb hts hinX6 hown hK hP 0 rfl rfl 0 (by decide) (hts (.fieldLink RX6 7 "AxleKeeperModel" "w" "[I") (by decide +kernel)) (fun _ h9 => h9) rfl dX6_head_91 ?_
      refine lv_bipush (v := 41) hx hb dX6_head_94 (by decide) ?_
      refine lv_iload_n hx hb dX6_head_96 rfl (lv_at hl 1 rfl) ?_
      refine lv_iadd hx hb dX6_head_97 ?_
      refine va_iald hx hb hK hP 1 0 rfl rfl (n := 1680) (vin2 (by assumption) (by decide)) dX6_head_98 ?_
      refine lv_sipush (v := 10000) hx hb dX6_head_99 (by decide) ?_
      refine lv_iadd hx hb dX6_head_102 ?_
      have hρ : kX6_head f x1 x2 = ((f 0 (ix (41 + x1))) + 10000) := (if_neg c_5).trans ((if_neg c12_0).trans ((if_neg c12_1).trans ((if_pos c12_2))))
      exact e_rd hx hb hr hlk dX6_head_103 hρ.symm
    by_cases c12_3 : x2 = 3
    · refine lv_tableIn (tgt := 104) (off := 92) hx hb dX6_head_12 (by rw [c12_3]; decide) (by rw [c12_3]; decide) (by rw [c12_3]; rfl) (by decide) ?_
      refine lv_aload_n hx hb dX6_head_104 rfl (lv_at hl 0 rfl) ?_
      refine va_get (v := .ref (a 0)) (C := RX6) (T := TX6) (N := 6) (ci := 6) hx hb hts hinX6 hown hK hP 0 rfl rfl 0 (by decide) (hts (.fieldLink RX6 7 "AxleKeeperModel" "w" "[I") (by decide +kernel)) (fun _ h9 => h9) rfl dX6_head_105 ?_
      refine lv_bipush (v := 48) hx hb dX6_head_108 (by decide) ?_
      refine lv_iload_n hx hb dX6_head_110 rfl (lv_at hl 1 rfl) ?_
      refine lv_iadd hx hb dX6_head_111 ?_
      refine va_iald hx hb hK hP 1 0 rfl rfl (n := 1680) (vin2 (by assumption) (by decide)) dX6_head_112 ?_
      have hρ : kX6_head f x1 x2 = (f 0 (ix (48 + x1))) := (if_neg c_5).trans ((if_neg c12_0).trans ((if_neg c12_1).trans ((if_neg c12_2).trans ((if_pos c12_3)))))
      exact e_rd hx hb hr hlk dX6_head_113 hρ.symm
    by_cases c12_4 : x2 = 4
    · refine lv_tableIn (tgt := 114) (off := 102) hx hb dX6_head_12 (by rw [c12_4]; decide) (by rw [c12_4]; decide) (by rw [c12_4]; rfl) (by decide) ?_
      refine lv_aload_n hx hb dX6_head_114 rfl (lv_at hl 0 rfl) ?_
      refine va_get (v := .ref (a 0)) (C := RX6) (T := TX6) (N := 6) (ci := 6) hx hb hts hinX6 hown hK hP 0 rfl rfl 0 (by decide) (hts (.fieldLink RX6 7 "AxleKeeperModel" "w" "[I") (by decide +kernel)) (fun _ h9 => h9) rfl dX6_head_115 ?_
      refine lv_bipush (v := 55) hx hb dX6_head_118 (by decide) ?_
      refine lv_iload_n hx hb dX6_head_120 rfl (lv_at hl 1 rfl) ?_
      refine lv_iadd hx hb dX6_head_121 ?_
      refine va_iald hx hb hK hP 1 0 rfl rfl (n := 1680) (vin2 (by assumption) (by decide)) dX6_head_122 ?_
      have hρ : kX6_head f x1 x2 = (f 0 (ix (55 + x1))) := (if_neg c_5).trans ((if_neg c12_0).trans ((if_neg c12_1).trans ((if_neg c12_2).trans ((if_neg c12_3).trans ((if_pos c12_4))))))
      exact e_rd hx hb hr hlk dX6_head_123 hρ.symm
    by_cases c12_5 : x2 = 5
    · refine lv_tableIn (tgt := 124) (off := 112) hx hb dX6_head_12 (by rw [c12_5]; decide) (by rw [c12_5]; decide) (by rw [c12_5]; rfl) (by decide) ?_
      refine lv_aload_n hx hb dX6_head_124 rfl (lv_at hl 0 rfl) ?_
      refine va_get (v := .ref (a 0)) (C := RX6) (T := TX6) (N := 6) (ci := 6) hx hb hts hinX6 hown hK hP 0 rfl rfl 0 (by decide) (hts (.fieldLink RX6 7 "AxleKeeperModel" "w" "[I") (by decide +kernel)) (fun _ h9 => h9) rfl dX6_head_125 ?_
      refine lv_bipush (v := 62) hx hb dX6_head_128 (by decide) ?_
      refine lv_iload_n hx hb dX6_head_130 rfl (lv_at hl 1 rfl) ?_
      refine lv_iadd hx hb dX6_head_131 ?_
      refine va_iald hx hb hK hP 1 0 rfl rfl (n := 1680) (vin2 (by assumption) (by decide)) dX6_head_132 ?_
      have hρ : kX6_head f x1 x2 = (f 0 (ix (62 + x1))) := (if_neg c_5).trans ((if_neg c12_0).trans ((if_neg c12_1).trans ((if_neg c12_2).trans ((if_neg c12_3).trans ((if_neg c12_4).trans ((if_pos c12_5)))))))
      exact e_rd hx hb hr hlk dX6_head_133 hρ.symm
    by_cases c12_6 : x2 = 6
    · refine lv_tableIn (tgt := 134) (off := 122) hx hb dX6_head_12 (by rw [c12_6]; decide) (by rw [c12_6]; decide) (by rw [c12_6]; rfl) (by decide) ?_
      refine lv_aload_n hx hb dX6_head_134 rfl (lv_at hl 0 rfl) ?_
      refine va_get (v := .ref (a 0)) (C := RX6) (T := TX6) (N := 6) (ci := 6) hx hb hts hinX6 hown hK hP 0 rfl rfl 0 (by decide) (hts (.fieldLink RX6 7 "AxleKeeperModel" "w" "[I") (by decide +kernel)) (fun _ h9 => h9) rfl dX6_head_135 ?_
      refine lv_bipush (v := 69) hx hb dX6_head_138 (by decide) ?_
      refine lv_iload_n hx hb dX6_head_140 rfl (lv_at hl 1 rfl) ?_
      refine lv_iadd hx hb dX6_head_141 ?_
      refine va_iald hx hb hK hP 1 0 rfl rfl (n := 1680) (vin2 (by assumption) (by decide)) dX6_head_142 ?_
      have hρ : kX6_head f x1 x2 = (f 0 (ix (69 + x1))) := (if_neg c_5).trans ((if_neg c12_0).trans ((if_neg c12_1).trans ((if_neg c12_2).trans ((if_neg c12_3).trans ((if_neg c12_4).trans ((if_neg c12_5).trans ((if_pos c12_6))))))))
      exact e_rd hx hb hr hlk dX6_head_143 hρ.symm
    by_cases c12_7 : x2 = 7
    · refine lv_tableIn (tgt := 144) (off := 132) hx hb dX6_head_12 (by rw [c12_7]; decide) (by rw [c12_7]; decide) (by rw [c12_7]; rfl) (by decide) ?_
      refine lv_aload_n hx hb dX6_head_144 rfl (lv_at hl 0 rfl) ?_
      refine va_get (v := .ref (a 0)) (C := RX6) (T := TX6) (N := 6) (ci := 6) hx hb hts hinX6 hown hK hP 0 rfl rfl 0 (by decide) (hts (.fieldLink RX6 7 "AxleKeeperModel" "w" "[I") (by decide +kernel)) (fun _ h9 => h9) rfl dX6_head_145 ?_
      refine lv_bipush (v := 76) hx hb dX6_head_148 (by decide) ?_
      refine lv_iload_n hx hb dX6_head_150 rfl (lv_at hl 1 rfl) ?_
      refine lv_iadd hx hb dX6_head_151 ?_
      refine va_iald hx hb hK hP 1 0 rfl rfl (n := 1680) (vin2 (by assumption) (by decide)) dX6_head_152 ?_
      have hρ : kX6_head f x1 x2 = (f 0 (ix (76 + x1))) := (if_neg c_5).trans ((if_neg c12_0).trans ((if_neg c12_1).trans ((if_neg c12_2).trans ((if_neg c12_3).trans ((if_neg c12_4).trans ((if_neg c12_5).trans ((if_neg c12_6).trans ((if_pos c12_7)))))))))
      exact e_rd hx hb hr hlk dX6_head_153 hρ.symm
    by_cases c12_8 : x2 = 8
    · refine lv_tableIn (tgt := 154) (off := 142) hx hb dX6_head_12 (by rw [c12_8]; decide) (by rw [c12_8]; decide) (by rw [c12_8]; rfl) (by decide) ?_
      refine lv_aload_n hx hb dX6_head_154 rfl (lv_at hl 0 rfl) ?_
      refine lv_iload_n hx hb dX6_head_155 rfl (lv_at hl 1 rfl) ?_
      refine k_rd (As := [.int x1]) (rest := []) (bytes := cX6_joint) (C := RX6) S (okX6_joint l D cI cZ cQ h a X f x1 (by assumption) (by assumption)) gX6_head_X6_joint rfl ⟨rfl, rfl⟩ ndX6_joint ⟨Nat.le_of_ble_eq_true rfl, Nat.le_of_ble_eq_true rfl⟩ hK hP 0 rfl rfl rfl hl rfl (Nat.le_of_ble_eq_true rfl) dX6_head_156 ⟨Nat.zero_le _, Nat.zero_le _⟩ ?_
      have hρ : kX6_head f x1 x2 = (kX6_joint f x1) := (if_neg c_5).trans ((if_neg c12_0).trans ((if_neg c12_1).trans ((if_neg c12_2).trans ((if_neg c12_3).trans ((if_neg c12_4).trans ((if_neg c12_5).trans ((if_neg c12_6).trans ((if_neg c12_7).trans ((if_pos c12_8))))))))))
      exact e_rd hx hb hr hlk dX6_head_159 hρ.symm
    by_cases c12_9 : x2 = 9
    · refine lv_tableIn (tgt := 160) (off := 148) hx hb dX6_head_12 (by rw [c12_9]; decide) (by rw [c12_9]; decide) (by rw [c12_9]; rfl) (by decide) ?_
      refine lv_aload_n hx hb dX6_head_160 rfl (lv_at hl 0 rfl) ?_
      refine lv_iload_n hx hb dX6_head_161 rfl (lv_at hl 1 rfl) ?_
      refine k_rd (As := [.int x1]) (rest := []) (bytes := cX6_byHowMuch) (C := RX6) S (okX6_byHowMuch l D cI cZ cQ h a X f x1 (by assumption)) gX6_head_X6_byHowMuch rfl ⟨rfl, rfl⟩ ndX6_byHowMuch ⟨Nat.le_of_ble_eq_true rfl, Nat.le_of_ble_eq_true rfl⟩ hK hP 0 rfl rfl rfl hl rfl (Nat.le_of_ble_eq_true rfl) dX6_head_162 ⟨Nat.zero_le _, Nat.zero_le _⟩ ?_
      refine lv_if_ne (tgt := 172) hx hb dX6_head_165 (by decide) (fun c_165 => ?_) (fun c_165 => ?_)
      · have c_165 : ¬ ((kX6_byHowMuch f x1) = 0) := c_165
        refine lv_aload_n hx hb dX6_head_172 rfl (lv_at hl 0 rfl) ?_
        refine lv_iload_n hx hb dX6_head_173 rfl (lv_at hl 1 rfl) ?_
        refine k_rd (As := [.int x1]) (rest := []) (bytes := cX6_byHowMuch) (C := RX6) S (okX6_byHowMuch l D cI cZ cQ h a X f x1 (by assumption)) gX6_head_X6_byHowMuch rfl ⟨rfl, rfl⟩ ndX6_byHowMuch ⟨Nat.le_of_ble_eq_true rfl, Nat.le_of_ble_eq_true rfl⟩ hK hP 0 rfl rfl rfl hl rfl (Nat.le_of_ble_eq_true rfl) dX6_head_174 ⟨Nat.zero_le _, Nat.zero_le _⟩ ?_
        refine lv_bipush (v := 10) hx hb dX6_head_177 (by decide) ?_
        refine lv_iadd hx hb dX6_head_179 ?_
        have hρ : kX6_head f x1 x2 = ((kX6_byHowMuch f x1) + 10) := (if_neg c_5).trans ((if_neg c12_0).trans ((if_neg c12_1).trans ((if_neg c12_2).trans ((if_neg c12_3).trans ((if_neg c12_4).trans ((if_neg c12_5).trans ((if_neg c12_6).trans ((if_neg c12_7).trans ((if_neg c12_8).trans ((if_pos c12_9).trans ((if_neg c_165))))))))))))
        exact e_rd hx hb hr hlk dX6_head_180 hρ.symm
      have c_165 : (kX6_byHowMuch f x1) = 0 := c_165
      refine lv_iconst (v := (-1)) hx hb dX6_head_168 (by decide) ?_
      refine lv_goto (tgt := 180) hx hb dX6_head_169 (by decide) ?_
      have hρ : kX6_head f x1 x2 = (-1) := (if_neg c_5).trans ((if_neg c12_0).trans ((if_neg c12_1).trans ((if_neg c12_2).trans ((if_neg c12_3).trans ((if_neg c12_4).trans ((if_neg c12_5).trans ((if_neg c12_6).trans ((if_neg c12_7).trans ((if_neg c12_8).trans ((if_pos c12_9).trans ((if_pos c_165))))))))))))
      exact e_rd hx hb hr hlk dX6_head_180 hρ.symm
    have hsw : x2.toInt < 0 ∨ 9 < x2.toInt := sw_out 9 (fun j hj => by
      rcases (show j = 0 ∨ j = 1 ∨ j = 2 ∨ j = 3 ∨ j = 4 ∨ j = 5 ∨ j = 6 ∨ j = 7 ∨ j = 8 ∨ j = 9 by omega) with rfl | rfl | rfl | rfl | rfl | rfl | rfl | rfl | rfl | rfl
      · exact c12_0
      · exact c12_1
      · exact c12_2
      · exact c12_3
      · exact c12_4
      · exact c12_5
      · exact c12_6
      · exact c12_7
      · exact c12_8
      · exact c12_9)
    refine lv_tableOut (tgt := 181) hx hb dX6_head_12 hsw (by decide) ?_
    refine lv_ldc (v := (-1000000002)) hx hb hown (hts (.constant RX6 101 (-1000000002)) (by decide +kernel)) dX6_head_181 ?_
    have hρ : kX6_head f x1 x2 = (-1000000002) := (if_neg c_5).trans ((if_neg c12_0).trans ((if_neg c12_1).trans ((if_neg c12_2).trans ((if_neg c12_3).trans ((if_neg c12_4).trans ((if_neg c12_5).trans ((if_neg c12_6).trans ((if_neg c12_7).trans ((if_neg c12_8).trans ((if_neg c12_9)))))))))))
    exact e_rd hx hb hr hlk dX6_head_183 hρ.symm
  have c_5 : (kX6_isHead f x1) = 0 := c_5
  refine lv_ldc (v := (-1000000001)) hx hb hown (hts (.constant RX6 102 (-1000000001)) (by decide +kernel)) dX6_head_8 ?_
  have hρ : kX6_head f x1 x2 = (-1000000001) := (if_pos c_5)
  exact e_rd hx hb hr hlk dX6_head_10 hρ.symm
