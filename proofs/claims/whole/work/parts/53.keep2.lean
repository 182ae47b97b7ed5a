theorem ndX5_miscountTold : yX5_miscountTold.cls ≠ "java/lang/invoke/MethodHandle" ∧ yX5_miscountTold.cls ≠ "java/lang/invoke/VarHandle" ∧ (parseMethodDescriptor yX5_miscountTold.desc).map (fun d => d.parameters.length) = some 1 := by decide +kernel
set_option maxHeartbeats 4000000 in
set_option maxRecDepth 100000 in
theorem okX5_miscountTold (l : Launch) (D : va_G) (cI cZ cQ : ClassId) (h : Nat) (a b : Nat → Nat) (X : va_W) (f g : Nat → Nat → Int32) (x1 : Int32) : Met l yX5_miscountTold wsX5_miscountTold ({ frames := 0, cells := 0, slots := 0, locals := 0 }) (PR [.int x1] D (TY cI cZ cQ) (LW cI h a f ++ (KR cI cZ cQ h b g ++ X))) (QR (kX5_miscountTold f g x1)) 0 0 (fun _ => False) := by
  refine m_rd (cc := cX5_miscountTold) (maxL := 1) (ret := (some .int)) (by decide) rfl (Nat.le_of_ble_eq_true rfl) (lv0 := [(0, .int x1)]) rfl ?_
  intro p e s m below meth c ls S hr hlk hP hK hl
  have S : CallFix p m c cX5_miscountTold 1 s ([.int x1] : List Value).toArray wsX5_miscountTold RX5 := S
  have hx := S.1
  have hb := S.2.1
  have hown : s.vm.findClass RX5 = some m.cls := S.2.2.2.1
  have hts := S.2.2.2.2
  refine lv_iload_n hx hb dX5_miscountTold_0 rfl (lv_at hl 0 rfl) ?_
  refine lv_if_ne (tgt := 8) hx hb dX5_miscountTold_1 (by decide) (fun c_1 => ?_) (fun c_1 => ?_)
  · have c_1 : ¬ (x1 = 0) := c_1
    refine lv_iload_n hx hb dX5_miscountTold_8 rfl (lv_at hl 0 rfl) ?_
    refine lv_bipush (v := 10) hx hb dX5_miscountTold_9 (by decide) ?_
    refine lv_iadd hx hb dX5_miscountTold_11 ?_
    have hρ : kX5_miscountTold f g x1 = (x1 + 10) := (if_neg c_1)
    exact e_rd hx hb hr hlk dX5_miscountTold_12 hρ.symm
  have c_1 : x1 = 0 := c_1
  refine lv_iconst (v := (-1)) hx hb dX5_miscountTold_4 (by decide) ?_
  refine lv_goto (tgt := 12) hx hb dX5_miscountTold_5 (by decide) ?_
  have hρ : kX5_miscountTold f g x1 = (-1) := (if_pos c_1)
  exact e_rd hx hb hr hlk dX5_miscountTold_12 hρ.symm
theorem ndX5_told : yX5_told.cls = RX5 ∧ yX5_told.cls ≠ "java/lang/invoke/MethodHandle" ∧ yX5_told.cls ≠ "java/lang/invoke/VarHandle" ∧ (parseMethodDescriptor yX5_told.desc).map (fun d => d.parameters.length) = some 1 := by decide +kernel
set_option maxHeartbeats 4000000 in
set_option maxRecDepth 100000 in
theorem okX5_told (l : Launch) (D : va_G) (cI cZ cQ : ClassId) (h : Nat) (a b : Nat → Nat) (X : va_W) (f g : Nat → Nat → Int32) (x1 : Int32) (hok : okL f) : Met l yX5_told wsX5_told ({ frames := 4, cells := 0, slots := 0, locals := 89 }) (PR [.ref (b 0), .int x1] D (TY cI cZ cQ) (LW cI h a f ++ (KR cI cZ cQ h b g ++ X))) (QR (kX5_told f g x1)) 0 0 (fun _ => False) := by
  refine m_rd (cc := cX5_told) (maxL := 2) (ret := (some .int)) (by decide) rfl (Nat.le_of_ble_eq_true rfl) (lv0 := [(0, .ref (b 0)), (1, .int x1)]) rfl ?_
  intro p e s m below meth c ls S hr hlk hP hK hl
  have S : CallFix p m c cX5_told 2 s ([.ref (b 0), .int x1] : List Value).toArray wsX5_told RX5 := S
  have hx := S.1
  have hb := S.2.1
  have hown : s.vm.findClass RX5 = some m.cls := S.2.2.2.1
  have hts := S.2.2.2.2
  have hinX0 : ∀ w ∈ wsX00, w ∈ wsX5_told := by decide +kernel
  have hinX3 : ∀ w ∈ wsX30, w ∈ wsX5_told := by decide +kernel
  have hinX4 : ∀ w ∈ wsX40, w ∈ wsX5_told := by decide +kernel
  have hinX5 : ∀ w ∈ wsX50, w ∈ wsX5_told := by decide +kernel
  refine lv_iload_n hx hb dX5_told_0 rfl (lv_at hl 1 rfl) ?_
  by_cases c1_0 : x1 = 0
  · refine lv_tableIn (tgt := 84) (off := 83) hx hb dX5_told_1 (by rw [c1_0]; decide) (by rw [c1_0]; decide) (by rw [c1_0]; rfl) (by decide) ?_
    refine lv_aload_n hx hb dX5_told_84 rfl (lv_at hl 0 rfl) ?_
    refine va_get (v := .ref h) (C := RX5) (T := TX5) (N := 6) (ci := 5) hx hb hts hinX5 hown hK hP 13 rfl rfl 0 (by decide) (hts (.fieldLink RX5 10 "AxleKeeper" "now" "LAxleKeeper$Line;") (by decide +kernel)) (fun _ h9 => h9) rfl dX5_told_85 ?_
    refine va_get (v := .int (f 0 0)) (C := RX3) (T := TX3) (N := 15) (ci := 3) hx hb hts hinX3 hown hK hP 0 rfl rfl 0 (by decide) (hts (.fieldLink RX5 52 "AxleKeeper$Line" "sections" "I") (by decide +kernel)) (fun _ h9 => h9) rfl dX5_told_88 ?_
    have hρ : kX5_told f g x1 = (f 0 0) := (if_pos c1_0)
    exact e_rd hx hb hr hlk dX5_told_91 hρ.symm
  by_cases c1_1 : x1 = 1
  · refine lv_tableIn (tgt := 92) (off := 91) hx hb dX5_told_1 (by rw [c1_1]; decide) (by rw [c1_1]; decide) (by rw [c1_1]; rfl) (by decide) ?_
    refine lv_aload_n hx hb dX5_told_92 rfl (lv_at hl 0 rfl) ?_
    refine va_get (v := .ref h) (C := RX5) (T := TX5) (N := 6) (ci := 5) hx hb hts hinX5 hown hK hP 13 rfl rfl 0 (by decide) (hts (.fieldLink RX5 10 "AxleKeeper" "now" "LAxleKeeper$Line;") (by decide +kernel)) (fun _ h9 => h9) rfl dX5_told_93 ?_
    refine k_rd (As := []) (rest := []) (bytes := cX3_heads) (C := RX3) S (okX3_heads l D cI cZ cQ h a (KR cI cZ cQ h b g ++ X) f ) gX5_told_X3_heads rfl ⟨rfl, rfl⟩ ndX3_heads ⟨Nat.le_of_ble_eq_true rfl, Nat.le_of_ble_eq_true rfl⟩ hK hP 0 rfl rfl rfl hl rfl (Nat.le_of_ble_eq_true rfl) dX5_told_96 ⟨Nat.zero_le _, Nat.zero_le _⟩ ?_
    have hρ : kX5_told f g x1 = (kX3_heads f) := (if_neg c1_0).trans ((if_pos c1_1))
    exact e_rd hx hb hr hlk dX5_told_99 hρ.symm
  by_cases c1_2 : x1 = 2
  · refine lv_tableIn (tgt := 100) (off := 99) hx hb dX5_told_1 (by rw [c1_2]; decide) (by rw [c1_2]; decide) (by rw [c1_2]; rfl) (by decide) ?_
    refine lv_aload_n hx hb dX5_told_100 rfl (lv_at hl 0 rfl) ?_
    refine va_get (v := .ref h) (C := RX5) (T := TX5) (N := 6) (ci := 5) hx hb hts hinX5 hown hK hP 13 rfl rfl 0 (by decide) (hts (.fieldLink RX5 10 "AxleKeeper" "now" "LAxleKeeper$Line;") (by decide +kernel)) (fun _ h9 => h9) rfl dX5_told_101 ?_
    refine va_get (v := .int (f 1 0)) (C := RX3) (T := TX3) (N := 15) (ci := 3) hx hb hts hinX3 hown hK hP 0 rfl rfl 1 (by decide) (hts (.fieldLink RX5 60 "AxleKeeper$Line" "ring" "Z") (by decide +kernel)) (fun _ h9 => h9) rfl dX5_told_104 ?_
    refine lv_if_eq (tgt := 114) hx hb dX5_told_107 (by decide) (fun c_107 => ?_) (fun c_107 => ?_)
    · have c_107 : (f 1 0) = 0 := c_107
      refine lv_iconst (v := 0) hx hb dX5_told_114 (by decide) ?_
      have hρ : kX5_told f g x1 = 0 := (if_neg c1_0).trans ((if_neg c1_1).trans ((if_pos c1_2).trans ((if_pos c_107))))
      exact e_rd hx hb hr hlk dX5_told_115 hρ.symm
    have c_107 : ¬ ((f 1 0) = 0) := c_107
    refine lv_iconst (v := 1) hx hb dX5_told_110 (by decide) ?_
    refine lv_goto (tgt := 115) hx hb dX5_told_111 (by decide) ?_
    have hρ : kX5_told f g x1 = 1 := (if_neg c1_0).trans ((if_neg c1_1).trans ((if_pos c1_2).trans ((if_neg c_107))))
    exact e_rd hx hb hr hlk dX5_told_115 hρ.symm
  by_cases c1_3 : x1 = 3
  · refine lv_tableIn (tgt := 116) (off := 115) hx hb dX5_told_1 (by rw [c1_3]; decide) (by rw [c1_3]; decide) (by rw [c1_3]; rfl) (by decide) ?_
    refine lv_aload_n hx hb dX5_told_116 rfl (lv_at hl 0 rfl) ?_
    refine va_get (v := .ref h) (C := RX5) (T := TX5) (N := 6) (ci := 5) hx hb hts hinX5 hown hK hP 13 rfl rfl 0 (by decide) (hts (.fieldLink RX5 10 "AxleKeeper" "now" "LAxleKeeper$Line;") (by decide +kernel)) (fun _ h9 => h9) rfl dX5_told_117 ?_
    refine va_get (v := .int (f 2 0)) (C := RX3) (T := TX3) (N := 15) (ci := 3) hx hb hts hinX3 hown hK hP 0 rfl rfl 2 (by decide) (hts (.fieldLink RX5 64 "AxleKeeper$Line" "ticks" "I") (by decide +kernel)) (fun _ h9 => h9) rfl dX5_told_120 ?_
    have hρ : kX5_told f g x1 = (f 2 0) := (if_neg c1_0).trans ((if_neg c1_1).trans ((if_neg c1_2).trans ((if_pos c1_3))))
    exact e_rd hx hb hr hlk dX5_told_123 hρ.symm
  by_cases c1_4 : x1 = 4
  · refine lv_tableIn (tgt := 124) (off := 123) hx hb dX5_told_1 (by rw [c1_4]; decide) (by rw [c1_4]; decide) (by rw [c1_4]; rfl) (by decide) ?_
    refine lv_aload_n hx hb dX5_told_124 rfl (lv_at hl 0 rfl) ?_
    refine va_get (v := .ref h) (C := RX5) (T := TX5) (N := 6) (ci := 5) hx hb hts hinX5 hown hK hP 13 rfl rfl 0 (by decide) (hts (.fieldLink RX5 10 "AxleKeeper" "now" "LAxleKeeper$Line;") (by decide +kernel)) (fun _ h9 => h9) rfl dX5_told_125 ?_
    refine lv_iconst (v := 0) hx hb dX5_told_128 (by decide) ?_
    refine k_rd (As := [.int 0]) (rest := []) (bytes := cX3_called) (C := RX3) S (okX3_called l D cI cZ cQ h a (KR cI cZ cQ h b g ++ X) f 0 (by assumption)) gX5_told_X3_called rfl ⟨rfl, rfl⟩ ndX3_called ⟨Nat.le_of_ble_eq_true rfl, Nat.le_of_ble_eq_true rfl⟩ hK hP 0 rfl rfl rfl hl rfl (Nat.le_of_ble_eq_true rfl) dX5_told_129 ⟨Nat.zero_le _, Nat.zero_le _⟩ ?_
    have hρ : kX5_told f g x1 = (kX3_called f 0) := (if_neg c1_0).trans ((if_neg c1_1).trans ((if_neg c1_2).trans ((if_neg c1_3).trans ((if_pos c1_4)))))
    exact e_rd hx hb hr hlk dX5_told_132 hρ.symm
  by_cases c1_5 : x1 = 5
  · refine lv_tableIn (tgt := 133) (off := 132) hx hb dX5_told_1 (by rw [c1_5]; decide) (by rw [c1_5]; decide) (by rw [c1_5]; rfl) (by decide) ?_
    refine lv_aload_n hx hb dX5_told_133 rfl (lv_at hl 0 rfl) ?_
    refine va_get (v := .ref h) (C := RX5) (T := TX5) (N := 6) (ci := 5) hx hb hts hinX5 hown hK hP 13 rfl rfl 0 (by decide) (hts (.fieldLink RX5 10 "AxleKeeper" "now" "LAxleKeeper$Line;") (by decide +kernel)) (fun _ h9 => h9) rfl dX5_told_134 ?_
    refine lv_iconst (v := 1) hx hb dX5_told_137 (by decide) ?_
    refine k_rd (As := [.int 1]) (rest := []) (bytes := cX3_called) (C := RX3) S (okX3_called l D cI cZ cQ h a (KR cI cZ cQ h b g ++ X) f 1 (by assumption)) gX5_told_X3_called rfl ⟨rfl, rfl⟩ ndX3_called ⟨Nat.le_of_ble_eq_true rfl, Nat.le_of_ble_eq_true rfl⟩ hK hP 0 rfl rfl rfl hl rfl (Nat.le_of_ble_eq_true rfl) dX5_told_138 ⟨Nat.zero_le _, Nat.zero_le _⟩ ?_
    have hρ : kX5_told f g x1 = (kX3_called f 1) := (if_neg c1_0).trans ((if_neg c1_1).trans ((if_neg c1_2).trans ((if_neg c1_3).trans ((if_neg c1_4).trans ((if_pos c1_5))))))
    exact e_rd hx hb hr hlk dX5_told_141 hρ.symm
  by_cases c1_6 : x1 = 6
  · refine lv_tableIn (tgt := 142) (off := 141) hx hb dX5_told_1 (by rw [c1_6]; decide) (by rw [c1_6]; decide) (by rw [c1_6]; rfl) (by decide) ?_
    refine lv_aload_n hx hb dX5_told_142 rfl (lv_at hl 0 rfl) ?_
    refine va_get (v := .ref h) (C := RX5) (T := TX5) (N := 6) (ci := 5) hx hb hts hinX5 hown hK hP 13 rfl rfl 0 (by decide) (hts (.fieldLink RX5 10 "AxleKeeper" "now" "LAxleKeeper$Line;") (by decide +kernel)) (fun _ h9 => h9) rfl dX5_told_143 ?_
    refine lv_iconst (v := 2) hx hb dX5_told_146 (by decide) ?_
    refine k_rd (As := [.int 2]) (rest := []) (bytes := cX3_called) (C := RX3) S (okX3_called l D cI cZ cQ h a (KR cI cZ cQ h b g ++ X) f 2 (by assumption)) gX5_told_X3_called rfl ⟨rfl, rfl⟩ ndX3_called ⟨Nat.le_of_ble_eq_true rfl, Nat.le_of_ble_eq_true rfl⟩ hK hP 0 rfl rfl rfl hl rfl (Nat.le_of_ble_eq_true rfl) dX5_told_147 ⟨Nat.zero_le _, Nat.zero_le _⟩ ?_
    have hρ : kX5_told f g x1 = (kX3_called f 2) := (if_neg c1_0).trans ((if_neg c1_1).trans ((if_neg c1_2).trans ((if_neg c1_3).trans ((if_neg c1_4).trans ((if_neg c1_5).trans ((if_pos c1_6)))))))
    exact e_rd hx hb hr hlk dX5_told_150 hρ.symm
  by_cases c1_7 : x1 = 7
  · refine lv_tableIn (tgt := 151) (off := 150) hx hb dX5_told_1 (by rw [c1_7]; decide) (by rw [c1_7]; decide) (by rw [c1_7]; rfl) (by decide) ?_
    refine lv_aload_n hx hb dX5_told_151 rfl (lv_at hl 0 rfl) ?_
    refine va_get (v := .ref h) (C := RX5) (T := TX5) (N := 6) (ci := 5) hx hb hts hinX5 hown hK hP 13 rfl rfl 0 (by decide) (hts (.fieldLink RX5 10 "AxleKeeper" "now" "LAxleKeeper$Line;") (by decide +kernel)) (fun _ h9 => h9) rfl dX5_told_152 ?_
    refine lv_iconst (v := 3) hx hb dX5_told_155 (by decide) ?_
    refine k_rd (As := [.int 3]) (rest := []) (bytes := cX3_called) (C := RX3) S (okX3_called l D cI cZ cQ h a (KR cI cZ cQ h b g ++ X) f 3 (by assumption)) gX5_told_X3_called rfl ⟨rfl, rfl⟩ ndX3_called ⟨Nat.le_of_ble_eq_true rfl, Nat.le_of_ble_eq_true rfl⟩ hK hP 0 rfl rfl rfl hl rfl (Nat.le_of_ble_eq_true rfl) dX5_told_156 ⟨Nat.zero_le _, Nat.zero_le _⟩ ?_
    have hρ : kX5_told f g x1 = (kX3_called f 3) := (if_neg c1_0).trans ((if_neg c1_1).trans ((if_neg c1_2).trans ((if_neg c1_3).trans ((if_neg c1_4).trans ((if_neg c1_5).trans ((if_neg c1_6).trans ((if_pos c1_7))))))))
    exact e_rd hx hb hr hlk dX5_told_159 hρ.symm
  by_cases c1_8 : x1 = 8
  · refine lv_tableIn (tgt := 160) (off := 159) hx hb dX5_told_1 (by rw [c1_8]; decide) (by rw [c1_8]; decide) (by rw [c1_8]; rfl) (by decide) ?_
    refine lv_aload_n hx hb dX5_told_160 rfl (lv_at hl 0 rfl) ?_
    refine va_get (v := .ref h) (C := RX5) (T := TX5) (N := 6) (ci := 5) hx hb hts hinX5 hown hK hP 13 rfl rfl 0 (by decide) (hts (.fieldLink RX5 10 "AxleKeeper" "now" "LAxleKeeper$Line;") (by decide +kernel)) (fun _ h9 => h9) rfl dX5_told_161 ?_
    refine k_rd (As := []) (rest := []) (bytes := cX3_wronglyClear) (C := RX3) S (okX3_wronglyClear l D cI cZ cQ h a (KR cI cZ cQ h b g ++ X) f  (by assumption)) gX5_told_X3_wronglyClear rfl ⟨rfl, rfl⟩ ndX3_wronglyClear ⟨Nat.le_of_ble_eq_true rfl, Nat.le_of_ble_eq_true rfl⟩ hK hP 0 rfl rfl rfl hl rfl (Nat.le_of_ble_eq_true rfl) dX5_told_164 ⟨Nat.zero_le _, Nat.zero_le _⟩ ?_
    have hρ : kX5_told f g x1 = (kX3_wronglyClear f) := (if_neg c1_0).trans ((if_neg c1_1).trans ((if_neg c1_2).trans ((if_neg c1_3).trans ((if_neg c1_4).trans ((if_neg c1_5).trans ((if_neg c1_6).trans ((if_neg c1_7).trans ((if_pos c1_8)))))))))
    exact e_rd hx hb hr hlk dX5_told_167 hρ.symm
  by_cases c1_9 : x1 = 9
  · refine lv_tableIn (tgt := 168) (off := 167) hx hb dX5_told_1 (by rw [c1_9]; decide) (by rw [c1_9]; decide) (by rw [c1_9]; rfl) (by decide) ?_
    refine lv_aload_n hx hb dX5_told_168 rfl (lv_at hl 0 rfl) ?_
    refine va_get (v := .ref h) (C := RX5) (T := TX5) (N := 6) (ci := 5) hx hb hts hinX5 hown hK hP 13 rfl rfl 0 (by decide) (hts (.fieldLink RX5 10 "AxleKeeper" "now" "LAxleKeeper$Line;") (by decide +kernel)) (fun _ h9 => h9) rfl dX5_told_169 ?_
    refine k_rd (As := []) (rest := []) (bytes := cX3_idle) (C := RX3) S (okX3_idle l D cI cZ cQ h a (KR cI cZ cQ h b g ++ X) f  (by assumption)) gX5_told_X3_idle rfl ⟨rfl, rfl⟩ ndX3_idle ⟨Nat.le_of_ble_eq_true rfl, Nat.le_of_ble_eq_true rfl⟩ hK hP 0 rfl rfl rfl hl rfl (Nat.le_of_ble_eq_true rfl) dX5_told_172 ⟨Nat.zero_le _, Nat.zero_le _⟩ ?_
    have hρ : kX5_told f g x1 = (kX3_idle f) := (if_neg c1_0).trans ((if_neg c1_1).trans ((if_neg c1_2).trans ((if_neg c1_3).trans ((if_neg c1_4).trans ((if_neg c1_5).trans ((if_neg c1_6).trans ((if_neg c1_7).trans ((if_neg c1_8).trans ((if_pos c1_9))))))))))
    exact e_rd hx hb hr hlk dX5_told_175 hρ.symm
  by_cases c1_10 : x1 = 10
  · refine lv_tableIn (tgt := 176) (off := 175) hx hb dX5_told_1 (by rw [c1_10]; decide) (by rw [c1_10]; decide) (by rw [c1_10]; rfl) (by decide) ?_
    refine lv_aload_n hx hb dX5_told_176 rfl (lv_at hl 0 rfl) ?_
    refine va_get (v := .ref h) (C := RX5) (T := TX5) (N := 6) (ci := 5) hx hb hts hinX5 hown hK hP 13 rfl rfl 0 (by decide) (hts (.fieldLink RX5 10 "AxleKeeper" "now" "LAxleKeeper$Line;") (by decide +kernel)) (fun _ h9 => h9) rfl dX5_told_177 ?_
    refine k_rd (As := []) (rest := []) (bytes := cX3_faultyHeads) (C := RX3) S (okX3_faultyHeads l D cI cZ cQ h a (KR cI cZ cQ h b g ++ X) f  (by assumption)) gX5_told_X3_faultyHeads rfl ⟨rfl, rfl⟩ ndX3_faultyHeads ⟨Nat.le_of_ble_eq_true rfl, Nat.le_of_ble_eq_true rfl⟩ hK hP 0 rfl rfl rfl hl rfl (Nat.le_of_ble_eq_true rfl) dX5_told_180 ⟨Nat.zero_le _, Nat.zero_le _⟩ ?_
    have hρ : kX5_told f g x1 = (kX3_faultyHeads f) := (if_neg c1_0).trans ((if_neg c1_1).trans ((if_neg c1_2).trans ((if_neg c1_3).trans ((if_neg c1_4).trans ((if_neg c1_5).trans ((if_neg c1_6).trans ((if_neg c1_7).trans ((if_neg c1_8).trans ((if_neg c1_9).trans ((if_pos c1_10)))))))))))
    exact e_rd hx hb hr hlk dX5_told_183 hρ.symm
  by_cases c1_11 : x1 = 11
  · refine lv_tableIn (tgt := 184) (off := 183) hx hb dX5_told_1 (by rw [c1_11]; decide) (by rw [c1_11]; decide) (by rw [c1_11]; rfl) (by decide) ?_
    refine lv_aload_n hx hb dX5_told_184 rfl (lv_at hl 0 rfl) ?_
    refine va_get (v := .ref h) (C := RX5) (T := TX5) (N := 6) (ci := 5) hx hb hts hinX5 hown hK hP 13 rfl rfl 0 (by decide) (hts (.fieldLink RX5 10 "AxleKeeper" "now" "LAxleKeeper$Line;") (by decide +kernel)) (fun _ h9 => h9) rfl dX5_told_185 ?_
    refine k_rd (As := []) (rest := []) (bytes := cX3_suspects) (C := RX3) S (okX3_suspects l D cI cZ cQ h a (KR cI cZ cQ h b g ++ X) f  (by assumption)) gX5_told_X3_suspects rfl ⟨rfl, rfl⟩ ndX3_suspects ⟨Nat.le_of_ble_eq_true rfl, Nat.le_of_ble_eq_true rfl⟩ hK hP 0 rfl rfl rfl hl rfl (Nat.le_of_ble_eq_true rfl) dX5_told_188 ⟨Nat.zero_le _, Nat.zero_le _⟩ ?_
    have hρ : kX5_told f g x1 = (kX3_suspects f) := (if_neg c1_0).trans ((if_neg c1_1).trans ((if_neg c1_2).trans ((if_neg c1_3).trans ((if_neg c1_4).trans ((if_neg c1_5).trans ((if_neg c1_6).trans ((if_neg c1_7).trans ((if_neg c1_8).trans ((if_neg c1_9).trans ((if_neg c1_10).trans ((if_pos c1_11))))))))))))
    exact e_rd hx hb hr hlk dX5_told_191 hρ.symm
  by_cases c1_12 : x1 = 12
  · refine lv_tableIn (tgt := 192) (off := 191) hx hb dX5_told_1 (by rw [c1_12]; decide) (by rw [c1_12]; decide) (by rw [c1_12]; rfl) (by decide) ?_
    refine lv_aload_n hx hb dX5_told_192 rfl (lv_at hl 0 rfl) ?_
    refine va_get (v := .ref h) (C := RX5) (T := TX5) (N := 6) (ci := 5) hx hb hts hinX5 hown hK hP 13 rfl rfl 0 (by decide) (hts (.fieldLink RX5 10 "AxleKeeper" "now" "LAxleKeeper$Line;") (by decide +kernel)) (fun _ h9 => h9) rfl dX5_told_193 ?_
    refine k_rd (As := []) (rest := []) (bytes := cX3_axlesInAll) (C := RX3) S (okX3_axlesInAll l D cI cZ cQ h a (KR cI cZ cQ h b g ++ X) f  (by assumption)) gX5_told_X3_axlesInAll rfl ⟨rfl, rfl⟩ ndX3_axlesInAll ⟨Nat.le_of_ble_eq_true rfl, Nat.le_of_ble_eq_true rfl⟩ hK hP 0 rfl rfl rfl hl rfl (Nat.le_of_ble_eq_true rfl) dX5_told_196 ⟨Nat.zero_le _, Nat.zero_le _⟩ ?_
    have hρ : kX5_told f g x1 = (kX3_axlesInAll f) := (if_neg c1_0).trans ((if_neg c1_1).trans ((if_neg c1_2).trans ((if_neg c1_3).trans ((if_neg c1_4).trans ((if_neg c1_5).trans ((if_neg c1_6).trans ((if_neg c1_7).trans ((if_neg c1_8).trans ((if_neg c1_9).trans ((if_neg c1_10).trans ((if_neg c1_11).trans ((if_pos c1_12)))))))))))))
    exact e_rd hx hb hr hlk dX5_told_199 hρ.symm
  by_cases c1_13 : x1 = 13
  · refine lv_tableIn (tgt := 200) (off := 199) hx hb dX5_told_1 (by rw [c1_13]; decide) (by rw [c1_13]; decide) (by rw [c1_13]; rfl) (by decide) ?_
    refine lv_aload_n hx hb dX5_told_200 rfl (lv_at hl 0 rfl) ?_
    refine va_get (v := .ref h) (C := RX5) (T := TX5) (N := 6) (ci := 5) hx hb hts hinX5 hown hK hP 13 rfl rfl 0 (by decide) (hts (.fieldLink RX5 10 "AxleKeeper" "now" "LAxleKeeper$Line;") (by decide +kernel)) (fun _ h9 => h9) rfl dX5_told_201 ?_
    refine k_rd (As := []) (rest := []) (bytes := cX3_sumOfAll) (C := RX3) S (okX3_sumOfAll l D cI cZ cQ h a (KR cI cZ cQ h b g ++ X) f  (by assumption)) gX5_told_X3_sumOfAll rfl ⟨rfl, rfl⟩ ndX3_sumOfAll ⟨Nat.le_of_ble_eq_true rfl, Nat.le_of_ble_eq_true rfl⟩ hK hP 0 rfl rfl rfl hl rfl (Nat.le_of_ble_eq_true rfl) dX5_told_204 ⟨Nat.zero_le _, Nat.zero_le _⟩ ?_
    refine lv_sipush (v := 1000) hx hb dX5_told_207 (by decide) ?_
    refine lv_iadd hx hb dX5_told_210 ?_
    have hρ : kX5_told f g x1 = ((kX3_sumOfAll f) + 1000) := (if_neg c1_0).trans ((if_neg c1_1).trans ((if_neg c1_2).trans ((if_neg c1_3).trans ((if_neg c1_4).trans ((if_neg c1_5).trans ((if_neg c1_6).trans ((if_neg c1_7).trans ((if_neg c1_8).trans ((if_neg c1_9).trans ((if_neg c1_10).trans ((if_neg c1_11).trans ((if_neg c1_12).trans ((if_pos c1_13))))))))))))))
    exact e_rd hx hb hr hlk dX5_told_211 hρ.symm
  by_cases c1_14 : x1 = 14
  · refine lv_tableIn (tgt := 212) (off := 211) hx hb dX5_told_1 (by rw [c1_14]; decide) (by rw [c1_14]; decide) (by rw [c1_14]; rfl) (by decide) ?_
    refine lv_aload_n hx hb dX5_told_212 rfl (lv_at hl 0 rfl) ?_
    refine va_get (v := .ref (b 4)) (C := RX5) (T := TX5) (N := 6) (ci := 5) hx hb hts hinX5 hown hK hP 13 rfl rfl 2 (by decide) (hts (.fieldLink RX5 26 "AxleKeeper" "book" "LAxleKeeper$Book;") (by decide +kernel)) (fun _ h9 => h9) rfl dX5_told_213 ?_
    refine va_get (v := .int (g 4 0)) (C := RX0) (T := TX0) (N := 3) (ci := 0) hx hb hts hinX0 hown hK hP 17 rfl rfl 2 (by decide) (hts (.fieldLink RX5 89 "AxleKeeper$Book" "size" "I") (by decide +kernel)) (fun _ h9 => h9) rfl dX5_told_216 ?_
    have hρ : kX5_told f g x1 = (g 4 0) := (if_neg c1_0).trans ((if_neg c1_1).trans ((if_neg c1_2).trans ((if_neg c1_3).trans ((if_neg c1_4).trans ((if_neg c1_5).trans ((if_neg c1_6).trans ((if_neg c1_7).trans ((if_neg c1_8).trans ((if_neg c1_9).trans ((if_neg c1_10).trans ((if_neg c1_11).trans ((if_neg c1_12).trans ((if_neg c1_13).trans ((if_pos c1_14)))))))))))))))
    exact e_rd hx hb hr hlk dX5_told_219 hρ.symm
  by_cases c1_15 : x1 = 15
  · refine lv_tableIn (tgt := 220) (off := 219) hx hb dX5_told_1 (by rw [c1_15]; decide) (by rw [c1_15]; decide) (by rw [c1_15]; rfl) (by decide) ?_
    refine lv_aload_n hx hb dX5_told_220 rfl (lv_at hl 0 rfl) ?_
    refine va_get (v := .ref (b 4)) (C := RX5) (T := TX5) (N := 6) (ci := 5) hx hb hts hinX5 hown hK hP 13 rfl rfl 2 (by decide) (hts (.fieldLink RX5 26 "AxleKeeper" "book" "LAxleKeeper$Book;") (by decide +kernel)) (fun _ h9 => h9) rfl dX5_told_221 ?_
    refine lv_aload_n hx hb dX5_told_224 rfl (lv_at hl 0 rfl) ?_
    refine va_get (v := .ref h) (C := RX5) (T := TX5) (N := 6) (ci := 5) hx hb hts hinX5 hown hK hP 13 rfl rfl 0 (by decide) (hts (.fieldLink RX5 10 "AxleKeeper" "now" "LAxleKeeper$Line;") (by decide +kernel)) (fun _ h9 => h9) rfl dX5_told_225 ?_
    refine k_rd (As := [.ref h]) (rest := []) (bytes := cX0_firstWrong) (C := RX0) S (okX0_firstWrong l D cI cZ cQ h a b X f g  (by assumption)) gX5_told_X0_firstWrong rfl ⟨rfl, rfl⟩ ndX0_firstWrong ⟨Nat.le_of_ble_eq_true rfl, Nat.le_of_ble_eq_true rfl⟩ hK hP 17 rfl rfl rfl hl rfl (Nat.le_of_ble_eq_true rfl) dX5_told_228 ⟨Nat.zero_le _, Nat.zero_le _⟩ ?_
    have hρ : kX5_told f g x1 = (kX0_firstWrong f g) := (if_neg c1_0).trans ((if_neg c1_1).trans ((if_neg c1_2).trans ((if_neg c1_3).trans ((if_neg c1_4).trans ((if_neg c1_5).trans ((if_neg c1_6).trans ((if_neg c1_7).trans ((if_neg c1_8).trans ((if_neg c1_9).trans ((if_neg c1_10).trans ((if_neg c1_11).trans ((if_neg c1_12).trans ((if_neg c1_13).trans ((if_neg c1_14).trans ((if_pos c1_15))))))))))))))))
    exact e_rd hx hb hr hlk dX5_told_231 hρ.symm
  by_cases c1_16 : x1 = 16
  · refine lv_tableIn (tgt := 232) (off := 231) hx hb dX5_told_1 (by rw [c1_16]; decide) (by rw [c1_16]; decide) (by rw [c1_16]; rfl) (by decide) ?_
    refine lv_aload_n hx hb dX5_told_232 rfl (lv_at hl 0 rfl) ?_
    refine va_get (v := .ref (b 2)) (C := RX5) (T := TX5) (N := 6) (ci := 5) hx hb hts hinX5 hown hK hP 13 rfl rfl 1 (by decide) (hts (.fieldLink RX5 19 "AxleKeeper" "past" "LAxleKeeper$Past;") (by decide +kernel)) (fun _ h9 => h9) rfl dX5_told_233 ?_
    refine va_get (v := .int (g 3 0)) (C := RX4) (T := TX4) (N := 3) (ci := 4) hx hb hts hinX4 hown hK hP 15 rfl rfl 2 (by decide) (hts (.fieldLink RX5 96 "AxleKeeper$Past" "size" "I") (by decide +kernel)) (fun _ h9 => h9) rfl dX5_told_236 ?_
    have hρ : kX5_told f g x1 = (g 3 0) := (if_neg c1_0).trans ((if_neg c1_1).trans ((if_neg c1_2).trans ((if_neg c1_3).trans ((if_neg c1_4).trans ((if_neg c1_5).trans ((if_neg c1_6).trans ((if_neg c1_7).trans ((if_neg c1_8).trans ((if_neg c1_9).trans ((if_neg c1_10).trans ((if_neg c1_11).trans ((if_neg c1_12).trans ((if_neg c1_13).trans ((if_neg c1_14).trans ((if_neg c1_15).trans ((if_pos c1_16)))))))))))))))))
    exact e_rd hx hb hr hlk dX5_told_239 hρ.symm
  have hsw : x1.toInt < 0 ∨ 16 < x1.toInt := sw_out 16 (fun j hj => by
    rcases (show j = 0 ∨ j = 1 ∨ j = 2 ∨ j = 3 ∨ j = 4 ∨ j = 5 ∨ j = 6 ∨ j = 7 ∨ j = 8 ∨ j = 9 ∨ j = 10 ∨ j = 11 ∨ j = 12 ∨ j = 13 ∨ j = 14 ∨ j = 15 ∨ j = 16 by omega) with rfl | rfl | rfl | rfl | rfl | rfl | rfl | rfl | rfl | rfl | rfl | rfl | rfl | rfl | rfl | rfl | rfl
    · exact c1_0
    · exact c1_1
    · exact c1_2
    · exact c1_3
    · exact c1_4
    · exact c1_5
    · exact c1_6
    · exact c1_7
    · exact c1_8
    · exact c1_9
    · exact c1_10
    · exact c1_11
    · exact c1_12
    · exact c1_13
    · exact c1_14
    · exact c1_15
    · exact c1_16)
  refine lv_tableOut (tgt := 240) hx hb dX5_told_1 hsw (by decide) ?_
  refine lv_ldc (v := (-1000000002)) hx hb hown (hts (.constant RX5 97 (-1000000002)) (by decide +kernel)) dX5_told_240 ?_
  have hρ : kX5_told f g x1 = (-1000000002) := (if_neg c1_0).trans ((if_neg c1_1).trans ((if_neg c1_2).trans ((if_neg c1_3).trans ((if_neg c1_4).trans ((if_neg c1_5).trans ((if_neg c1_6).trans ((if_neg c1_7).trans ((if_neg c1_8).trans ((if_neg c1_9).trans ((if_neg c1_10).trans ((if_neg c1_11).trans ((if_neg c1_12).trans ((if_neg c1_13).trans ((if_neg c1_14).trans ((if_neg c1_15).trans ((if_neg c1_16)))))))))))))))))
  exact e_rd hx hb hr hlk dX5_told_242 hρ.symm
theorem ndX5_section : yX5_section.cls = RX5 ∧ yX5_section.cls ≠ "java/lang/invoke/MethodHandle" ∧ yX5_section.cls ≠ "java/lang/invoke/VarHandle" ∧ (parseMethodDescriptor yX5_section.desc).map (fun d => d.parameters.length) = some 2 := by decide +kernel
set_option maxHeartbeats 4000000 in
set_option maxRecDepth 100000 in
theorem okX5_section (l : Launch) (D : va_G) (cI cZ cQ : ClassId) (h : Nat) (a b : Nat → Nat) (X : va_W) (f g : Nat → Nat → Int32) (x1 x2 : Int32) (hok : okL f) : Met l yX5_section wsX5_section ({ frames := 3, cells := 0, slots := 0, locals := 63 }) (PR [.ref (b 0), .int x1, .int x2] D (TY cI cZ cQ) (LW cI h a f ++ (KR cI cZ cQ h b g ++ X))) (QR (kX5_section f g x1 x2)) 0 0 (fun _ => False) := by
  refine m_rd (cc := cX5_section) (maxL := 3) (ret := (some .int)) (by decide) rfl (Nat.le_of_ble_eq_true rfl) (lv0 := [(0, .ref (b 0)), (1, .int x1), (2, .int x2)]) rfl ?_
  intro p e s m below meth c ls S hr hlk hP hK hl
  have S : CallFix p m c cX5_section 3 s ([.ref (b 0), .int x1, .int x2] : List Value).toArray wsX5_section RX5 := S
  have hx := S.1
  have hb := S.2.1
  have hown : s.vm.findClass RX5 = some m.cls := S.2.2.2.1
  have hts := S.2.2.2.2
  have hinX3 : ∀ w ∈ wsX30, w ∈ wsX5_section := by decide +kernel
  have hinX5 : ∀ w ∈ wsX50, w ∈ wsX5_section := by decide +kernel
  refine lv_aload_n hx hb dX5_section_0 rfl (lv_at hl 0 rfl) ?_
  refine va_get (v := .ref h) (C := RX5) (T := TX5) (N := 6) (ci := 5) hx hb hts hinX5 hown hK hP 13 rfl rfl 0 (by decide) (hts (.fieldLink RX5 10 "AxleKeeper" "now" "LAxleKeeper$Line;") (by decide +kernel)) (fun _ h9 => h9) rfl dX5_section_1 ?_
  refine lv_iload_n hx hb dX5_section_4 rfl (lv_at hl 1 rfl) ?_
  refine k_rd (As := [.int x1]) (rest := []) (bytes := cX3_hasSection) (C := RX3) S (okX3_hasSection l D cI cZ cQ h a (KR cI cZ cQ h b g ++ X) f x1) gX5_section_X3_hasSection rfl ⟨rfl, rfl⟩ ndX3_hasSection ⟨Nat.le_of_ble_eq_true rfl, Nat.le_of_ble_eq_true rfl⟩ hK hP 0 rfl rfl rfl hl rfl (Nat.le_of_ble_eq_true rfl) dX5_section_5 ⟨Nat.zero_le _, Nat.zero_le _⟩ ?_
  refine lv_if_ne (tgt := 14) hx hb dX5_section_8 (by decide) (fun c_8 => ?_) (fun c_8 => ?_)
  · have c_8 : ¬ ((kX3_hasSection f x1) = 0) := c_8
    have h6 : vp_in x1 6 := hs_in hok c_8
    refine lv_iload_n hx hb dX5_section_14 rfl (lv_at hl 2 rfl) ?_
    by_cases c15_0 : x2 = 0
    · refine lv_tableIn (tgt := 56) (off := 41) hx hb dX5_section_15 (by rw [c15_0]; decide) (by rw [c15_0]; decide) (by rw [c15_0]; rfl) (by decide) ?_
      refine lv_aload_n hx hb dX5_section_56 rfl (lv_at hl 0 rfl) ?_
      refine va_get (v := .ref h) (C := RX5) (T := TX5) (N := 6) (ci := 5) hx hb hts hinX5 hown hK hP 13 rfl rfl 0 (by decide) (hts (.fieldLink RX5 10 "AxleKeeper" "now" "LAxleKeeper$Line;") (by decide +kernel)) (fun _ h9 => h9) rfl dX5_section_57 ?_
      refine va_get (v := .ref (a 12)) (C := RX3) (T := TX3) (N := 15) (ci := 3) hx hb hts hinX3 hown hK hP 0 rfl rfl 12 (by decide) (hts (.fieldLink RX5 103 "AxleKeeper$Line" "call" "[I") (by decide +kernel)) (fun _ h9 => h9) rfl dX5_section_60 ?_
      refine lv_iload_n hx hb dX5_section_63 rfl (lv_at hl 1 rfl) ?_
      refine va_iald hx hb hK hP 10 0 rfl rfl (n := 6) (by assumption) dX5_section_64 ?_
      have hρ : kX5_section f g x1 x2 = (f 12 (ix x1)) := (if_neg c_8).trans ((if_pos c15_0))
      exact e_rd hx hb hr hlk dX5_section_65 hρ.symm
    by_cases c15_1 : x2 = 1
    · refine lv_tableIn (tgt := 66) (off := 51) hx hb dX5_section_15 (by rw [c15_1]; decide) (by rw [c15_1]; decide) (by rw [c15_1]; rfl) (by decide) ?_
      refine lv_aload_n hx hb dX5_section_66 rfl (lv_at hl 0 rfl) ?_
      refine va_get (v := .ref h) (C := RX5) (T := TX5) (N := 6) (ci := 5) hx hb hts hinX5 hown hK hP 13 rfl rfl 0 (by decide) (hts (.fieldLink RX5 10 "AxleKeeper" "now" "LAxleKeeper$Line;") (by decide +kernel)) (fun _ h9 => h9) rfl dX5_section_67 ?_
      refine va_get (v := .ref (a 11)) (C := RX3) (T := TX3) (N := 15) (ci := 3) hx hb hts hinX3 hown hK hP 0 rfl rfl 11 (by decide) (hts (.fieldLink RX5 106 "AxleKeeper$Line" "sum" "[I") (by decide +kernel)) (fun _ h9 => h9) rfl dX5_section_70 ?_
      refine lv_iload_n hx hb dX5_section_73 rfl (lv_at hl 1 rfl) ?_
      refine va_iald hx hb hK hP 9 0 rfl rfl (n := 6) (by assumption) dX5_section_74 ?_
      refine lv_sipush (v := 1000) hx hb dX5_section_75 (by decide) ?_
      refine lv_iadd hx hb dX5_section_78 ?_
      have hρ : kX5_section f g x1 x2 = ((f 11 (ix x1)) + 1000) := (if_neg c_8).trans ((if_neg c15_0).trans ((if_pos c15_1)))
      exact e_rd hx hb hr hlk dX5_section_79 hρ.symm
    by_cases c15_2 : x2 = 2
    · refine lv_tableIn (tgt := 80) (off := 65) hx hb dX5_section_15 (by rw [c15_2]; decide) (by rw [c15_2]; decide) (by rw [c15_2]; rfl) (by decide) ?_
      refine lv_aload_n hx hb dX5_section_80 rfl (lv_at hl 0 rfl) ?_
      refine va_get (v := .ref h) (C := RX5) (T := TX5) (N := 6) (ci := 5) hx hb hts hinX5 hown hK hP 13 rfl rfl 0 (by decide) (hts (.fieldLink RX5 10 "AxleKeeper" "now" "LAxleKeeper$Line;") (by decide +kernel)) (fun _ h9 => h9) rfl dX5_section_81 ?_
      refine va_get (v := .ref (a 14)) (C := RX3) (T := TX3) (N := 15) (ci := 3) hx hb hts hinX3 hown hK hP 0 rfl rfl 14 (by decide) (hts (.fieldLink RX5 109 "AxleKeeper$Line" "axles" "[I") (by decide +kernel)) (fun _ h9 => h9) rfl dX5_section_84 ?_
      refine lv_iload_n hx hb dX5_section_87 rfl (lv_at hl 1 rfl) ?_
      refine va_iald hx hb hK hP 12 0 rfl rfl (n := 6) (by assumption) dX5_section_88 ?_
      have hρ : kX5_section f g x1 x2 = (f 14 (ix x1)) := (if_neg c_8).trans ((if_neg c15_0).trans ((if_neg c15_1).trans ((if_pos c15_2))))
      exact e_rd hx hb hr hlk dX5_section_89 hρ.symm
    by_cases c15_3 : x2 = 3
    · refine lv_tableIn (tgt := 90) (off := 75) hx hb dX5_section_15 (by rw [c15_3]; decide) (by rw [c15_3]; decide) (by rw [c15_3]; rfl) (by decide) ?_
      refine lv_aload_n hx hb dX5_section_90 rfl (lv_at hl 0 rfl) ?_
      refine va_get (v := .ref h) (C := RX5) (T := TX5) (N := 6) (ci := 5) hx hb hts hinX5 hown hK hP 13 rfl rfl 0 (by decide) (hts (.fieldLink RX5 10 "AxleKeeper" "now" "LAxleKeeper$Line;") (by decide +kernel)) (fun _ h9 => h9) rfl dX5_section_91 ?_
      refine lv_iload_n hx hb dX5_section_94 rfl (lv_at hl 1 rfl) ?_
      refine k_rd (As := [.int x1]) (rest := []) (bytes := cX3_hasTrouble) (C := RX3) S (okX3_hasTrouble l D cI cZ cQ h a (KR cI cZ cQ h b g ++ X) f x1 (by assumption)) gX5_section_X3_hasTrouble rfl ⟨rfl, rfl⟩ ndX3_hasTrouble ⟨Nat.le_of_ble_eq_true rfl, Nat.le_of_ble_eq_true rfl⟩ hK hP 0 rfl rfl rfl hl rfl (Nat.le_of_ble_eq_true rfl) dX5_section_95 ⟨Nat.zero_le _, Nat.zero_le _⟩ ?_
      refine lv_if_eq (tgt := 105) hx hb dX5_section_98 (by decide) (fun c_98 => ?_) (fun c_98 => ?_)
      · have c_98 : (kX3_hasTrouble f x1) = 0 := c_98
        refine lv_iconst (v := 0) hx hb dX5_section_105 (by decide) ?_
        have hρ : kX5_section f g x1 x2 = 0 := (if_neg c_8).trans ((if_neg c15_0).trans ((if_neg c15_1).trans ((if_neg c15_2).trans ((if_pos c15_3).trans ((if_pos c_98))))))
        exact e_rd hx hb hr hlk dX5_section_106 hρ.symm
      have c_98 : ¬ ((kX3_hasTrouble f x1) = 0) := c_98
      refine lv_iconst (v := 1) hx hb dX5_section_101 (by decide) ?_
      refine lv_goto (tgt := 106) hx hb dX5_section_102 (by decide) ?_
      have hρ : kX5_section f g x1 x2 = 1 := (if_neg c_8).trans ((if_neg c15_0).trans ((if_neg c15_1).trans ((if_neg c15_2).trans ((if_pos c15_3).trans ((if_neg c_98))))))
      exact e_rd hx hb hr hlk dX5_section_106 hρ.symm
    by_cases c15_4 : x2 = 4
    · refine lv_tableIn (tgt := 107) (off := 92) hx hb dX5_section_15 (by rw [c15_4]; decide) (by rw [c15_4]; decide) (by rw [c15_4]; rfl) (by decide) ?_
      refine lv_aload_n hx hb dX5_section_107 rfl (lv_at hl 0 rfl) ?_
      refine va_get (v := .ref h) (C := RX5) (T := TX5) (N := 6) (ci := 5) hx hb hts hinX5 hown hK hP 13 rfl rfl 0 (by decide) (hts (.fieldLink RX5 10 "AxleKeeper" "now" "LAxleKeeper$Line;") (by decide +kernel)) (fun _ h9 => h9) rfl dX5_section_108 ?_
      refine va_get (v := .ref (a 12)) (C := RX3) (T := TX3) (N := 15) (ci := 3) hx hb hts hinX3 hown hK hP 0 rfl rfl 12 (by decide) (hts (.fieldLink RX5 103 "AxleKeeper$Line" "call" "[I") (by decide +kernel)) (fun _ h9 => h9) rfl dX5_section_111 ?_
      refine lv_iload_n hx hb dX5_section_114 rfl (lv_at hl 1 rfl) ?_
      refine va_iald hx hb hK hP 10 0 rfl rfl (n := 6) (by assumption) dX5_section_115 ?_
      refine lv_iconst (v := 3) hx hb dX5_section_116 (by decide) ?_
      refine lv_icmp_ne (tgt := 132) hx hb dX5_section_117 (by decide) (fun c_117 => ?_) (fun c_117 => ?_)
      · have c_117 : ¬ ((f 12 (ix x1)) = 3) := c_117
        refine lv_iconst (v := 0) hx hb dX5_section_132 (by decide) ?_
        have hρ : kX5_section f g x1 x2 = 0 := (if_neg c_8).trans ((if_neg c15_0).trans ((if_neg c15_1).trans ((if_neg c15_2).trans ((if_neg c15_3).trans ((if_pos c15_4).trans ((if_neg c_117)))))))
        exact e_rd hx hb hr hlk dX5_section_133 hρ.symm
      have c_117 : (f 12 (ix x1)) = 3 := c_117
      refine lv_aload_n hx hb dX5_section_120 rfl (lv_at hl 0 rfl) ?_
      refine va_get (v := .ref h) (C := RX5) (T := TX5) (N := 6) (ci := 5) hx hb hts hinX5 hown hK hP 13 rfl rfl 0 (by decide) (hts (.fieldLink RX5 10 "AxleKeeper" "now" "LAxleKeeper$Line;") (by decide +kernel)) (fun _ h9 => h9) rfl dX5_section_121 ?_
      refine va_get (v := .ref (a 13)) (C := RX3) (T := TX3) (N := 15) (ci := 3) hx hb hts hinX3 hown hK hP 0 rfl rfl 13 (by decide) (hts (.fieldLink RX5 115 "AxleKeeper$Line" "entered" "[I") (by decide +kernel)) (fun _ h9 => h9) rfl dX5_section_124 ?_
      refine lv_iload_n hx hb dX5_section_127 rfl (lv_at hl 1 rfl) ?_
      refine va_iald hx hb hK hP 11 0 rfl rfl (n := 6) (by assumption) dX5_section_128 ?_
      refine lv_goto (tgt := 133) hx hb dX5_section_129 (by decide) ?_
      have hρ : kX5_section f g x1 x2 = (f 13 (ix x1)) := (if_neg c_8).trans ((if_neg c15_0).trans ((if_neg c15_1).trans ((if_neg c15_2).trans ((if_neg c15_3).trans ((if_pos c15_4).trans ((if_pos c_117)))))))
      exact e_rd hx hb hr hlk dX5_section_133 hρ.symm
    by_cases c15_5 : x2 = 5
    · refine lv_tableIn (tgt := 134) (off := 119) hx hb dX5_section_15 (by rw [c15_5]; decide) (by rw [c15_5]; decide) (by rw [c15_5]; rfl) (by decide) ?_
      refine lv_aload_n hx hb dX5_section_134 rfl (lv_at hl 0 rfl) ?_
      refine va_get (v := .ref h) (C := RX5) (T := TX5) (N := 6) (ci := 5) hx hb hts hinX5 hown hK hP 13 rfl rfl 0 (by decide) (hts (.fieldLink RX5 10 "AxleKeeper" "now" "LAxleKeeper$Line;") (by decide +kernel)) (fun _ h9 => h9) rfl dX5_section_135 ?_
      refine lv_iload_n hx hb dX5_section_138 rfl (lv_at hl 1 rfl) ?_
      refine k_rd (As := [.int x1]) (rest := []) (bytes := cX3_lossesLeft) (C := RX3) S (okX3_lossesLeft l D cI cZ cQ h a (KR cI cZ cQ h b g ++ X) f x1 (by assumption)) gX5_section_X3_lossesLeft rfl ⟨rfl, rfl⟩ ndX3_lossesLeft ⟨Nat.le_of_ble_eq_true rfl, Nat.le_of_ble_eq_true rfl⟩ hK hP 0 rfl rfl rfl hl rfl (Nat.le_of_ble_eq_true rfl) dX5_section_139 ⟨Nat.zero_le _, Nat.zero_le _⟩ ?_
      have hρ : kX5_section f g x1 x2 = (kX3_lossesLeft f x1) := (if_neg c_8).trans ((if_neg c15_0).trans ((if_neg c15_1).trans ((if_neg c15_2).trans ((if_neg c15_3).trans ((if_neg c15_4).trans ((if_pos c15_5)))))))
      exact e_rd hx hb hr hlk dX5_section_142 hρ.symm
    by_cases c15_6 : x2 = 6
    · refine lv_tableIn (tgt := 143) (off := 128) hx hb dX5_section_15 (by rw [c15_6]; decide) (by rw [c15_6]; decide) (by rw [c15_6]; rfl) (by decide) ?_
      refine lv_aload_n hx hb dX5_section_143 rfl (lv_at hl 0 rfl) ?_
      refine va_get (v := .ref h) (C := RX5) (T := TX5) (N := 6) (ci := 5) hx hb hts hinX5 hown hK hP 13 rfl rfl 0 (by decide) (hts (.fieldLink RX5 10 "AxleKeeper" "now" "LAxleKeeper$Line;") (by decide +kernel)) (fun _ h9 => h9) rfl dX5_section_144 ?_
      refine lv_iload_n hx hb dX5_section_147 rfl (lv_at hl 1 rfl) ?_
      refine k_rd (As := [.int x1]) (rest := []) (bytes := cX3_clearRun) (C := RX3) S (okX3_clearRun l D cI cZ cQ h a (KR cI cZ cQ h b g ++ X) f x1 (by assumption)) gX5_section_X3_clearRun rfl ⟨rfl, rfl⟩ ndX3_clearRun ⟨Nat.le_of_ble_eq_true rfl, Nat.le_of_ble_eq_true rfl⟩ hK hP 0 rfl rfl rfl hl rfl (Nat.le_of_ble_eq_true rfl) dX5_section_148 ⟨Nat.zero_le _, Nat.zero_le _⟩ ?_
      have hρ : kX5_section f g x1 x2 = (kX3_clearRun f x1) := (if_neg c_8).trans ((if_neg c15_0).trans ((if_neg c15_1).trans ((if_neg c15_2).trans ((if_neg c15_3).trans ((if_neg c15_4).trans ((if_neg c15_5).trans ((if_pos c15_6))))))))
      exact e_rd hx hb hr hlk dX5_section_151 hρ.symm
    have hsw : x2.toInt < 0 ∨ 6 < x2.toInt := sw_out 6 (fun j hj => by
      rcases (show j = 0 ∨ j = 1 ∨ j = 2 ∨ j = 3 ∨ j = 4 ∨ j = 5 ∨ j = 6 by omega) with rfl | rfl | rfl | rfl | rfl | rfl | rfl
      · exact c15_0
      · exact c15_1
      · exact c15_2
      · exact c15_3
      · exact c15_4
      · exact c15_5
      · exact c15_6)
    refine lv_tableOut (tgt := 152) hx hb dX5_section_15 hsw (by decide) ?_
    refine lv_ldc (v := (-1000000002)) hx hb hown (hts (.constant RX5 97 (-1000000002)) (by decide +kernel)) dX5_section_152 ?_
    have hρ : kX5_section f g x1 x2 = (-1000000002) := (if_neg c_8).trans ((if_neg c15_0).trans ((if_neg c15_1).trans ((if_neg c15_2).trans ((if_neg c15_3).trans ((if_neg c15_4).trans ((if_neg c15_5).trans ((if_neg c15_6))))))))
    exact e_rd hx hb hr hlk dX5_section_154 hρ.symm
  have c_8 : (kX3_hasSection f x1) = 0 := c_8
  refine lv_ldc (v := (-1000000001)) hx hb hown (hts (.constant RX5 102 (-1000000001)) (by decide +kernel)) dX5_section_11 ?_
  have hρ : kX5_section f g x1 x2 = (-1000000001) := (if_pos c_8)
  exact e_rd hx hb hr hlk dX5_section_13 hρ.symm
theorem ndX5_head : yX5_head.cls = RX5 ∧ yX5_head.cls ≠ "java/lang/invoke/MethodHandle" ∧ yX5_head.cls ≠ "java/lang/invoke/VarHandle" ∧ (parseMethodDescriptor yX5_head.desc).map (fun d => d.parameters.length) = some 2 := by decide +kernel
set_option maxHeartbeats 4000000 in
set_option maxRecDepth 100000 in
theorem okX5_head (l : Launch) (D : va_G) (cI cZ cQ : ClassId) (h : Nat) (a b : Nat → Nat) (X : va_W) (f g : Nat → Nat → Int32) (x1 x2 : Int32) (hok : okL f) : Met l yX5_head wsX5_head ({ frames := 3, cells := 0, slots := 0, locals := 67 }) (PR [.ref (b 0), .int x1, .int x2] D (TY cI cZ cQ) (LW cI h a f ++ (KR cI cZ cQ h b g ++ X))) (QR (kX5_head f g x1 x2)) 0 0 (fun _ => False) := by
  refine m_rd (cc := cX5_head) (maxL := 3) (ret := (some .int)) (by decide) rfl (Nat.le_of_ble_eq_true rfl) (lv0 := [(0, .ref (b 0)), (1, .int x1), (2, .int x2)]) rfl ?_
  intro p e s m below meth c ls S hr hlk hP hK hl
  have S : CallFix p m c cX5_head 3 s ([.ref (b 0), .int x1, .int x2] : List Value).toArray wsX5_head RX5 := S
  have hx := S.1
  have hb := S.2.1
  have hown : s.vm.findClass RX5 = some m.cls := S.2.2.2.1
  have hts := S.2.2.2.2
  have hinX3 : ∀ w ∈ wsX30, w ∈ wsX5_head := by decide +kernel
  have hinX5 : ∀ w ∈ wsX50, w ∈ wsX5_head := by decide +kernel
  refine lv_aload_n hx hb dX5_head_0 rfl (lv_at hl 0 rfl) ?_
  refine va_get (v := .ref h) (C := RX5) (T := TX5) (N := 6) (ci := 5) hx hb hts hinX5 hown hK hP 13 rfl rfl 0 (by decide) (hts (.fieldLink RX5 10 "AxleKeeper" "now" "LAxleKeeper$Line;") (by decide +kernel)) (fun _ h9 => h9) rfl dX5_head_1 ?_
  refine lv_iload_n hx hb dX5_head_4 rfl (lv_at hl 1 rfl) ?_
  refine k_rd (As := [.int x1]) (rest := []) (bytes := cX3_hasHead) (C := RX3) S (okX3_hasHead l D cI cZ cQ h a (KR cI cZ cQ h b g ++ X) f x1) gX5_head_X3_hasHead rfl ⟨rfl, rfl⟩ ndX3_hasHead ⟨Nat.le_of_ble_eq_true rfl, Nat.le_of_ble_eq_true rfl⟩ hK hP 0 rfl rfl rfl hl rfl (Nat.le_of_ble_eq_true rfl) dX5_head_5 ⟨Nat.zero_le _, Nat.zero_le _⟩ ?_
  refine lv_if_ne (tgt := 14) hx hb dX5_head_8 (by decide) (fun c_8 => ?_) (fun c_8 => ?_)
  · have c_8 : ¬ ((kX3_hasHead f x1) = 0) := c_8
    have h7 : vp_in x1 7 := hh_in hok c_8
    refine lv_iload_n hx hb dX5_head_14 rfl (lv_at hl 2 rfl) ?_
    by_cases c15_0 : x2 = 0
    · refine lv_tableIn (tgt := 68) (off := 53) hx hb dX5_head_15 (by rw [c15_0]; decide) (by rw [c15_0]; decide) (by rw [c15_0]; rfl) (by decide) ?_
      refine lv_aload_n hx hb dX5_head_68 rfl (lv_at hl 0 rfl) ?_
      refine va_get (v := .ref h) (C := RX5) (T := TX5) (N := 6) (ci := 5) hx hb hts hinX5 hown hK hP 13 rfl rfl 0 (by decide) (hts (.fieldLink RX5 10 "AxleKeeper" "now" "LAxleKeeper$Line;") (by decide +kernel)) (fun _ h9 => h9) rfl dX5_head_69 ?_
      refine va_get (v := .ref (a 3)) (C := RX3) (T := TX3) (N := 15) (ci := 3) hx hb hts hinX3 hown hK hP 0 rfl rfl 3 (by decide) (hts (.fieldLink RX5 127 "AxleKeeper$Line" "state" "[I") (by decide +kernel)) (fun _ h9 => h9) rfl dX5_head_72 ?_
      refine lv_iload_n hx hb dX5_head_75 rfl (lv_at hl 1 rfl) ?_
      refine va_iald hx hb hK hP 1 0 rfl rfl (n := 7) (by assumption) dX5_head_76 ?_
      have hρ : kX5_head f g x1 x2 = (f 3 (ix x1)) := (if_neg c_8).trans ((if_pos c15_0))
      exact e_rd hx hb hr hlk dX5_head_77 hρ.symm
    by_cases c15_1 : x2 = 1
    · refine lv_tableIn (tgt := 78) (off := 63) hx hb dX5_head_15 (by rw [c15_1]; decide) (by rw [c15_1]; decide) (by rw [c15_1]; rfl) (by decide) ?_
      refine lv_aload_n hx hb dX5_head_78 rfl (lv_at hl 0 rfl) ?_
      refine va_get (v := .ref h) (C := RX5) (T := TX5) (N := 6) (ci := 5) hx hb hts hinX5 hown hK hP 13 rfl rfl 0 (by decide) (hts (.fieldLink RX5 10 "AxleKeeper" "now" "LAxleKeeper$Line;") (by decide +kernel)) (fun _ h9 => h9) rfl dX5_head_79 ?_
      refine va_get (v := .ref (a 4)) (C := RX3) (T := TX3) (N := 15) (ci := 3) hx hb hts hinX3 hown hK hP 0 rfl rfl 4 (by decide) (hts (.fieldLink RX5 130 "AxleKeeper$Line" "wheel" "[I") (by decide +kernel)) (fun _ h9 => h9) rfl dX5_head_82 ?_
      refine lv_iload_n hx hb dX5_head_85 rfl (lv_at hl 1 rfl) ?_
      refine va_iald hx hb hK hP 2 0 rfl rfl (n := 7) (by assumption) dX5_head_86 ?_
      refine lv_iconst (v := 4) hx hb dX5_head_87 (by decide) ?_
      refine lv_iadd hx hb dX5_head_88 ?_
      have hρ : kX5_head f g x1 x2 = ((f 4 (ix x1)) + 4) := (if_neg c_8).trans ((if_neg c15_0).trans ((if_pos c15_1)))
      exact e_rd hx hb hr hlk dX5_head_89 hρ.symm
    by_cases c15_2 : x2 = 2
    · refine lv_tableIn (tgt := 90) (off := 75) hx hb dX5_head_15 (by rw [c15_2]; decide) (by rw [c15_2]; decide) (by rw [c15_2]; rfl) (by decide) ?_
      refine lv_aload_n hx hb dX5_head_90 rfl (lv_at hl 0 rfl) ?_
      refine va_get (v := .ref h) (C := RX5) (T := TX5) (N := 6) (ci := 5) hx hb hts hinX5 hown hK hP 13 rfl rfl 0 (by decide) (hts (.fieldLink RX5 10 "AxleKeeper" "now" "LAxleKeeper$Line;") (by decide +kernel)) (fun _ h9 => h9) rfl dX5_head_91 ?_
      refine va_get (v := .ref (a 5)) (C := RX3) (T := TX3) (N := 15) (ci := 3) hx hb hts hinX3 hown hK hP 0 rfl rfl 5 (by decide) (hts (.fieldLink RX5 133 "AxleKeeper$Line" "count" "[I") (by decide +kernel)) (fun _ h9 => h9) rfl dX5_head_94 ?_
      refine lv_iload_n hx hb dX5_head_97 rfl (lv_at hl 1 rfl) ?_
      refine va_iald hx hb hK hP 3 0 rfl rfl (n := 7) (by assumption) dX5_head_98 ?_
      refine lv_sipush (v := 10000) hx hb dX5_head_99 (by decide) ?_
      refine lv_iadd hx hb dX5_head_102 ?_
      have hρ : kX5_head f g x1 x2 = ((f 5 (ix x1)) + 10000) := (if_neg c_8).trans ((if_neg c15_0).trans ((if_neg c15_1).trans ((if_pos c15_2))))
      exact e_rd hx hb hr hlk dX5_head_103 hρ.symm
    by_cases c15_3 : x2 = 3
    · refine lv_tableIn (tgt := 104) (off := 89) hx hb dX5_head_15 (by rw [c15_3]; decide) (by rw [c15_3]; decide) (by rw [c15_3]; rfl) (by decide) ?_
      refine lv_aload_n hx hb dX5_head_104 rfl (lv_at hl 0 rfl) ?_
      refine va_get (v := .ref h) (C := RX5) (T := TX5) (N := 6) (ci := 5) hx hb hts hinX5 hown hK hP 13 rfl rfl 0 (by decide) (hts (.fieldLink RX5 10 "AxleKeeper" "now" "LAxleKeeper$Line;") (by decide +kernel)) (fun _ h9 => h9) rfl dX5_head_105 ?_
      refine va_get (v := .ref (a 7)) (C := RX3) (T := TX3) (N := 15) (ci := 3) hx hb hts hinX3 hown hK hP 0 rfl rfl 7 (by decide) (hts (.fieldLink RX5 136 "AxleKeeper$Line" "heard" "[I") (by decide +kernel)) (fun _ h9 => h9) rfl dX5_head_108 ?_
      refine lv_iload_n hx hb dX5_head_111 rfl (lv_at hl 1 rfl) ?_
      refine va_iald hx hb hK hP 5 0 rfl rfl (n := 7) (by assumption) dX5_head_112 ?_
      have hρ : kX5_head f g x1 x2 = (f 7 (ix x1)) := (if_neg c_8).trans ((if_neg c15_0).trans ((if_neg c15_1).trans ((if_neg c15_2).trans ((if_pos c15_3)))))
      exact e_rd hx hb hr hlk dX5_head_113 hρ.symm
    by_cases c15_4 : x2 = 4
    · refine lv_tableIn (tgt := 114) (off := 99) hx hb dX5_head_15 (by rw [c15_4]; decide) (by rw [c15_4]; decide) (by rw [c15_4]; rfl) (by decide) ?_
      refine lv_aload_n hx hb dX5_head_114 rfl (lv_at hl 0 rfl) ?_
      refine va_get (v := .ref h) (C := RX5) (T := TX5) (N := 6) (ci := 5) hx hb hts hinX5 hown hK hP 13 rfl rfl 0 (by decide) (hts (.fieldLink RX5 10 "AxleKeeper" "now" "LAxleKeeper$Line;") (by decide +kernel)) (fun _ h9 => h9) rfl dX5_head_115 ?_
      refine va_get (v := .ref (a 9)) (C := RX3) (T := TX3) (N := 15) (ci := 3) hx hb hts hinX3 hown hK hP 0 rfl rfl 9 (by decide) (hts (.fieldLink RX5 139 "AxleKeeper$Line" "age" "[I") (by decide +kernel)) (fun _ h9 => h9) rfl dX5_head_118 ?_
      refine lv_iload_n hx hb dX5_head_121 rfl (lv_at hl 1 rfl) ?_
      refine va_iald hx hb hK hP 7 0 rfl rfl (n := 7) (by assumption) dX5_head_122 ?_
      have hρ : kX5_head f g x1 x2 = (f 9 (ix x1)) := (if_neg c_8).trans ((if_neg c15_0).trans ((if_neg c15_1).trans ((if_neg c15_2).trans ((if_neg c15_3).trans ((if_pos c15_4))))))
      exact e_rd hx hb hr hlk dX5_head_123 hρ.symm
    by_cases c15_5 : x2 = 5
    · refine lv_tableIn (tgt := 124) (off := 109) hx hb dX5_head_15 (by rw [c15_5]; decide) (by rw [c15_5]; decide) (by rw [c15_5]; rfl) (by decide) ?_
      refine lv_aload_n hx hb dX5_head_124 rfl (lv_at hl 0 rfl) ?_
      refine va_get (v := .ref h) (C := RX5) (T := TX5) (N := 6) (ci := 5) hx hb hts hinX5 hown hK hP 13 rfl rfl 0 (by decide) (hts (.fieldLink RX5 10 "AxleKeeper" "now" "LAxleKeeper$Line;") (by decide +kernel)) (fun _ h9 => h9) rfl dX5_head_125 ?_
      refine va_get (v := .ref (a 6)) (C := RX3) (T := TX3) (N := 15) (ci := 3) hx hb hts hinX3 hown hK hP 0 rfl rfl 6 (by decide) (hts (.fieldLink RX5 142 "AxleKeeper$Line" "faulty" "[I") (by decide +kernel)) (fun _ h9 => h9) rfl dX5_head_128 ?_
      refine lv_iload_n hx hb dX5_head_131 rfl (lv_at hl 1 rfl) ?_
      refine va_iald hx hb hK hP 4 0 rfl rfl (n := 7) (by assumption) dX5_head_132 ?_
      have hρ : kX5_head f g x1 x2 = (f 6 (ix x1)) := (if_neg c_8).trans ((if_neg c15_0).trans ((if_neg c15_1).trans ((if_neg c15_2).trans ((if_neg c15_3).trans ((if_neg c15_4).trans ((if_pos c15_5)))))))
      exact e_rd hx hb hr hlk dX5_head_133 hρ.symm
    by_cases c15_6 : x2 = 6
    · refine lv_tableIn (tgt := 134) (off := 119) hx hb dX5_head_15 (by rw [c15_6]; decide) (by rw [c15_6]; decide) (by rw [c15_6]; rfl) (by decide) ?_
      refine lv_aload_n hx hb dX5_head_134 rfl (lv_at hl 0 rfl) ?_
      refine va_get (v := .ref h) (C := RX5) (T := TX5) (N := 6) (ci := 5) hx hb hts hinX5 hown hK hP 13 rfl rfl 0 (by decide) (hts (.fieldLink RX5 10 "AxleKeeper" "now" "LAxleKeeper$Line;") (by decide +kernel)) (fun _ h9 => h9) rfl dX5_head_135 ?_
      refine va_get (v := .ref (a 8)) (C := RX3) (T := TX3) (N := 15) (ci := 3) hx hb hts hinX3 hown hK hP 0 rfl rfl 8 (by decide) (hts (.fieldLink RX5 145 "AxleKeeper$Line" "heardFaulty" "[I") (by decide +kernel)) (fun _ h9 => h9) rfl dX5_head_138 ?_
      refine lv_iload_n hx hb dX5_head_141 rfl (lv_at hl 1 rfl) ?_
      refine va_iald hx hb hK hP 6 0 rfl rfl (n := 7) (by assumption) dX5_head_142 ?_
      have hρ : kX5_head f g x1 x2 = (f 8 (ix x1)) := (if_neg c_8).trans ((if_neg c15_0).trans ((if_neg c15_1).trans ((if_neg c15_2).trans ((if_neg c15_3).trans ((if_neg c15_4).trans ((if_neg c15_5).trans ((if_pos c15_6))))))))
      exact e_rd hx hb hr hlk dX5_head_143 hρ.symm
    by_cases c15_7 : x2 = 7
    · refine lv_tableIn (tgt := 144) (off := 129) hx hb dX5_head_15 (by rw [c15_7]; decide) (by rw [c15_7]; decide) (by rw [c15_7]; rfl) (by decide) ?_
      refine lv_aload_n hx hb dX5_head_144 rfl (lv_at hl 0 rfl) ?_
      refine va_get (v := .ref h) (C := RX5) (T := TX5) (N := 6) (ci := 5) hx hb hts hinX5 hown hK hP 13 rfl rfl 0 (by decide) (hts (.fieldLink RX5 10 "AxleKeeper" "now" "LAxleKeeper$Line;") (by decide +kernel)) (fun _ h9 => h9) rfl dX5_head_145 ?_
      refine va_get (v := .ref (a 10)) (C := RX3) (T := TX3) (N := 15) (ci := 3) hx hb hts hinX3 hown hK hP 0 rfl rfl 10 (by decide) (hts (.fieldLink RX5 148 "AxleKeeper$Line" "sweptOver" "[I") (by decide +kernel)) (fun _ h9 => h9) rfl dX5_head_148 ?_
      refine lv_iload_n hx hb dX5_head_151 rfl (lv_at hl 1 rfl) ?_
      refine va_iald hx hb hK hP 8 0 rfl rfl (n := 7) (by assumption) dX5_head_152 ?_
      have hρ : kX5_head f g x1 x2 = (f 10 (ix x1)) := (if_neg c_8).trans ((if_neg c15_0).trans ((if_neg c15_1).trans ((if_neg c15_2).trans ((if_neg c15_3).trans ((if_neg c15_4).trans ((if_neg c15_5).trans ((if_neg c15_6).trans ((if_pos c15_7)))))))))
      exact e_rd hx hb hr hlk dX5_head_153 hρ.symm
    by_cases c15_8 : x2 = 8
    · refine lv_tableIn (tgt := 154) (off := 139) hx hb dX5_head_15 (by rw [c15_8]; decide) (by rw [c15_8]; decide) (by rw [c15_8]; rfl) (by decide) ?_
      refine lv_aload_n hx hb dX5_head_154 rfl (lv_at hl 0 rfl) ?_
      refine va_get (v := .ref h) (C := RX5) (T := TX5) (N := 6) (ci := 5) hx hb hts hinX5 hown hK hP 13 rfl rfl 0 (by decide) (hts (.fieldLink RX5 10 "AxleKeeper" "now" "LAxleKeeper$Line;") (by decide +kernel)) (fun _ h9 => h9) rfl dX5_head_155 ?_
      refine lv_iload_n hx hb dX5_head_158 rfl (lv_at hl 1 rfl) ?_
      refine k_rd (As := [.int x1]) (rest := []) (bytes := cX3_joins) (C := RX3) S (okX3_joins l D cI cZ cQ h a (KR cI cZ cQ h b g ++ X) f x1) gX5_head_X3_joins rfl ⟨rfl, rfl⟩ ndX3_joins ⟨Nat.le_of_ble_eq_true rfl, Nat.le_of_ble_eq_true rfl⟩ hK hP 0 rfl rfl rfl hl rfl (Nat.le_of_ble_eq_true rfl) dX5_head_159 ⟨Nat.zero_le _, Nat.zero_le _⟩ ?_
      refine lv_if_eq (tgt := 180) hx hb dX5_head_162 (by decide) (fun c_162 => ?_) (fun c_162 => ?_)
      · have c_162 : (kX3_joins f x1) = 0 := c_162
        refine lv_iconst (v := (-1)) hx hb dX5_head_180 (by decide) ?_
        have hρ : kX5_head f g x1 x2 = (-1) := (if_neg c_8).trans ((if_neg c15_0).trans ((if_neg c15_1).trans ((if_neg c15_2).trans ((if_neg c15_3).trans ((if_neg c15_4).trans ((if_neg c15_5).trans ((if_neg c15_6).trans ((if_neg c15_7).trans ((if_pos c15_8).trans ((if_pos c_162)))))))))))
        exact e_rd hx hb hr hlk dX5_head_181 hρ.symm
      have c_162 : ¬ ((kX3_joins f x1) = 0) := c_162
      refine lv_aload_n hx hb dX5_head_165 rfl (lv_at hl 0 rfl) ?_
      refine va_get (v := .ref h) (C := RX5) (T := TX5) (N := 6) (ci := 5) hx hb hts hinX5 hown hK hP 13 rfl rfl 0 (by decide) (hts (.fieldLink RX5 10 "AxleKeeper" "now" "LAxleKeeper$Line;") (by decide +kernel)) (fun _ h9 => h9) rfl dX5_head_166 ?_
      refine lv_iload_n hx hb dX5_head_169 rfl (lv_at hl 1 rfl) ?_
      refine k_rd (As := [.int x1]) (rest := []) (bytes := cX3_joint) (C := RX3) S (okX3_joint l D cI cZ cQ h a (KR cI cZ cQ h b g ++ X) f x1 (by assumption)) gX5_head_X3_joint rfl ⟨rfl, rfl⟩ ndX3_joint ⟨Nat.le_of_ble_eq_true rfl, Nat.le_of_ble_eq_true rfl⟩ hK hP 0 rfl rfl rfl hl rfl (Nat.le_of_ble_eq_true rfl) dX5_head_170 ⟨Nat.zero_le _, Nat.zero_le _⟩ ?_
      refine lv_sipush (v := 2000) hx hb dX5_head_173 (by decide) ?_
      refine lv_iadd hx hb dX5_head_176 ?_
      refine lv_goto (tgt := 181) hx hb dX5_head_177 (by decide) ?_
      have hρ : kX5_head f g x1 x2 = ((kX3_joint f x1) + 2000) := (if_neg c_8).trans ((if_neg c15_0).trans ((if_neg c15_1).trans ((if_neg c15_2).trans ((if_neg c15_3).trans ((if_neg c15_4).trans ((if_neg c15_5).trans ((if_neg c15_6).trans ((if_neg c15_7).trans ((if_pos c15_8).trans ((if_neg c_162)))))))))))
      exact e_rd hx hb hr hlk dX5_head_181 hρ.symm
    by_cases c15_9 : x2 = 9
    · refine lv_tableIn (tgt := 182) (off := 167) hx hb dX5_head_15 (by rw [c15_9]; decide) (by rw [c15_9]; decide) (by rw [c15_9]; rfl) (by decide) ?_
      refine lv_aload_n hx hb dX5_head_182 rfl (lv_at hl 0 rfl) ?_
      refine va_get (v := .ref h) (C := RX5) (T := TX5) (N := 6) (ci := 5) hx hb hts hinX5 hown hK hP 13 rfl rfl 0 (by decide) (hts (.fieldLink RX5 10 "AxleKeeper" "now" "LAxleKeeper$Line;") (by decide +kernel)) (fun _ h9 => h9) rfl dX5_head_183 ?_
      refine lv_iload_n hx hb dX5_head_186 rfl (lv_at hl 1 rfl) ?_
      refine k_rd (As := [.int x1]) (rest := []) (bytes := cX3_miscount) (C := RX3) S (okX3_miscount l D cI cZ cQ h a (KR cI cZ cQ h b g ++ X) f x1 (by assumption)) gX5_head_X3_miscount rfl ⟨rfl, rfl⟩ ndX3_miscount ⟨Nat.le_of_ble_eq_true rfl, Nat.le_of_ble_eq_true rfl⟩ hK hP 0 rfl rfl rfl hl rfl (Nat.le_of_ble_eq_true rfl) dX5_head_187 ⟨Nat.zero_le _, Nat.zero_le _⟩ ?_
      refine k_rs (As := [.int (kX3_miscount f x1)]) (rest := []) (bytes := cX5_miscountTold) S (okX5_miscountTold l D cI cZ cQ h a b X f g (kX3_miscount f x1)) gX5_head_X5_miscountTold rfl ⟨rfl, rfl⟩ ndX5_miscountTold ⟨Nat.le_of_ble_eq_true rfl, Nat.le_of_ble_eq_true rfl⟩ hK hP rfl hl rfl (Nat.le_of_ble_eq_true rfl) dX5_head_190 ⟨Nat.zero_le _, Nat.zero_le _⟩ ?_
      have hρ : kX5_head f g x1 x2 = (kX5_miscountTold f g (kX3_miscount f x1)) := (if_neg c_8).trans ((if_neg c15_0).trans ((if_neg c15_1).trans ((if_neg c15_2).trans ((if_neg c15_3).trans ((if_neg c15_4).trans ((if_neg c15_5).trans ((if_neg c15_6).trans ((if_neg c15_7).trans ((if_neg c15_8).trans ((if_pos c15_9)))))))))))
      exact e_rd hx hb hr hlk dX5_head_193 hρ.symm
    have hsw : x2.toInt < 0 ∨ 9 < x2.toInt := sw_out 9 (fun j hj => by
      rcases (show j = 0 ∨ j = 1 ∨ j = 2 ∨ j = 3 ∨ j = 4 ∨ j = 5 ∨ j = 6 ∨ j = 7 ∨ j = 8 ∨ j = 9 by omega) with rfl | rfl | rfl | rfl | rfl | rfl | rfl | rfl | rfl | rfl
      · exact c15_0
      · exact c15_1
      · exact c15_2
      · exact c15_3
      · exact c15_4
      · exact c15_5
      · exact c15_6
      · exact c15_7
      · exact c15_8
      · exact c15_9)
    refine lv_tableOut (tgt := 194) hx hb dX5_head_15 hsw (by decide) ?_
    refine lv_ldc (v := (-1000000002)) hx hb hown (hts (.constant RX5 97 (-1000000002)) (by decide +kernel)) dX5_head_194 ?_
    have hρ : kX5_head f g x1 x2 = (-1000000002) := (if_neg c_8).trans ((if_neg c15_0).trans ((if_neg c15_1).trans ((if_neg c15_2).trans ((if_neg c15_3).trans ((if_neg c15_4).trans ((if_neg c15_5).trans ((if_neg c15_6).trans ((if_neg c15_7).trans ((if_neg c15_8).trans ((if_neg c15_9)))))))))))
    exact e_rd hx hb hr hlk dX5_head_196 hρ.symm
  have c_8 : (kX3_hasHead f x1) = 0 := c_8
  refine lv_ldc (v := (-1000000001)) hx hb hown (hts (.constant RX5 102 (-1000000001)) (by decide +kernel)) dX5_head_11 ?_
  have hρ : kX5_head f g x1 x2 = (-1000000001) := (if_pos c_8)
  exact e_rd hx hb hr hlk dX5_head_13 hρ.symm
theorem ndX5_refusalToMove : yX5_refusalToMove.cls = RX5 ∧ yX5_refusalToMove.cls ≠ "java/lang/invoke/MethodHandle" ∧ yX5_refusalToMove.cls ≠ "java/lang/invoke/VarHandle" ∧ (parseMethodDescriptor yX5_refusalToMove.desc).map (fun d => d.parameters.length) = some 3 := by decide +kernel
set_option maxHeartbeats 4000000 in
set_option maxRecDepth 100000 in
theorem okX5_refusalToMove (l : Launch) (D : va_G) (cI cZ cQ : ClassId) (h : Nat) (a b : Nat → Nat) (X : va_W) (f g : Nat → Nat → Int32) (x1 x2 x3 : Int32) (hok : okL f) : Met l yX5_refusalToMove wsX5_refusalToMove ({ frames := 3, cells := 0, slots := 0, locals := 67 }) (PR [.ref (b 0), .int x1, .int x2, .int x3] D (TY cI cZ cQ) (LW cI h a f ++ (KR cI cZ cQ h b g ++ X))) (QR (kX5_refusalToMove f g x1 x2 x3)) 0 0 (fun _ => False) := by
  refine m_rd (cc := cX5_refusalToMove) (maxL := 4) (ret := (some .int)) (by decide) rfl (Nat.le_of_ble_eq_true rfl) (lv0 := [(0, .ref (b 0)), (1, .int x1), (2, .int x2), (3, .int x3)]) rfl ?_
  intro p e s m below meth c ls S hr hlk hP hK hl
  have S : CallFix p m c cX5_refusalToMove 4 s ([.ref (b 0), .int x1, .int x2, .int x3] : List Value).toArray wsX5_refusalToMove RX5 := S
  have hx := S.1
  have hb := S.2.1
  have hown : s.vm.findClass RX5 = some m.cls := S.2.2.2.1
  have hts := S.2.2.2.2
  have hinX5 : ∀ w ∈ wsX50, w ∈ wsX5_refusalToMove := by decide +kernel
  refine lv_aload_n hx hb dX5_refusalToMove_0 rfl (lv_at hl 0 rfl) ?_
  refine va_get (v := .ref h) (C := RX5) (T := TX5) (N := 6) (ci := 5) hx hb hts hinX5 hown hK hP 13 rfl rfl 0 (by decide) (hts (.fieldLink RX5 10 "AxleKeeper" "now" "LAxleKeeper$Line;") (by decide +kernel)) (fun _ h9 => h9) rfl dX5_refusalToMove_1 ?_
  refine lv_iload_n hx hb dX5_refusalToMove_4 rfl (lv_at hl 1 rfl) ?_
  refine k_rd (As := [.int x1]) (rest := []) (bytes := cX3_hasHead) (C := RX3) S (okX3_hasHead l D cI cZ cQ h a (KR cI cZ cQ h b g ++ X) f x1) gX5_refusalToMove_X3_hasHead rfl ⟨rfl, rfl⟩ ndX3_hasHead ⟨Nat.le_of_ble_eq_true rfl, Nat.le_of_ble_eq_true rfl⟩ hK hP 0 rfl rfl rfl hl rfl (Nat.le_of_ble_eq_true rfl) dX5_refusalToMove_5 ⟨Nat.zero_le _, Nat.zero_le _⟩ ?_
  refine lv_if_ne (tgt := 14) hx hb dX5_refusalToMove_8 (by decide) (fun c_8 => ?_) (fun c_8 => ?_)
  · have c_8 : ¬ ((kX3_hasHead f x1) = 0) := c_8
    refine lv_iload_n hx hb dX5_refusalToMove_14 rfl (lv_at hl 2 rfl) ?_
    refine lv_if_lt (tgt := 34) hx hb dX5_refusalToMove_15 (by decide) (fun c_15 => ?_) (fun c_15 => ?_)
    · have c_15 : x2 < 0 := c_15
      refine lv_ldc (v := (-1000000002)) hx hb hown (hts (.constant RX5 97 (-1000000002)) (by decide +kernel)) dX5_refusalToMove_34 ?_
      have hρ : kX5_refusalToMove f g x1 x2 x3 = (-1000000002) := (if_neg c_8).trans ((if_pos c_15))
      exact e_rd hx hb hr hlk dX5_refusalToMove_36 hρ.symm
    have c_15 : ¬ (x2 < 0) := c_15
    refine lv_iload_n hx hb dX5_refusalToMove_18 rfl (lv_at hl 2 rfl) ?_
    refine lv_iconst (v := 1) hx hb dX5_refusalToMove_19 (by decide) ?_
    refine lv_icmp_gt (tgt := 34) hx hb dX5_refusalToMove_20 (by decide) (fun c_20 => ?_) (fun c_20 => ?_)
    · have c_20 : 1 < x2 := c_20
      refine lv_ldc (v := (-1000000002)) hx hb hown (hts (.constant RX5 97 (-1000000002)) (by decide +kernel)) dX5_refusalToMove_34 ?_
      have hρ : kX5_refusalToMove f g x1 x2 x3 = (-1000000002) := (if_neg c_8).trans ((if_neg c_15).trans ((if_pos c_20)))
      exact e_rd hx hb hr hlk dX5_refusalToMove_36 hρ.symm
    have c_20 : ¬ (1 < x2) := c_20
    refine lv_iload_n hx hb dX5_refusalToMove_23 rfl (lv_at hl 3 rfl) ?_
    refine lv_iconst (v := 1) hx hb dX5_refusalToMove_24 (by decide) ?_
    refine lv_icmp_lt (tgt := 34) hx hb dX5_refusalToMove_25 (by decide) (fun c_25 => ?_) (fun c_25 => ?_)
    · have c_25 : x3 < 1 := c_25
      refine lv_ldc (v := (-1000000002)) hx hb hown (hts (.constant RX5 97 (-1000000002)) (by decide +kernel)) dX5_refusalToMove_34 ?_
      have hρ : kX5_refusalToMove f g x1 x2 x3 = (-1000000002) := (if_neg c_8).trans ((if_neg c_15).trans ((if_neg c_20).trans ((if_pos c_25))))
      exact e_rd hx hb hr hlk dX5_refusalToMove_36 hρ.symm
    have c_25 : ¬ (x3 < 1) := c_25
    refine lv_iload_n hx hb dX5_refusalToMove_28 rfl (lv_at hl 3 rfl) ?_
    refine lv_bipush (v := 9) hx hb dX5_refusalToMove_29 (by decide) ?_
    refine lv_icmp_le (tgt := 37) hx hb dX5_refusalToMove_31 (by decide) (fun c_31 => ?_) (fun c_31 => ?_)
    · have c_31 : x3 ≤ 9 := c_31
      refine lv_aload_n hx hb dX5_refusalToMove_37 rfl (lv_at hl 0 rfl) ?_
      refine va_get (v := .ref h) (C := RX5) (T := TX5) (N := 6) (ci := 5) hx hb hts hinX5 hown hK hP 13 rfl rfl 0 (by decide) (hts (.fieldLink RX5 10 "AxleKeeper" "now" "LAxleKeeper$Line;") (by decide +kernel)) (fun _ h9 => h9) rfl dX5_refusalToMove_38 ?_
      refine lv_iload_n hx hb dX5_refusalToMove_41 rfl (lv_at hl 1 rfl) ?_
      refine lv_iload_n hx hb dX5_refusalToMove_42 rfl (lv_at hl 2 rfl) ?_
      refine lv_iload_n hx hb dX5_refusalToMove_43 rfl (lv_at hl 3 rfl) ?_
      refine k_rd (As := [.int x1, .int x2, .int x3]) (rest := []) (bytes := cX3_canCarry) (C := RX3) S (okX3_canCarry l D cI cZ cQ h a (KR cI cZ cQ h b g ++ X) f x1 x2 x3 (by assumption)) gX5_refusalToMove_X3_canCarry rfl ⟨rfl, rfl⟩ ndX3_canCarry ⟨Nat.le_of_ble_eq_true rfl, Nat.le_of_ble_eq_true rfl⟩ hK hP 0 rfl rfl rfl hl rfl (Nat.le_of_ble_eq_true rfl) dX5_refusalToMove_44 ⟨Nat.zero_le _, Nat.zero_le _⟩ ?_
      refine lv_if_eq (tgt := 54) hx hb dX5_refusalToMove_47 (by decide) (fun c_47 => ?_) (fun c_47 => ?_)
      · have c_47 : (kX3_canCarry f x1 x2 x3) = 0 := c_47
        refine lv_ldc (v := (-1000000003)) hx hb hown (hts (.constant RX5 167 (-1000000003)) (by decide +kernel)) dX5_refusalToMove_54 ?_
        have hρ : kX5_refusalToMove f g x1 x2 x3 = (-1000000003) := (if_neg c_8).trans ((if_neg c_15).trans ((if_neg c_20).trans ((if_neg c_25).trans ((if_pos c_31).trans ((if_pos c_47))))))
        exact e_rd hx hb hr hlk dX5_refusalToMove_56 hρ.symm
      have c_47 : ¬ ((kX3_canCarry f x1 x2 x3) = 0) := c_47
      refine lv_iconst (v := 0) hx hb dX5_refusalToMove_50 (by decide) ?_
      refine lv_goto (tgt := 56) hx hb dX5_refusalToMove_51 (by decide) ?_
      have hρ : kX5_refusalToMove f g x1 x2 x3 = 0 := (if_neg c_8).trans ((if_neg c_15).trans ((if_neg c_20).trans ((if_neg c_25).trans ((if_pos c_31).trans ((if_neg c_47))))))
      exact e_rd hx hb hr hlk dX5_refusalToMove_56 hρ.symm
    have c_31 : ¬ (x3 ≤ 9) := c_31
    refine lv_ldc (v := (-1000000002)) hx hb hown (hts (.constant RX5 97 (-1000000002)) (by decide +kernel)) dX5_refusalToMove_34 ?_
    have hρ : kX5_refusalToMove f g x1 x2 x3 = (-1000000002) := (if_neg c_8).trans ((if_neg c_15).trans ((if_neg c_20).trans ((if_neg c_25).trans ((if_neg c_31)))))
    exact e_rd hx hb hr hlk dX5_refusalToMove_36 hρ.symm
  have c_8 : (kX3_hasHead f x1) = 0 := c_8
  refine lv_ldc (v := (-1000000001)) hx hb hown (hts (.constant RX5 102 (-1000000001)) (by decide +kernel)) dX5_refusalToMove_11 ?_
  have hρ : kX5_refusalToMove f g x1 x2 x3 = (-1000000001) := (if_pos c_8)
  exact e_rd hx hb hr hlk dX5_refusalToMove_13 hρ.symm
theorem ndX5_line : yX5_line.cls = RX5 ∧ yX5_line.cls ≠ "java/lang/invoke/MethodHandle" ∧ yX5_line.cls ≠ "java/lang/invoke/VarHandle" ∧ (parseMethodDescriptor yX5_line.desc).map (fun d => d.parameters.length) = some 2 := by decide +kernel
set_option maxHeartbeats 4000000 in
set_option maxRecDepth 100000 in
theorem okX5_line (l : Launch) (D : va_G) (cI cZ cQ : ClassId) (h : Nat) (a b : Nat → Nat) (X : va_W) (f g : Nat → Nat → Int32) (x1 x2 : Int32) (sz : Nat) (hn : vp_in (g 2 0) 16) (hz : x2 = 0 ∨ x2 = 1) : Met l yX5_line wsX5_line ({ frames := 4, cells := 0, slots := 0, locals := 83 }) (PW [.ref (b 0), .int x1, .int x2] sz D (TY cI cZ cQ) (LW cI h a f ++ (KR cI cZ cQ h b g ++ X))) (QI (kX5_line f g x1 x2).1 D (TY cI cZ cQ) (LW cI h a (kX5_line f g x1 x2).2.1 ++ (KR cI cZ cQ h b (kX5_line f g x1 x2).2.2 ++ X)) (va_A (LW cI h a f ++ (KR cI cZ cQ h b g ++ X)) sz)) 0 0 (va_A (LW cI h a f ++ (KR cI cZ cQ h b g ++ X)) sz) := by
  refine m_wr (cc := cX5_line) (maxL := 3) (ret := (some .int)) (by decide) rfl (Nat.le_of_ble_eq_true rfl) (lv0 := [(0, .ref (b 0)), (1, .int x1), (2, .int x2)]) rfl ?_
  intro p e s m below meth c ls A hAe S hr hlk hP hK hD hS hA hl
  rw [← hAe]
  have S : CallFix p m c cX5_line 3 s ([.ref (b 0), .int x1, .int x2] : List Value).toArray wsX5_line RX5 := S
  have hx := S.1
  have hb := S.2.1
  have hown : s.vm.findClass RX5 = some m.cls := S.2.2.2.1
  have hts := S.2.2.2.2
  have hinX0 : ∀ w ∈ wsX00, w ∈ wsX5_line := by decide +kernel
  have hinX5 : ∀ w ∈ wsX50, w ∈ wsX5_line := by decide +kernel
  refine lv_iload_n hx hb dX5_line_0 rfl (lv_at hl 1 rfl) ?_
  refine lv_iload_n hx hb dX5_line_1 rfl (lv_at hl 2 rfl) ?_
  refine lv_if_eq (tgt := 9) hx hb dX5_line_2 (by decide) (fun c_2 => ?_) (fun c_2 => ?_)
  · have c_2 : x2 = 0 := c_2
    refine lv_iconst (v := 1) hx hb dX5_line_9 (by decide) ?_
    refine lv_icmp_lt (tgt := 19) hx hb dX5_line_10 (by decide) (fun c_10 => ?_) (fun c_10 => ?_)
    · have c_10 : x1 < 1 := c_10
      refine lv_ldc (v := (-1000000002)) hx hb hown (hts (.constant RX5 97 (-1000000002)) (by decide +kernel)) dX5_line_19 ?_
      have hρ : kX5_line f g x1 x2 = ((-1000000002), f, g) := (if_pos c_2).trans ((if_pos c_10))
      exact e_wi hx hb hr hlk hK hP hD hS dX5_line_21 (congrArg Prod.fst hρ).symm (congrArg (fun z => (LW cI h a z.2.1 ++ (KR cI cZ cQ h b z.2.2 ++ X))) hρ).symm
    have c_10 : ¬ (x1 < 1) := c_10
    refine lv_iload_n hx hb dX5_line_13 rfl (lv_at hl 1 rfl) ?_
    refine lv_bipush (v := 6) hx hb dX5_line_14 (by decide) ?_
    refine lv_icmp_le (tgt := 22) hx hb dX5_line_16 (by decide) (fun c_16 => ?_) (fun c_16 => ?_)
    · have c_16 : x1 ≤ 6 := c_16
      refine lv_aload_n hx hb dX5_line_22 rfl (lv_at hl 0 rfl) ?_
      refine va_get (v := .ref (b 2)) (C := RX5) (T := TX5) (N := 6) (ci := 5) hx hb hts hinX5 hown hK hP 13 rfl rfl 1 (by decide) (hts (.fieldLink RX5 19 "AxleKeeper" "past" "LAxleKeeper$Past;") (by decide +kernel)) (fun _ h9 => h9) rfl dX5_line_23 ?_
      refine lv_aload_n hx hb dX5_line_26 rfl (lv_at hl 0 rfl) ?_
      refine va_get (v := .ref h) (C := RX5) (T := TX5) (N := 6) (ci := 5) hx hb hts hinX5 hown hK hP 13 rfl rfl 0 (by decide) (hts (.fieldLink RX5 10 "AxleKeeper" "now" "LAxleKeeper$Line;") (by decide +kernel)) (fun _ h9 => h9) rfl dX5_line_27 ?_
      refine k_wv (As := [.ref h]) (rest := []) (bytes := cX4_add) (C := RX4) S (okX4_add l D cI cZ cQ h a b X f g _ (by assumption)) gX5_line_X4_add rfl ⟨rfl, rfl⟩ ndX4_add ⟨Nat.le_of_ble_eq_true rfl, Nat.le_of_ble_eq_true rfl⟩ hK hP hD hS hA 15 rfl rfl rfl hl rfl (Nat.le_of_ble_eq_true rfl) dX5_line_30 ⟨Nat.zero_le _, Nat.zero_le _⟩ (fun H locs hP hD hS => ?_)
      have hP : va_P D vwCl (LW cI h a f ++ (KR cI cZ cQ h b (kX4_add f g) ++ X)) H := hP
      have hD : va_D A (LW cI h a f ++ (KR cI cZ cQ h b (kX4_add f g) ++ X)) := hD
      refine lv_aload_n hx hb dX5_line_33 rfl (lv_at hl 0 rfl) ?_
      refine va_get (v := .ref h) (C := RX5) (T := TX5) (N := 6) (ci := 5) hx hb hts hinX5 hown hK hP 13 rfl rfl 0 (by decide) (hts (.fieldLink RX5 10 "AxleKeeper" "now" "LAxleKeeper$Line;") (by decide +kernel)) (fun _ h9 => h9) rfl dX5_line_34 ?_
      refine lv_iload_n hx hb dX5_line_37 rfl (lv_at hl 1 rfl) ?_
      refine lv_iload_n hx hb dX5_line_38 rfl (lv_at hl 2 rfl) ?_
      refine k_wv (As := [.int x1, .int x2]) (rest := []) (bytes := cX3_begin) (C := RX3) S (okX3_begin l D cI cZ cQ h a (KR cI cZ cQ h b (kX4_add f g) ++ X) f x1 x2 _ (by assumption)) gX5_line_X3_begin rfl ⟨rfl, rfl⟩ ndX3_begin ⟨Nat.le_of_ble_eq_true rfl, Nat.le_of_ble_eq_true rfl⟩ hK hP hD hS hA 0 rfl rfl rfl hl rfl (Nat.le_of_ble_eq_true rfl) dX5_line_39 ⟨Nat.zero_le _, Nat.zero_le _⟩ (fun H locs hP hD hS => ?_)
      have hP : va_P D vwCl (LW cI h a (kX3_begin f x1 x2) ++ (KR cI cZ cQ h b (kX4_add f g) ++ X)) H := hP
      have hD : va_D A (LW cI h a (kX3_begin f x1 x2) ++ (KR cI cZ cQ h b (kX4_add f g) ++ X)) := hD
      refine lv_aload_n hx hb dX5_line_42 rfl (lv_at hl 0 rfl) ?_
      refine va_get (v := .ref (b 4)) (C := RX5) (T := TX5) (N := 6) (ci := 5) hx hb hts hinX5 hown hK hP 13 rfl rfl 2 (by decide) (hts (.fieldLink RX5 26 "AxleKeeper" "book" "LAxleKeeper$Book;") (by decide +kernel)) (fun _ h9 => h9) rfl dX5_line_43 ?_
      refine lv_iconst (v := 0) hx hb dX5_line_46 (by decide) ?_
      refine pf_K4 (x := 0) S hinX0 hK hP hD hS (hts (.fieldLink RX5 89 "AxleKeeper$Book" "size" "I") (by decide +kernel)) dX5_line_47 (fun H locs hP hD hS => ?_)
      refine lv_aload_n hx hb dX5_line_50 rfl (lv_at hl 0 rfl) ?_
      refine va_get (v := .ref h) (C := RX5) (T := TX5) (N := 6) (ci := 5) hx hb hts hinX5 hown hK hP 13 rfl rfl 0 (by decide) (hts (.fieldLink RX5 10 "AxleKeeper" "now" "LAxleKeeper$Line;") (by decide +kernel)) (fun _ h9 => h9) rfl dX5_line_51 ?_
      refine k_rd (As := []) (rest := []) (bytes := cX3_heads) (C := RX3) S (okX3_heads l D cI cZ cQ h a (KR cI cZ cQ h b (up2 (kX4_add f g) 4 0 0) ++ X) (kX3_begin f x1 x2) ) gX5_line_X3_heads rfl ⟨rfl, rfl⟩ ndX3_heads ⟨Nat.le_of_ble_eq_true rfl, Nat.le_of_ble_eq_true rfl⟩ hK hP 0 rfl rfl rfl hl rfl (Nat.le_of_ble_eq_true rfl) dX5_line_54 ⟨Nat.zero_le _, Nat.zero_le _⟩ ?_
      have hρ : kX5_line f g x1 x2 = ((kX3_heads (kX3_begin f x1 x2)), (kX3_begin f x1 x2), (up2 (kX4_add f g) 4 0 0)) := (if_pos c_2).trans ((if_neg c_10).trans ((if_pos c_16)))
      exact e_wi hx hb hr hlk hK hP hD hS dX5_line_57 (congrArg Prod.fst hρ).symm (congrArg (fun z => (LW cI h a z.2.1 ++ (KR cI cZ cQ h b z.2.2 ++ X))) hρ).symm
    have c_16 : ¬ (x1 ≤ 6) := c_16
    refine lv_ldc (v := (-1000000002)) hx hb hown (hts (.constant RX5 97 (-1000000002)) (by decide +kernel)) dX5_line_19 ?_
    have hρ : kX5_line f g x1 x2 = ((-1000000002), f, g) := (if_pos c_2).trans ((if_neg c_10).trans ((if_neg c_16)))
    exact e_wi hx hb hr hlk hK hP hD hS dX5_line_21 (congrArg Prod.fst hρ).symm (congrArg (fun z => (LW cI h a z.2.1 ++ (KR cI cZ cQ h b z.2.2 ++ X))) hρ).symm
  have c_2 : ¬ (x2 = 0) := c_2
  refine lv_iconst (v := 2) hx hb dX5_line_5 (by decide) ?_
  refine lv_goto (tgt := 10) hx hb dX5_line_6 (by decide) ?_
  refine lv_icmp_lt (tgt := 19) hx hb dX5_line_10 (by decide) (fun c_10 => ?_) (fun c_10 => ?_)
  · have c_10 : x1 < 2 := c_10
    refine lv_ldc (v := (-1000000002)) hx hb hown (hts (.constant RX5 97 (-1000000002)) (by decide +kernel)) dX5_line_19 ?_
    have hρ : kX5_line f g x1 x2 = ((-1000000002), f, g) := (if_neg c_2).trans ((if_pos c_10))
    exact e_wi hx hb hr hlk hK hP hD hS dX5_line_21 (congrArg Prod.fst hρ).symm (congrArg (fun z => (LW cI h a z.2.1 ++ (KR cI cZ cQ h b z.2.2 ++ X))) hρ).symm
  have c_10 : ¬ (x1 < 2) := c_10
  refine lv_iload_n hx hb dX5_line_13 rfl (lv_at hl 1 rfl) ?_
  refine lv_bipush (v := 6) hx hb dX5_line_14 (by decide) ?_
  refine lv_icmp_le (tgt := 22) hx hb dX5_line_16 (by decide) (fun c_16 => ?_) (fun c_16 => ?_)
  · have c_16 : x1 ≤ 6 := c_16
    refine lv_aload_n hx hb dX5_line_22 rfl (lv_at hl 0 rfl) ?_
    refine va_get (v := .ref (b 2)) (C := RX5) (T := TX5) (N := 6) (ci := 5) hx hb hts hinX5 hown hK hP 13 rfl rfl 1 (by decide) (hts (.fieldLink RX5 19 "AxleKeeper" "past" "LAxleKeeper$Past;") (by decide +kernel)) (fun _ h9 => h9) rfl dX5_line_23 ?_
    refine lv_aload_n hx hb dX5_line_26 rfl (lv_at hl 0 rfl) ?_
    refine va_get (v := .ref h) (C := RX5) (T := TX5) (N := 6) (ci := 5) hx hb hts hinX5 hown hK hP 13 rfl rfl 0 (by decide) (hts (.fieldLink RX5 10 "AxleKeeper" "now" "LAxleKeeper$Line;") (by decide +kernel)) (fun _ h9 => h9) rfl dX5_line_27 ?_
    refine k_wv (As := [.ref h]) (rest := []) (bytes := cX4_add) (C := RX4) S (okX4_add l D cI cZ cQ h a b X f g _ (by assumption)) gX5_line_X4_add rfl ⟨rfl, rfl⟩ ndX4_add ⟨Nat.le_of_ble_eq_true rfl, Nat.le_of_ble_eq_true rfl⟩ hK hP hD hS hA 15 rfl rfl rfl hl rfl (Nat.le_of_ble_eq_true rfl) dX5_line_30 ⟨Nat.zero_le _, Nat.zero_le _⟩ (fun H locs hP hD hS => ?_)
    have hP : va_P D vwCl (LW cI h a f ++ (KR cI cZ cQ h b (kX4_add f g) ++ X)) H := hP
    have hD : va_D A (LW cI h a f ++ (KR cI cZ cQ h b (kX4_add f g) ++ X)) := hD
    refine lv_aload_n hx hb dX5_line_33 rfl (lv_at hl 0 rfl) ?_
    refine va_get (v := .ref h) (C := RX5) (T := TX5) (N := 6) (ci := 5) hx hb hts hinX5 hown hK hP 13 rfl rfl 0 (by decide) (hts (.fieldLink RX5 10 "AxleKeeper" "now" "LAxleKeeper$Line;") (by decide +kernel)) (fun _ h9 => h9) rfl dX5_line_34 ?_
    refine lv_iload_n hx hb dX5_line_37 rfl (lv_at hl 1 rfl) ?_
    refine lv_iload_n hx hb dX5_line_38 rfl (lv_at hl 2 rfl) ?_
    refine k_wv (As := [.int x1, .int x2]) (rest := []) (bytes := cX3_begin) (C := RX3) S (okX3_begin l D cI cZ cQ h a (KR cI cZ cQ h b (kX4_add f g) ++ X) f x1 x2 _ (by assumption)) gX5_line_X3_begin rfl ⟨rfl, rfl⟩ ndX3_begin ⟨Nat.le_of_ble_eq_true rfl, Nat.le_of_ble_eq_true rfl⟩ hK hP hD hS hA 0 rfl rfl rfl hl rfl (Nat.le_of_ble_eq_true rfl) dX5_line_39 ⟨Nat.zero_le _, Nat.zero_le _⟩ (fun H locs hP hD hS => ?_)
    have hP : va_P D vwCl (LW cI h a (kX3_begin f x1 x2) ++ (KR cI cZ cQ h b (kX4_add f g) ++ X)) H := hP
    have hD : va_D A (LW cI h a (kX3_begin f x1 x2) ++ (KR cI cZ cQ h b (kX4_add f g) ++ X)) := hD
    refine lv_aload_n hx hb dX5_line_42 rfl (lv_at hl 0 rfl) ?_
    refine va_get (v := .ref (b 4)) (C := RX5) (T := TX5) (N := 6) (ci := 5) hx hb hts hinX5 hown hK hP 13 rfl rfl 2 (by decide) (hts (.fieldLink RX5 26 "AxleKeeper" "book" "LAxleKeeper$Book;") (by decide +kernel)) (fun _ h9 => h9) rfl dX5_line_43 ?_
    refine lv_iconst (v := 0) hx hb dX5_line_46 (by decide) ?_
    refine pf_K4 (x := 0) S hinX0 hK hP hD hS (hts (.fieldLink RX5 89 "AxleKeeper$Book" "size" "I") (by decide +kernel)) dX5_line_47 (fun H locs hP hD hS => ?_)
    refine lv_aload_n hx hb dX5_line_50 rfl (lv_at hl 0 rfl) ?_
    refine va_get (v := .ref h) (C := RX5) (T := TX5) (N := 6) (ci := 5) hx hb hts hinX5 hown hK hP 13 rfl rfl 0 (by decide) (hts (.fieldLink RX5 10 "AxleKeeper" "now" "LAxleKeeper$Line;") (by decide +kernel)) (fun _ h9 => h9) rfl dX5_line_51 ?_
    refine k_rd (As := []) (rest := []) (bytes := cX3_heads) (C := RX3) S (okX3_heads l D cI cZ cQ h a (KR cI cZ cQ h b (up2 (kX4_add f g) 4 0 0) ++ X) (kX3_begin f x1 x2) ) gX5_line_X3_heads rfl ⟨rfl, rfl⟩ ndX3_heads ⟨Nat.le_of_ble_eq_true rfl, Nat.le_of_ble_eq_true rfl⟩ hK hP 0 rfl rfl rfl hl rfl (Nat.le_of_ble_eq_true rfl) dX5_line_54 ⟨Nat.zero_le _, Nat.zero_le _⟩ ?_
    have hρ : kX5_line f g x1 x2 = ((kX3_heads (kX3_begin f x1 x2)), (kX3_begin f x1 x2), (up2 (kX4_add f g) 4 0 0)) := (if_neg c_2).trans ((if_neg c_10).trans ((if_pos c_16)))
    exact e_wi hx hb hr hlk hK hP hD hS dX5_line_57 (congrArg Prod.fst hρ).symm (congrArg (fun z => (LW cI h a z.2.1 ++ (KR cI cZ cQ h b z.2.2 ++ X))) hρ).symm
  have c_16 : ¬ (x1 ≤ 6) := c_16
  refine lv_ldc (v := (-1000000002)) hx hb hown (hts (.constant RX5 97 (-1000000002)) (by decide +kernel)) dX5_line_19 ?_
  have hρ : kX5_line f g x1 x2 = ((-1000000002), f, g) := (if_neg c_2).trans ((if_neg c_10).trans ((if_neg c_16)))
  exact e_wi hx hb hr hlk hK hP hD hS dX5_line_21 (congrArg Prod.fst hρ).symm (congrArg (fun z => (LW cI h a z.2.1 ++ (KR cI cZ cQ h b z.2.2 ++ X))) hρ).symm
