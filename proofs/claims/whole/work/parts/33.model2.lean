theorem ndX6_hear : yX6_hear.cls = RX6 ∧ yX6_hear.cls ≠ "java/lang/invoke/MethodHandle" ∧ yX6_hear.cls ≠ "java/lang/invoke/VarHandle" ∧ (parseMethodDescriptor yX6_hear.desc).map (fun d => d.parameters.length) = some 3 := by decide +kernel
set_option maxHeartbeats 4000000 in
set_option maxRecDepth 100000 in
theorem okX6_hear (l : Launch) (D : va_G) (cI cZ cQ : ClassId) (h : Nat) (a : Nat → Nat) (X : va_W) (f : Nat → Nat → Int32) (x1 x2 x3 : Int32) (sz : Nat) (hok : okM f) (h1 : vp_in x1 1597) (h2 : vp_in x2 7) : Met l yX6_hear wsX6_hear ({ frames := 1, cells := 0, slots := 0, locals := 21 }) (PW [.ref h, .int x1, .int x2, .int x3] sz D (TY cI cZ cQ) (MW cI h a f ++ X)) (QV D (TY cI cZ cQ) (MW cI h a (kX6_hear f x1 x2 x3) ++ X) (va_A (MW cI h a f ++ X) sz)) 0 0 (va_A (MW cI h a f ++ X) sz) := by
  refine m_wr (cc := cX6_hear) (maxL := 6) (ret := none) (by decide) rfl (Nat.le_of_ble_eq_true rfl) (lv0 := [(0, .ref h), (1, .int x1), (2, .int x2), (3, .int x3)]) rfl ?_
  intro p e s m below meth c ls A hAe S hr hlk hP hK hD hS hA hl
  rw [← hAe]
  have S : CallFix p m c cX6_hear 6 s ([.ref h, .int x1, .int x2, .int x3] : List Value).toArray wsX6_hear RX6 := S
  have hx := S.1
  have hb := S.2.1
  have hown : s.vm.findClass RX6 = some m.cls := S.2.2.2.1
  have hts := S.2.2.2.2
  have hinX6 : ∀ w ∈ wsX60, w ∈ wsX6_hear := by decide +kernel
  refine lv_iload_n hx hb dX6_hear_0 rfl (lv_at hl 3 rfl) ?_
  refine lv_if_eq (tgt := 50) hx hb dX6_hear_1 (by decide) (fun c_1 => ?_) (fun c_1 => ?_)
  · have c_1 : x3 = 0 := c_1
    refine lv_aload_n hx hb dX6_hear_50 rfl (lv_at hl 0 rfl) ?_
    refine va_get (v := .ref (a 0)) (C := RX6) (T := TX6) (N := 6) (ci := 6) hx hb hts hinX6 hown hK hP 0 rfl rfl 0 (by decide) (hts (.fieldLink RX6 7 "AxleKeeperModel" "w" "[I") (by decide +kernel)) (fun _ h9 => h9) rfl dX6_hear_51 ?_
    refine lv_iload_n hx hb dX6_hear_54 rfl (lv_at hl 1 rfl) ?_
    refine lv_bipush (v := 41) hx hb dX6_hear_55 (by decide) ?_
    refine lv_iadd hx hb dX6_hear_57 ?_
    refine lv_iload_n hx hb dX6_hear_58 rfl (lv_at hl 2 rfl) ?_
    refine lv_iadd hx hb dX6_hear_59 ?_
    refine va_iald hx hb hK hP 1 0 rfl rfl (n := 1680) (vin3 (by assumption) (by assumption) (by decide)) dX6_hear_60 ?_
    refine lv_bipush (v := 16) hx hb dX6_hear_61 (by decide) ?_
    refine lv_irem hx hb dX6_hear_63 (by decide) ?_
    refine lv_bipush (v := 16) hx hb dX6_hear_64 (by decide) ?_
    refine lv_iadd hx hb dX6_hear_66 ?_
    refine lv_bipush (v := 16) hx hb dX6_hear_67 (by decide) ?_
    refine lv_irem hx hb dX6_hear_69 (by decide) ?_
    refine lv_istore (lv' := [(4, .int (remI ((remI (f 0 (ix ((x1 + 41) + x2))) 16) + 16) 16)), (0, .ref h), (1, .int x1), (2, .int x2), (3, .int x3)]) hx hb dX6_hear_70 hl (by decide) rfl (fun ls hl => ?_)
    refine lv_iload hx hb dX6_hear_72 (lv_at hl 0 rfl) ?_
    refine lv_aload_n hx hb dX6_hear_74 rfl (lv_at hl 1 rfl) ?_
    refine va_get (v := .ref (a 0)) (C := RX6) (T := TX6) (N := 6) (ci := 6) hx hb hts hinX6 hown hK hP 0 rfl rfl 0 (by decide) (hts (.fieldLink RX6 7 "AxleKeeperModel" "w" "[I") (by decide +kernel)) (fun _ h9 => h9) rfl dX6_hear_75 ?_
    refine lv_iload_n hx hb dX6_hear_78 rfl (lv_at hl 2 rfl) ?_
    refine lv_bipush (v := 48) hx hb dX6_hear_79 (by decide) ?_
    refine lv_iadd hx hb dX6_hear_81 ?_
    refine lv_iload_n hx hb dX6_hear_82 rfl (lv_at hl 3 rfl) ?_
    refine lv_iadd hx hb dX6_hear_83 ?_
    refine va_iald hx hb hK hP 1 0 rfl rfl (n := 1680) (vin3 (by assumption) (by assumption) (by decide)) dX6_hear_84 ?_
    refine lv_isub hx hb dX6_hear_85 ?_
    refine lv_bipush (v := 16) hx hb dX6_hear_86 (by decide) ?_
    refine lv_iadd hx hb dX6_hear_88 ?_
    refine lv_bipush (v := 16) hx hb dX6_hear_89 (by decide) ?_
    refine lv_irem hx hb dX6_hear_91 (by decide) ?_
    refine lv_istore (lv' := [(5, .int (remI (((remI ((remI (f 0 (ix ((x1 + 41) + x2))) 16) + 16) 16) - (f 0 (ix ((x1 + 48) + x2)))) + 16) 16)), (4, .int (remI ((remI (f 0 (ix ((x1 + 41) + x2))) 16) + 16) 16)), (0, .ref h), (1, .int x1), (2, .int x2), (3, .int x3)]) hx hb dX6_hear_92 hl (by decide) rfl (fun ls hl => ?_)
    refine lv_iload hx hb dX6_hear_94 (lv_at hl 0 rfl) ?_
    refine lv_bipush (v := 8) hx hb dX6_hear_96 (by decide) ?_
    refine lv_icmp_le (tgt := 109) hx hb dX6_hear_98 (by decide) (fun c_98 => ?_) (fun c_98 => ?_)
    · have c_98 : (remI (((remI ((remI (f 0 (ix ((x1 + 41) + x2))) 16) + 16) 16) - (f 0 (ix ((x1 + 48) + x2)))) + 16) 16) ≤ 8 := c_98
      refine lv_iload hx hb dX6_hear_109 (lv_at hl 0 rfl) ?_
      refine lv_istore (lv' := [(5, .int (remI (((remI ((remI (f 0 (ix ((x1 + 41) + x2))) 16) + 16) 16) - (f 0 (ix ((x1 + 48) + x2)))) + 16) 16)), (4, .int (remI ((remI (f 0 (ix ((x1 + 41) + x2))) 16) + 16) 16)), (0, .ref h), (1, .int x1), (2, .int x2), (3, .int x3)]) hx hb dX6_hear_111 hl (by decide) rfl (fun ls hl => ?_)
      refine lv_aload_n hx hb dX6_hear_113 rfl (lv_at hl 2 rfl) ?_
      refine lv_iload_n hx hb dX6_hear_114 rfl (lv_at hl 4 rfl) ?_
      refine k_rd (As := [.int x2]) (rest := []) (bytes := cX6_rightOf) (C := RX6) S (okX6_rightOf l D cI cZ cQ h a X f x2) gX6_hear_X6_rightOf rfl ⟨rfl, rfl⟩ ndX6_rightOf ⟨Nat.le_of_ble_eq_true rfl, Nat.le_of_ble_eq_true rfl⟩ hK hP 0 rfl rfl rfl hl rfl (Nat.le_of_ble_eq_true rfl) dX6_hear_115 ⟨Nat.zero_le _, Nat.zero_le _⟩ ?_
      refine lv_iconst (v := (-1)) hx hb dX6_hear_118 (by decide) ?_
      refine lv_icmp_eq (tgt := 142) hx hb dX6_hear_119 (by decide) (fun c_119 => ?_) (fun c_119 => ?_)
      · have c_119 : (kX6_rightOf f x2) = (-1) := c_119
        refine lv_aload_n hx hb dX6_hear_142 rfl (lv_at hl 2 rfl) ?_
        refine lv_iload_n hx hb dX6_hear_143 rfl (lv_at hl 4 rfl) ?_
        refine k_rd (As := [.int x2]) (rest := []) (bytes := cX6_leftOf) (C := RX6) S (okX6_leftOf l D cI cZ cQ h a X f x2) gX6_hear_X6_leftOf rfl ⟨rfl, rfl⟩ ndX6_leftOf ⟨Nat.le_of_ble_eq_true rfl, Nat.le_of_ble_eq_true rfl⟩ hK hP 0 rfl rfl rfl hl rfl (Nat.le_of_ble_eq_true rfl) dX6_hear_144 ⟨Nat.zero_le _, Nat.zero_le _⟩ ?_
        refine lv_iconst (v := (-1)) hx hb dX6_hear_147 (by decide) ?_
        refine lv_icmp_eq (tgt := 171) hx hb dX6_hear_148 (by decide) (fun c_148 => ?_) (fun c_148 => ?_)
        · have c_148 : (kX6_leftOf f x2) = (-1) := c_148
          refine lv_aload_n hx hb dX6_hear_171 rfl (lv_at hl 2 rfl) ?_
          refine va_get (v := .ref (a 0)) (C := RX6) (T := TX6) (N := 6) (ci := 6) hx hb hts hinX6 hown hK hP 0 rfl rfl 0 (by decide) (hts (.fieldLink RX6 7 "AxleKeeperModel" "w" "[I") (by decide +kernel)) (fun _ h9 => h9) rfl dX6_hear_172 ?_
          refine lv_iload_n hx hb dX6_hear_175 rfl (lv_at hl 3 rfl) ?_
          refine lv_bipush (v := 48) hx hb dX6_hear_176 (by decide) ?_
          refine lv_iadd hx hb dX6_hear_178 ?_
          refine lv_iload_n hx hb dX6_hear_179 rfl (lv_at hl 4 rfl) ?_
          refine lv_iadd hx hb dX6_hear_180 ?_
          refine lv_iload hx hb dX6_hear_181 (lv_at hl 1 rfl) ?_
          refine st_M0 (x := (remI ((remI (f 0 (ix ((x1 + 41) + x2))) 16) + 16) 16)) hx hb hK hP hD hS (vin3 (by assumption) (by assumption) (by decide)) dX6_hear_183 (fun H locs hP hD hS => ?_)
          refine lv_aload_n hx hb dX6_hear_184 rfl (lv_at hl 2 rfl) ?_
          refine va_get (v := .ref (a 0)) (C := RX6) (T := TX6) (N := 6) (ci := 6) hx hb hts hinX6 hown hK hP 0 rfl rfl 0 (by decide) (hts (.fieldLink RX6 7 "AxleKeeperModel" "w" "[I") (by decide +kernel)) (fun _ h9 => h9) rfl dX6_hear_185 ?_
          refine lv_iload_n hx hb dX6_hear_188 rfl (lv_at hl 3 rfl) ?_
          refine lv_bipush (v := 69) hx hb dX6_hear_189 (by decide) ?_
          refine lv_iadd hx hb dX6_hear_191 ?_
          refine lv_iload_n hx hb dX6_hear_192 rfl (lv_at hl 4 rfl) ?_
          refine lv_iadd hx hb dX6_hear_193 ?_
          refine lv_aload_n hx hb dX6_hear_194 rfl (lv_at hl 2 rfl) ?_
          refine va_get (v := .ref (a 0)) (C := RX6) (T := TX6) (N := 6) (ci := 6) hx hb hts hinX6 hown hK hP 0 rfl rfl 0 (by decide) (hts (.fieldLink RX6 7 "AxleKeeperModel" "w" "[I") (by decide +kernel)) (fun _ h9 => h9) rfl dX6_hear_195 ?_
          refine lv_iload_n hx hb dX6_hear_198 rfl (lv_at hl 3 rfl) ?_
          refine lv_bipush (v := 62) hx hb dX6_hear_199 (by decide) ?_
          refine lv_iadd hx hb dX6_hear_201 ?_
          refine lv_iload_n hx hb dX6_hear_202 rfl (lv_at hl 4 rfl) ?_
          refine lv_iadd hx hb dX6_hear_203 ?_
          refine va_iald hx hb hK hP 1 0 rfl rfl (n := 1680) (vin3 (by assumption) (by assumption) (by decide)) dX6_hear_204 ?_
          refine st_M0 (x := ((up2 f 0 (ix ((x1 + 48) + x2)) (remI ((remI (f 0 (ix ((x1 + 41) + x2))) 16) + 16) 16)) 0 (ix ((x1 + 62) + x2)))) hx hb hK hP hD hS (vin3 (by assumption) (by assumption) (by decide)) dX6_hear_205 (fun H locs hP hD hS => ?_)
          refine lv_aload_n hx hb dX6_hear_206 rfl (lv_at hl 2 rfl) ?_
          refine va_get (v := .ref (a 0)) (C := RX6) (T := TX6) (N := 6) (ci := 6) hx hb hts hinX6 hown hK hP 0 rfl rfl 0 (by decide) (hts (.fieldLink RX6 7 "AxleKeeperModel" "w" "[I") (by decide +kernel)) (fun _ h9 => h9) rfl dX6_hear_207 ?_
          refine lv_iload_n hx hb dX6_hear_210 rfl (lv_at hl 3 rfl) ?_
          refine lv_bipush (v := 55) hx hb dX6_hear_211 (by decide) ?_
          refine lv_iadd hx hb dX6_hear_213 ?_
          refine lv_iload_n hx hb dX6_hear_214 rfl (lv_at hl 4 rfl) ?_
          refine lv_iadd hx hb dX6_hear_215 ?_
          refine lv_iconst (v := 0) hx hb dX6_hear_216 (by decide) ?_
          refine st_M0 (x := 0) hx hb hK hP hD hS (vin3 (by assumption) (by assumption) (by decide)) dX6_hear_217 (fun H locs hP hD hS => ?_)
          have hρ : kX6_hear f x1 x2 x3 = (up2 (up2 (up2 f 0 (ix ((x1 + 48) + x2)) (remI ((remI (f 0 (ix ((x1 + 41) + x2))) 16) + 16) 16)) 0 (ix ((x1 + 69) + x2)) ((up2 f 0 (ix ((x1 + 48) + x2)) (remI ((remI (f 0 (ix ((x1 + 41) + x2))) 16) + 16) 16)) 0 (ix ((x1 + 62) + x2)))) 0 (ix ((x1 + 55) + x2)) 0) := (if_pos c_1).trans ((if_pos c_98).trans ((if_pos c_119).trans ((if_pos c_148))))
          exact e_wv hx hb hr hlk hK hP hD hS dX6_hear_218 (congrArg (fun z => (MW cI h a z ++ X)) hρ).symm
        have c_148 : ¬ ((kX6_leftOf f x2) = (-1)) := c_148
        have hv2 : vp_in _ 6 := (by first | exact ml_in (okM_u3 hok h1 hv1 (by decide) (by decide)) h2 c_148 | exact ml_in hok h2 c_148)
        refine lv_aload_n hx hb dX6_hear_151 rfl (lv_at hl 2 rfl) ?_
        refine va_get (v := .ref (a 0)) (C := RX6) (T := TX6) (N := 6) (ci := 6) hx hb hts hinX6 hown hK hP 0 rfl rfl 0 (by decide) (hts (.fieldLink RX6 7 "AxleKeeperModel" "w" "[I") (by decide +kernel)) (fun _ h9 => h9) rfl dX6_hear_152 ?_
        refine lv_iload_n hx hb dX6_hear_155 rfl (lv_at hl 3 rfl) ?_
        refine lv_bipush (v := 9) hx hb dX6_hear_156 (by decide) ?_
        refine lv_iadd hx hb dX6_hear_158 ?_
        refine lv_aload_n hx hb dX6_hear_159 rfl (lv_at hl 2 rfl) ?_
        refine lv_iload_n hx hb dX6_hear_160 rfl (lv_at hl 4 rfl) ?_
        refine k_rd (As := [.int x2]) (rest := [.int (x1 + 9), .ref (a 0)]) (bytes := cX6_leftOf) (C := RX6) S (okX6_leftOf l D cI cZ cQ h a X f x2) gX6_hear_X6_leftOf rfl ⟨rfl, rfl⟩ ndX6_leftOf ⟨Nat.le_of_ble_eq_true rfl, Nat.le_of_ble_eq_true rfl⟩ hK hP 0 rfl rfl rfl hl rfl (Nat.le_of_ble_eq_true rfl) dX6_hear_161 ⟨Nat.zero_le _, Nat.zero_le _⟩ ?_
        refine lv_iadd hx hb dX6_hear_164 ?_
        refine lv_dup2_11 hx hb dX6_hear_165 rfl rfl ?_
        refine va_iald hx hb hK hP 1 0 rfl rfl (n := 1680) (vin3 (by assumption) (by assumption) (by decide)) dX6_hear_166 ?_
        refine lv_iload hx hb dX6_hear_167 (lv_at hl 0 rfl) ?_
        refine lv_isub hx hb dX6_hear_169 ?_
        refine st_M0 (x := ((f 0 (ix ((x1 + 9) + (kX6_leftOf f x2)))) - (remI (((remI ((remI (f 0 (ix ((x1 + 41) + x2))) 16) + 16) 16) - (f 0 (ix ((x1 + 48) + x2)))) + 16) 16))) hx hb hK hP hD hS (vin3 (by assumption) (by assumption) (by decide)) dX6_hear_170 (fun H locs hP hD hS => ?_)
        refine lv_aload_n hx hb dX6_hear_171 rfl (lv_at hl 2 rfl) ?_
        refine va_get (v := .ref (a 0)) (C := RX6) (T := TX6) (N := 6) (ci := 6) hx hb hts hinX6 hown hK hP 0 rfl rfl 0 (by decide) (hts (.fieldLink RX6 7 "AxleKeeperModel" "w" "[I") (by decide +kernel)) (fun _ h9 => h9) rfl dX6_hear_172 ?_
        refine lv_iload_n hx hb dX6_hear_175 rfl (lv_at hl 3 rfl) ?_
        refine lv_bipush (v := 48) hx hb dX6_hear_176 (by decide) ?_
        refine lv_iadd hx hb dX6_hear_178 ?_
        refine lv_iload_n hx hb dX6_hear_179 rfl (lv_at hl 4 rfl) ?_
        refine lv_iadd hx hb dX6_hear_180 ?_
        refine lv_iload hx hb dX6_hear_181 (lv_at hl 1 rfl) ?_
        refine st_M0 (x := (remI ((remI (f 0 (ix ((x1 + 41) + x2))) 16) + 16) 16)) hx hb hK hP hD hS (vin3 (by assumption) (by assumption) (by decide)) dX6_hear_183 (fun H locs hP hD hS => ?_)
        refine lv_aload_n hx hb dX6_hear_184 rfl (lv_at hl 2 rfl) ?_
        refine va_get (v := .ref (a 0)) (C := RX6) (T := TX6) (N := 6) (ci := 6) hx hb hts hinX6 hown hK hP 0 rfl rfl 0 (by decide) (hts (.fieldLink RX6 7 "AxleKeeperModel" "w" "[I") (by decide +kernel)) (fun _ h9 => h9) rfl dX6_hear_185 ?_
        refine lv_iload_n hx hb dX6_hear_188 rfl (lv_at hl 3 rfl) ?_
        refine lv_bipush (v := 69) hx hb dX6_hear_189 (by decide) ?_
        refine lv_iadd hx hb dX6_hear_191 ?_
        refine lv_iload_n hx hb dX6_hear_192 rfl (lv_at hl 4 rfl) ?_
        refine lv_iadd hx hb dX6_hear_193 ?_
        refine lv_aload_n hx hb dX6_hear_194 rfl (lv_at hl 2 rfl) ?_
        refine va_get (v := .ref (a 0)) (C := RX6) (T := TX6) (N := 6) (ci := 6) hx hb hts hinX6 hown hK hP 0 rfl rfl 0 (by decide) (hts (.fieldLink RX6 7 "AxleKeeperModel" "w" "[I") (by decide +kernel)) (fun _ h9 => h9) rfl dX6_hear_195 ?_
        refine lv_iload_n hx hb dX6_hear_198 rfl (lv_at hl 3 rfl) ?_
        refine lv_bipush (v := 62) hx hb dX6_hear_199 (by decide) ?_
        refine lv_iadd hx hb dX6_hear_201 ?_
        refine lv_iload_n hx hb dX6_hear_202 rfl (lv_at hl 4 rfl) ?_
        refine lv_iadd hx hb dX6_hear_203 ?_
        refine va_iald hx hb hK hP 1 0 rfl rfl (n := 1680) (vin3 (by assumption) (by assumption) (by decide)) dX6_hear_204 ?_
        refine st_M0 (x := ((up2 (up2 f 0 (ix ((x1 + 9) + (kX6_leftOf f x2))) ((f 0 (ix ((x1 + 9) + (kX6_leftOf f x2)))) - (remI (((remI ((remI (f 0 (ix ((x1 + 41) + x2))) 16) + 16) 16) - (f 0 (ix ((x1 + 48) + x2)))) + 16) 16))) 0 (ix ((x1 + 48) + x2)) (remI ((remI (f 0 (ix ((x1 + 41) + x2))) 16) + 16) 16)) 0 (ix ((x1 + 62) + x2)))) hx hb hK hP hD hS (vin3 (by assumption) (by assumption) (by decide)) dX6_hear_205 (fun H locs hP hD hS => ?_)
        refine lv_aload_n hx hb dX6_hear_206 rfl (lv_at hl 2 rfl) ?_
        refine va_get (v := .ref (a 0)) (C := RX6) (T := TX6) (N := 6) (ci := 6) hx hb hts hinX6 hown hK hP 0 rfl rfl 0 (by decide) (hts (.fieldLink RX6 7 "AxleKeeperModel" "w" "[I") (by decide +kernel)) (fun _ h9 => h9) rfl dX6_hear_207 ?_
        refine lv_iload_n hx hb dX6_hear_210 rfl (lv_at hl 3 rfl) ?_
        refine lv_bipush (v := 55) hx hb dX6_hear_211 (by decide) ?_
        refine lv_iadd hx hb dX6_hear_213 ?_
        refine lv_iload_n hx hb dX6_hear_214 rfl (lv_at hl 4 rfl) ?_
        refine lv_iadd hx hb dX6_hear_215 ?_
        refine lv_iconst (v := 0) hx hb dX6_hear_216 (by decide) ?_
        refine st_M0 (x := 0) hx hb hK hP hD hS (vin3 (by assumption) (by assumption) (by decide)) dX6_hear_217 (fun H locs hP hD hS => ?_)
        have hρ : kX6_hear f x1 x2 x3 = (up2 (up2 (up2 (up2 f 0 (ix ((x1 + 9) + (kX6_leftOf f x2))) ((f 0 (ix ((x1 + 9) + (kX6_leftOf f x2)))) - (remI (((remI ((remI (f 0 (ix ((x1 + 41) + x2))) 16) + 16) 16) - (f 0 (ix ((x1 + 48) + x2)))) + 16) 16))) 0 (ix ((x1 + 48) + x2)) (remI ((remI (f 0 (ix ((x1 + 41) + x2))) 16) + 16) 16)) 0 (ix ((x1 + 69) + x2)) ((up2 (up2 f 0 (ix ((x1 + 9) + (kX6_leftOf f x2))) ((f 0 (ix ((x1 + 9) + (kX6_leftOf f x2)))) - (remI (((remI ((remI (f 0 (ix ((x1 + 41) + x2))) 16) + 16) 16) - (f 0 (ix ((x1 + 48) + x2)))) + 16) 16))) 0 (ix ((x1 + 48) + x2)) (remI ((remI (f 0 (ix ((x1 + 41) + x2))) 16) + 16) 16)) 0 (ix ((x1 + 62) + x2)))) 0 (ix ((x1 + 55) + x2)) 0) := (if_pos c_1).trans ((if_pos c_98).trans ((if_pos c_119).trans ((if_neg c_148))))
        exact e_wv hx hb hr hlk hK hP hD hS dX6_hear_218 (congrArg (fun z => (MW cI h a z ++ X)) hρ).symm
      have c_119 : ¬ ((kX6_rightOf f x2) = (-1)) := c_119
      have hv1 : vp_in _ 6 := mr_in hok h2 c_119
      refine lv_aload_n hx hb dX6_hear_122 rfl (lv_at hl 2 rfl) ?_
      refine va_get (v := .ref (a 0)) (C := RX6) (T := TX6) (N := 6) (ci := 6) hx hb hts hinX6 hown hK hP 0 rfl rfl 0 (by decide) (hts (.fieldLink RX6 7 "AxleKeeperModel" "w" "[I") (by decide +kernel)) (fun _ h9 => h9) rfl dX6_hear_123 ?_
      refine lv_iload_n hx hb dX6_hear_126 rfl (lv_at hl 3 rfl) ?_
      refine lv_bipush (v := 9) hx hb dX6_hear_127 (by decide) ?_
      refine lv_iadd hx hb dX6_hear_129 ?_
      refine lv_aload_n hx hb dX6_hear_130 rfl (lv_at hl 2 rfl) ?_
      refine lv_iload_n hx hb dX6_hear_131 rfl (lv_at hl 4 rfl) ?_
      refine k_rd (As := [.int x2]) (rest := [.int (x1 + 9), .ref (a 0)]) (bytes := cX6_rightOf) (C := RX6) S (okX6_rightOf l D cI cZ cQ h a X f x2) gX6_hear_X6_rightOf rfl ⟨rfl, rfl⟩ ndX6_rightOf ⟨Nat.le_of_ble_eq_true rfl, Nat.le_of_ble_eq_true rfl⟩ hK hP 0 rfl rfl rfl hl rfl (Nat.le_of_ble_eq_true rfl) dX6_hear_132 ⟨Nat.zero_le _, Nat.zero_le _⟩ ?_
      refine lv_iadd hx hb dX6_hear_135 ?_
      refine lv_dup2_11 hx hb dX6_hear_136 rfl rfl ?_
      refine va_iald hx hb hK hP 1 0 rfl rfl (n := 1680) (vin3 (by assumption) (by assumption) (by decide)) dX6_hear_137 ?_
      refine lv_iload hx hb dX6_hear_138 (lv_at hl 0 rfl) ?_
      refine lv_iadd hx hb dX6_hear_140 ?_
      refine st_M0 (x := ((f 0 (ix ((x1 + 9) + (kX6_rightOf f x2)))) + (remI (((remI ((remI (f 0 (ix ((x1 + 41) + x2))) 16) + 16) 16) - (f 0 (ix ((x1 + 48) + x2)))) + 16) 16))) hx hb hK hP hD hS (vin3 (by assumption) (by assumption) (by decide)) dX6_hear_141 (fun H locs hP hD hS => ?_)
      refine lv_aload_n hx hb dX6_hear_142 rfl (lv_at hl 2 rfl) ?_
      refine lv_iload_n hx hb dX6_hear_143 rfl (lv_at hl 4 rfl) ?_
      refine k_rd (As := [.int x2]) (rest := []) (bytes := cX6_leftOf) (C := RX6) S (okX6_leftOf l D cI cZ cQ h a X (up2 f 0 (ix ((x1 + 9) + (kX6_rightOf f x2))) ((f 0 (ix ((x1 + 9) + (kX6_rightOf f x2)))) + (remI (((remI ((remI (f 0 (ix ((x1 + 41) + x2))) 16) + 16) 16) - (f 0 (ix ((x1 + 48) + x2)))) + 16) 16))) x2) gX6_hear_X6_leftOf rfl ⟨rfl, rfl⟩ ndX6_leftOf ⟨Nat.le_of_ble_eq_true rfl, Nat.le_of_ble_eq_true rfl⟩ hK hP 0 rfl rfl rfl hl rfl (Nat.le_of_ble_eq_true rfl) dX6_hear_144 ⟨Nat.zero_le _, Nat.zero_le _⟩ ?_
      refine lv_iconst (v := (-1)) hx hb dX6_hear_147 (by decide) ?_
      refine lv_icmp_eq (tgt := 171) hx hb dX6_hear_148 (by decide) (fun c_148 => ?_) (fun c_148 => ?_)
      · have c_148 : (kX6_leftOf (up2 f 0 (ix ((x1 + 9) + (kX6_rightOf f x2))) ((f 0 (ix ((x1 + 9) + (kX6_rightOf f x2)))) + (remI (((remI ((remI (f 0 (ix ((x1 + 41) + x2))) 16) + 16) 16) - (f 0 (ix ((x1 + 48) + x2)))) + 16) 16))) x2) = (-1) := c_148
        refine lv_aload_n hx hb dX6_hear_171 rfl (lv_at hl 2 rfl) ?_
        refine va_get (v := .ref (a 0)) (C := RX6) (T := TX6) (N := 6) (ci := 6) hx hb hts hinX6 hown hK hP 0 rfl rfl 0 (by decide) (hts (.fieldLink RX6 7 "AxleKeeperModel" "w" "[I") (by decide +kernel)) (fun _ h9 => h9) rfl dX6_hear_172 ?_
        refine lv_iload_n hx hb dX6_hear_175 rfl (lv_at hl 3 rfl) ?_
        refine lv_bipush (v := 48) hx hb dX6_hear_176 (by decide) ?_
        refine lv_iadd hx hb dX6_hear_178 ?_
        refine lv_iload_n hx hb dX6_hear_179 rfl (lv_at hl 4 rfl) ?_
        refine lv_iadd hx hb dX6_hear_180 ?_
        refine lv_iload hx hb dX6_hear_181 (lv_at hl 1 rfl) ?_
        refine st_M0 (x := (remI ((remI (f 0 (ix ((x1 + 41) + x2))) 16) + 16) 16)) hx hb hK hP hD hS (vin3 (by assumption) (by assumption) (by decide)) dX6_hear_183 (fun H locs hP hD hS => ?_)
        refine lv_aload_n hx hb dX6_hear_184 rfl (lv_at hl 2 rfl) ?_
        refine va_get (v := .ref (a 0)) (C := RX6) (T := TX6) (N := 6) (ci := 6) hx hb hts hinX6 hown hK hP 0 rfl rfl 0 (by decide) (hts (.fieldLink RX6 7 "AxleKeeperModel" "w" "[I") (by decide +kernel)) (fun _ h9 => h9) rfl dX6_hear_185 ?_
        refine lv_iload_n hx hb dX6_hear_188 rfl (lv_at hl 3 rfl) ?_
        refine lv_bipush (v := 69) hx hb dX6_hear_189 (by decide) ?_
        refine lv_iadd hx hb dX6_hear_191 ?_
        refine lv_iload_n hx hb dX6_hear_192 rfl (lv_at hl 4 rfl) ?_
        refine lv_iadd hx hb dX6_hear_193 ?_
        refine lv_aload_n hx hb dX6_hear_194 rfl (lv_at hl 2 rfl) ?_
        refine va_get (v := .ref (a 0)) (C := RX6) (T := TX6) (N := 6) (ci := 6) hx hb hts hinX6 hown hK hP 0 rfl rfl 0 (by decide) (hts (.fieldLink RX6 7 "AxleKeeperModel" "w" "[I") (by decide +kernel)) (fun _ h9 => h9) rfl dX6_hear_195 ?_
        refine lv_iload_n hx hb dX6_hear_198 rfl (lv_at hl 3 rfl) ?_
        refine lv_bipush (v := 62) hx hb dX6_hear_199 (by decide) ?_
        refine lv_iadd hx hb dX6_hear_201 ?_
        refine lv_iload_n hx hb dX6_hear_202 rfl (lv_at hl 4 rfl) ?_
        refine lv_iadd hx hb dX6_hear_203 ?_
        refine va_iald hx hb hK hP 1 0 rfl rfl (n := 1680) (vin3 (by assumption) (by assumption) (by decide)) dX6_hear_204 ?_
        refine st_M0 (x := ((up2 (up2 f 0 (ix ((x1 + 9) + (kX6_rightOf f x2))) ((f 0 (ix ((x1 + 9) + (kX6_rightOf f x2)))) + (remI (((remI ((remI (f 0 (ix ((x1 + 41) + x2))) 16) + 16) 16) - (f 0 (ix ((x1 + 48) + x2)))) + 16) 16))) 0 (ix ((x1 + 48) + x2)) (remI ((remI (f 0 (ix ((x1 + 41) + x2))) 16) + 16) 16)) 0 (ix ((x1 + 62) + x2)))) hx hb hK hP hD hS (vin3 (by assumption) (by assumption) (by decide)) dX6_hear_205 (fun H locs hP hD hS => ?_)
        refine lv_aload_n hx hb dX6_hear_206 rfl (lv_at hl 2 rfl) ?_
        refine va_get (v := .ref (a 0)) (C := RX6) (T := TX6) (N := 6) (ci := 6) hx hb hts hinX6 hown hK hP 0 rfl rfl 0 (by decide) (hts (.fieldLink RX6 7 "AxleKeeperModel" "w" "[I") (by decide +kernel)) (fun _ h9 => h9) rfl dX6_hear_207 ?_
        refine lv_iload_n hx hb dX6_hear_210 rfl (lv_at hl 3 rfl) ?_
        refine lv_bipush (v := 55) hx hb dX6_hear_211 (by decide) ?_
        refine lv_iadd hx hb dX6_hear_213 ?_
        refine lv_iload_n hx hb dX6_hear_214 rfl (lv_at hl 4 rfl) ?_
        refine lv_iadd hx hb dX6_hear_215 ?_
        refine lv_iconst (v := 0) hx hb dX6_hear_216 (by decide) ?_
        refine st_M0 (x := 0) hx hb hK hP hD hS (vin3 (by assumption) (by assumption) (by decide)) dX6_hear_217 (fun H locs hP hD hS => ?_)
        have hρ : kX6_hear f x1 x2 x3 = (up2 (up2 (up2 (up2 f 0 (ix ((x1 + 9) + (kX6_rightOf f x2))) ((f 0 (ix ((x1 + 9) + (kX6_rightOf f x2)))) + (remI (((remI ((remI (f 0 (ix ((x1 + 41) + x2))) 16) + 16) 16) - (f 0 (ix ((x1 + 48) + x2)))) + 16) 16))) 0 (ix ((x1 + 48) + x2)) (remI ((remI (f 0 (ix ((x1 + 41) + x2))) 16) + 16) 16)) 0 (ix ((x1 + 69) + x2)) ((up2 (up2 f 0 (ix ((x1 + 9) + (kX6_rightOf f x2))) ((f 0 (ix ((x1 + 9) + (kX6_rightOf f x2)))) + (remI (((remI ((remI (f 0 (ix ((x1 + 41) + x2))) 16) + 16) 16) - (f 0 (ix ((x1 + 48) + x2)))) + 16) 16))) 0 (ix ((x1 + 48) + x2)) (remI ((remI (f 0 (ix ((x1 + 41) + x2))) 16) + 16) 16)) 0 (ix ((x1 + 62) + x2)))) 0 (ix ((x1 + 55) + x2)) 0) := (if_pos c_1).trans ((if_pos c_98).trans ((if_neg c_119).trans ((if_pos c_148))))
        exact e_wv hx hb hr hlk hK hP hD hS dX6_hear_218 (congrArg (fun z => (MW cI h a z ++ X)) hρ).symm
      have c_148 : ¬ ((kX6_leftOf (up2 f 0 (ix ((x1 + 9) + (kX6_rightOf f x2))) ((f 0 (ix ((x1 + 9) + (kX6_rightOf f x2)))) + (remI (((remI ((remI (f 0 (ix ((x1 + 41) + x2))) 16) + 16) 16) - (f 0 (ix ((x1 + 48) + x2)))) + 16) 16))) x2) = (-1)) := c_148
      have hv2 : vp_in _ 6 := (by first | exact ml_in (okM_u3 hok h1 hv1 (by decide) (by decide)) h2 c_148 | exact ml_in hok h2 c_148)
      refine lv_aload_n hx hb dX6_hear_151 rfl (lv_at hl 2 rfl) ?_
      refine va_get (v := .ref (a 0)) (C := RX6) (T := TX6) (N := 6) (ci := 6) hx hb hts hinX6 hown hK hP 0 rfl rfl 0 (by decide) (hts (.fieldLink RX6 7 "AxleKeeperModel" "w" "[I") (by decide +kernel)) (fun _ h9 => h9) rfl dX6_hear_152 ?_
      refine lv_iload_n hx hb dX6_hear_155 rfl (lv_at hl 3 rfl) ?_
      refine lv_bipush (v := 9) hx hb dX6_hear_156 (by decide) ?_
      refine lv_iadd hx hb dX6_hear_158 ?_
      refine lv_aload_n hx hb dX6_hear_159 rfl (lv_at hl 2 rfl) ?_
      refine lv_iload_n hx hb dX6_hear_160 rfl (lv_at hl 4 rfl) ?_
      refine k_rd (As := [.int x2]) (rest := [.int (x1 + 9), .ref (a 0)]) (bytes := cX6_leftOf) (C := RX6) S (okX6_leftOf l D cI cZ cQ h a X (up2 f 0 (ix ((x1 + 9) + (kX6_rightOf f x2))) ((f 0 (ix ((x1 + 9) + (kX6_rightOf f x2)))) + (remI (((remI ((remI (f 0 (ix ((x1 + 41) + x2))) 16) + 16) 16) - (f 0 (ix ((x1 + 48) + x2)))) + 16) 16))) x2) gX6_hear_X6_leftOf rfl ⟨rfl, rfl⟩ ndX6_leftOf ⟨Nat.le_of_ble_eq_true rfl, Nat.le_of_ble_eq_true rfl⟩ hK hP 0 rfl rfl rfl hl rfl (Nat.le_of_ble_eq_true rfl) dX6_hear_161 ⟨Nat.zero_le _, Nat.zero_le _⟩ ?_
      refine lv_iadd hx hb dX6_hear_164 ?_
      refine lv_dup2_11 hx hb dX6_hear_165 rfl rfl ?_
      refine va_iald hx hb hK hP 1 0 rfl rfl (n := 1680) (vin3 (by assumption) (by assumption) (by decide)) dX6_hear_166 ?_
      refine lv_iload hx hb dX6_hear_167 (lv_at hl 0 rfl) ?_
      refine lv_isub hx hb dX6_hear_169 ?_
      refine st_M0 (x := (((up2 f 0 (ix ((x1 + 9) + (kX6_rightOf f x2))) ((f 0 (ix ((x1 + 9) + (kX6_rightOf f x2)))) + (remI (((remI ((remI (f 0 (ix ((x1 + 41) + x2))) 16) + 16) 16) - (f 0 (ix ((x1 + 48) + x2)))) + 16) 16))) 0 (ix ((x1 + 9) + (kX6_leftOf (up2 f 0 (ix ((x1 + 9) + (kX6_rightOf f x2))) ((f 0 (ix ((x1 + 9) + (kX6_rightOf f x2)))) + (remI (((remI ((remI (f 0 (ix ((x1 + 41) + x2))) 16) + 16) 16) - (f 0 (ix ((x1 + 48) + x2)))) + 16) 16))) x2)))) - (remI (((remI ((remI (f 0 (ix ((x1 + 41) + x2))) 16) + 16) 16) - (f 0 (ix ((x1 + 48) + x2)))) + 16) 16))) hx hb hK hP hD hS (vin3 (by assumption) (by assumption) (by decide)) dX6_hear_170 (fun H locs hP hD hS => ?_)
      refine lv_aload_n hx hb dX6_hear_171 rfl (lv_at hl 2 rfl) ?_
      refine va_get (v := .ref (a 0)) (C := RX6) (T := TX6) (N := 6) (ci := 6) hx hb hts hinX6 hown hK hP 0 rfl rfl 0 (by decide) (hts (.fieldLink RX6 7 "AxleKeeperModel" "w" "[I") (by decide +kernel)) (fun _ h9 => h9) rfl dX6_hear_172 ?_
      refine lv_iload_n hx hb dX6_hear_175 rfl (lv_at hl 3 rfl) ?_
      refine lv_bipush (v := 48) hx hb dX6_hear_176 (by decide) ?_
      refine lv_iadd hx hb dX6_hear_178 ?_
      refine lv_iload_n hx hb dX6_hear_179 rfl (lv_at hl 4 rfl) ?_
      refine lv_iadd hx hb dX6_hear_180 ?_
      refine lv_iload hx hb dX6_hear_181 (lv_at hl 1 rfl) ?_
      refine st_M0 (x := (remI ((remI (f 0 (ix ((x1 + 41) + x2))) 16) + 16) 16)) hx hb hK hP hD hS (vin3 (by assumption) (by assumption) (by decide)) dX6_hear_183 (fun H locs hP hD hS => ?_)
      refine lv_aload_n hx hb dX6_hear_184 rfl (lv_at hl 2 rfl) ?_
      refine va_get (v := .ref (a 0)) (C := RX6) (T := TX6) (N := 6) (ci := 6) hx hb hts hinX6 hown hK hP 0 rfl rfl 0 (by decide) (hts (.fieldLink RX6 7 "AxleKeeperModel" "w" "[I") (by decide +kernel)) (fun _ h9 => h9) rfl dX6_hear_185 ?_
      refine lv_iload_n hx hb dX6_hear_188 rfl (lv_at hl 3 rfl) ?_
      refine lv_bipush (v := 69) hx hb dX6_hear_189 (by decide) ?_
      refine lv_iadd hx hb dX6_hear_191 ?_
      refine lv_iload_n hx hb dX6_hear_192 rfl (lv_at hl 4 rfl) ?_
      refine lv_iadd hx hb dX6_hear_193 ?_
      refine lv_aload_n hx hb dX6_hear_194 rfl (lv_at hl 2 rfl) ?_
      refine va_get (v := .ref (a 0)) (C := RX6) (T := TX6) (N := 6) (ci := 6) hx hb hts hinX6 hown hK hP 0 rfl rfl 0 (by decide) (hts (.fieldLink RX6 7 "AxleKeeperModel" "w" "[I") (by decide +kernel)) (fun _ h9 => h9) rfl dX6_hear_195 ?_
      refine lv_iload_n hx hb dX6_hear_198 rfl (lv_at hl 3 rfl) ?_
      refine lv_bipush (v := 62) hx hb dX6_hear_199 (by decide) ?_
      refine lv_iadd hx hb dX6_hear_201 ?_
      refine lv_iload_n hx hb dX6_hear_202 rfl (lv_at hl 4 rfl) ?_
      refine lv_iadd hx hb dX6_hear_203 ?_
      refine va_iald hx hb hK hP 1 0 rfl rfl (n := 1680) (vin3 (by assumption) (by assumption) (by decide)) dX6_hear_204 ?_
      refine st_M0 (x := ((up2 (up2 (up2 f 0 (ix ((x1 + 9) + (kX6_rightOf f x2))) ((f 0 (ix ((x1 + 9) + (kX6_rightOf f x2)))) + (remI (((remI ((remI (f 0 (ix ((x1 + 41) + x2))) 16) + 16) 16) - (f 0 (ix ((x1 + 48) + x2)))) + 16) 16))) 0 (ix ((x1 + 9) + (kX6_leftOf (up2 f 0 (ix ((x1 + 9) + (kX6_rightOf f x2))) ((f 0 (ix ((x1 + 9) + (kX6_rightOf f x2)))) + (remI (((remI ((remI (f 0 (ix ((x1 + 41) + x2))) 16) + 16) 16) - (f 0 (ix ((x1 + 48) + x2)))) + 16) 16))) x2))) (((up2 f 0 (ix ((x1 + 9) + (kX6_rightOf f x2))) ((f 0 (ix ((x1 + 9) + (kX6_rightOf f x2)))) + (remI (((remI ((remI (f 0 (ix ((x1 + 41) + x2))) 16) + 16) 16) - (f 0 (ix ((x1 + 48) + x2)))) + 16) 16))) 0 (ix ((x1 + 9) + (kX6_leftOf (up2 f 0 (ix ((x1 + 9) + (kX6_rightOf f x2))) ((f 0 (ix ((x1 + 9) + (kX6_rightOf f x2)))) + (remI (((remI ((remI (f 0 (ix ((x1 + 41) + x2))) 16) + 16) 16) - (f 0 (ix ((x1 + 48) + x2)))) + 16) 16))) x2)))) - (remI (((remI ((remI (f 0 (ix ((x1 + 41) + x2))) 16) + 16) 16) - (f 0 (ix ((x1 + 48) + x2)))) + 16) 16))) 0 (ix ((x1 + 48) + x2)) (remI ((remI (f 0 (ix ((x1 + 41) + x2))) 16) + 16) 16)) 0 (ix ((x1 + 62) + x2)))) hx hb hK hP hD hS (vin3 (by assumption) (by assumption) (by decide)) dX6_hear_205 (fun H locs hP hD hS => ?_)
      refine lv_aload_n hx hb dX6_hear_206 rfl (lv_at hl 2 rfl) ?_
      refine va_get (v := .ref (a 0)) (C := RX6) (T := TX6) (N := 6) (ci := 6) hx hb hts hinX6 hown hK hP 0 rfl rfl 0 (by decide) (hts (.fieldLink RX6 7 "AxleKeeperModel" "w" "[I") (by decide +kernel)) (fun _ h9 => h9) rfl dX6_hear_207 ?_
      refine lv_iload_n hx hb dX6_hear_210 rfl (lv_at hl 3 rfl) ?_
      refine lv_bipush (v := 55) hx hb dX6_hear_211 (by decide) ?_
      refine lv_iadd hx hb dX6_hear_213 ?_
      refine lv_iload_n hx hb dX6_hear_214 rfl (lv_at hl 4 rfl) ?_
      refine lv_iadd hx hb dX6_hear_215 ?_
      refine lv_iconst (v := 0) hx hb dX6_hear_216 (by decide) ?_
      refine st_M0 (x := 0) hx hb hK hP hD hS (vin3 (by assumption) (by assumption) (by decide)) dX6_hear_217 (fun H locs hP hD hS => ?_)
      have hρ : kX6_hear f x1 x2 x3 = (up2 (up2 (up2 (up2 (up2 f 0 (ix ((x1 + 9) + (kX6_rightOf f x2))) ((f 0 (ix ((x1 + 9) + (kX6_rightOf f x2)))) + (remI (((remI ((remI (f 0 (ix ((x1 + 41) + x2))) 16) + 16) 16) - (f 0 (ix ((x1 + 48) + x2)))) + 16) 16))) 0 (ix ((x1 + 9) + (kX6_leftOf (up2 f 0 (ix ((x1 + 9) + (kX6_rightOf f x2))) ((f 0 (ix ((x1 + 9) + (kX6_rightOf f x2)))) + (remI (((remI ((remI (f 0 (ix ((x1 + 41) + x2))) 16) + 16) 16) - (f 0 (ix ((x1 + 48) + x2)))) + 16) 16))) x2))) (((up2 f 0 (ix ((x1 + 9) + (kX6_rightOf f x2))) ((f 0 (ix ((x1 + 9) + (kX6_rightOf f x2)))) + (remI (((remI ((remI (f 0 (ix ((x1 + 41) + x2))) 16) + 16) 16) - (f 0 (ix ((x1 + 48) + x2)))) + 16) 16))) 0 (ix ((x1 + 9) + (kX6_leftOf (up2 f 0 (ix ((x1 + 9) + (kX6_rightOf f x2))) ((f 0 (ix ((x1 + 9) + (kX6_rightOf f x2)))) + (remI (((remI ((remI (f 0 (ix ((x1 + 41) + x2))) 16) + 16) 16) - (f 0 (ix ((x1 + 48) + x2)))) + 16) 16))) x2)))) - (remI (((remI ((remI (f 0 (ix ((x1 + 41) + x2))) 16) + 16) 16) - (f 0 (ix ((x1 + 48) + x2)))) + 16) 16))) 0 (ix ((x1 + 48) + x2)) (remI ((remI (f 0 (ix ((x1 + 41) + x2))) 16) + 16) 16)) 0 (ix ((x1 + 69) + x2)) ((up2 (up2 (up2 f 0 (ix ((x1 + 9) + (kX6_rightOf f x2))) ((f 0 (ix ((x1 + 9) + (kX6_rightOf f x2)))) + (remI (((remI ((remI (f 0 (ix ((x1 + 41) + x2))) 16) + 16) 16) - (f 0 (ix ((x1 + 48) + x2)))) + 16) 16))) 0 (ix ((x1 + 9) + (kX6_leftOf (up2 f 0 (ix ((x1 + 9) + (kX6_rightOf f x2))) ((f 0 (ix ((x1 + 9) + (kX6_rightOf f x2)))) + (remI (((remI ((remI (f 0 (ix ((x1 + 41) + x2))) 16) + 16) 16) - (f 0 (ix ((x1 + 48) + x2)))) + 16) 16))) x2))) (((up2 f 0 (ix ((x1 + 9) + (kX6_rightOf f x2))) ((f 0 (ix ((x1 + 9) + (kX6_rightOf f x2)))) + (remI (((remI ((remI (f 0 (ix ((x1 + 41) + x2))) 16) + 16) 16) - (f 0 (ix ((x1 + 48) + x2)))) + 16) 16))) 0 (ix ((x1 + 9) + (kX6_leftOf (up2 f 0 (ix ((x1 + 9) + (kX6_rightOf f x2))) ((f 0 (ix ((x1 + 9) + (kX6_rightOf f x2)))) + (remI (((remI ((remI (f 0 (ix ((x1 + 41) + x2))) 16) + 16) 16) - (f 0 (ix ((x1 + 48) + x2)))) + 16) 16))) x2)))) - (remI (((remI ((remI (f 0 (ix ((x1 + 41) + x2))) 16) + 16) 16) - (f 0 (ix ((x1 + 48) + x2)))) + 16) 16))) 0 (ix ((x1 + 48) + x2)) (remI ((remI (f 0 (ix ((x1 + 41) + x2))) 16) + 16) 16)) 0 (ix ((x1 + 62) + x2)))) 0 (ix ((x1 + 55) + x2)) 0) := (if_pos c_1).trans ((if_pos c_98).trans ((if_neg c_119).trans ((if_neg c_148))))
      exact e_wv hx hb hr hlk hK hP hD hS dX6_hear_218 (congrArg (fun z => (MW cI h a z ++ X)) hρ).symm
    have c_98 : ¬ ((remI (((remI ((remI (f 0 (ix ((x1 + 41) + x2))) 16) + 16) 16) - (f 0 (ix ((x1 + 48) + x2)))) + 16) 16) ≤ 8) := c_98
    refine lv_iload hx hb dX6_hear_101 (lv_at hl 0 rfl) ?_
    refine lv_bipush (v := 16) hx hb dX6_hear_103 (by decide) ?_
    refine lv_isub hx hb dX6_hear_105 ?_
    refine lv_goto (tgt := 111) hx hb dX6_hear_106 (by decide) ?_
    refine lv_istore (lv' := [(5, .int ((remI (((remI ((remI (f 0 (ix ((x1 + 41) + x2))) 16) + 16) 16) - (f 0 (ix ((x1 + 48) + x2)))) + 16) 16) - 16)), (4, .int (remI ((remI (f 0 (ix ((x1 + 41) + x2))) 16) + 16) 16)), (0, .ref h), (1, .int x1), (2, .int x2), (3, .int x3)]) hx hb dX6_hear_111 hl (by decide) rfl (fun ls hl => ?_)
    refine lv_aload_n hx hb dX6_hear_113 rfl (lv_at hl 2 rfl) ?_
    refine lv_iload_n hx hb dX6_hear_114 rfl (lv_at hl 4 rfl) ?_
    refine k_rd (As := [.int x2]) (rest := []) (bytes := cX6_rightOf) (C := RX6) S (okX6_rightOf l D cI cZ cQ h a X f x2) gX6_hear_X6_rightOf rfl ⟨rfl, rfl⟩ ndX6_rightOf ⟨Nat.le_of_ble_eq_true rfl, Nat.le_of_ble_eq_true rfl⟩ hK hP 0 rfl rfl rfl hl rfl (Nat.le_of_ble_eq_true rfl) dX6_hear_115 ⟨Nat.zero_le _, Nat.zero_le _⟩ ?_
    refine lv_iconst (v := (-1)) hx hb dX6_hear_118 (by decide) ?_
    refine lv_icmp_eq (tgt := 142) hx hb dX6_hear_119 (by decide) (fun c_119 => ?_) (fun c_119 => ?_)
    · have c_119 : (kX6_rightOf f x2) = (-1) := c_119
      refine lv_aload_n hx hb dX6_hear_142 rfl (lv_at hl 2 rfl) ?_
      refine lv_iload_n hx hb dX6_hear_143 rfl (lv_at hl 4 rfl) ?_
      refine k_rd (As := [.int x2]) (rest := []) (bytes := cX6_leftOf) (C := RX6) S (okX6_leftOf l D cI cZ cQ h a X f x2) gX6_hear_X6_leftOf rfl ⟨rfl, rfl⟩ ndX6_leftOf ⟨Nat.le_of_ble_eq_true rfl, Nat.le_of_ble_eq_true rfl⟩ hK hP 0 rfl rfl rfl hl rfl (Nat.le_of_ble_eq_true rfl) dX6_hear_144 ⟨Nat.zero_le _, Nat.zero_le _⟩ ?_
      refine lv_iconst (v := (-1)) hx hb dX6_hear_147 (by decide) ?_
      refine lv_icmp_eq (tgt := 171) hx hb dX6_hear_148 (by decide) (fun c_148 => ?_) (fun c_148 => ?_)
      · have c_148 : (kX6_leftOf f x2) = (-1) := c_148
        refine lv_aload_n hx hb dX6_hear_171 rfl (lv_at hl 2 rfl) ?_
        refine va_get (v := .ref (a 0)) (C := RX6) (T := TX6) (N := 6) (ci := 6) hx hb hts hinX6 hown hK hP 0 rfl rfl 0 (by decide) (hts (.fieldLink RX6 7 "AxleKeeperModel" "w" "[I") (by decide +kernel)) (fun _ h9 => h9) rfl dX6_hear_172 ?_
        refine lv_iload_n hx hb dX6_hear_175 rfl (lv_at hl 3 rfl) ?_
        refine lv_bipush (v := 48) hx hb dX6_hear_176 (by decide) ?_
        refine lv_iadd hx hb dX6_hear_178 ?_
        refine lv_iload_n hx hb dX6_hear_179 rfl (lv_at hl 4 rfl) ?_
        refine lv_iadd hx hb dX6_hear_180 ?_
        refine lv_iload hx hb dX6_hear_181 (lv_at hl 1 rfl) ?_
        refine st_M0 (x := (remI ((remI (f 0 (ix ((x1 + 41) + x2))) 16) + 16) 16)) hx hb hK hP hD hS (vin3 (by assumption) (by assumption) (by decide)) dX6_hear_183 (fun H locs hP hD hS => ?_)
        refine lv_aload_n hx hb dX6_hear_184 rfl (lv_at hl 2 rfl) ?_
        refine va_get (v := .ref (a 0)) (C := RX6) (T := TX6) (N := 6) (ci := 6) hx hb hts hinX6 hown hK hP 0 rfl rfl 0 (by decide) (hts (.fieldLink RX6 7 "AxleKeeperModel" "w" "[I") (by decide +kernel)) (fun _ h9 => h9) rfl dX6_hear_185 ?_
        refine lv_iload_n hx hb dX6_hear_188 rfl (lv_at hl 3 rfl) ?_
        refine lv_bipush (v := 69) hx hb dX6_hear_189 (by decide) ?_
        refine lv_iadd hx hb dX6_hear_191 ?_
        refine lv_iload_n hx hb dX6_hear_192 rfl (lv_at hl 4 rfl) ?_
        refine lv_iadd hx hb dX6_hear_193 ?_
        refine lv_aload_n hx hb dX6_hear_194 rfl (lv_at hl 2 rfl) ?_
        refine va_get (v := .ref (a 0)) (C := RX6) (T := TX6) (N := 6) (ci := 6) hx hb hts hinX6 hown hK hP 0 rfl rfl 0 (by decide) (hts (.fieldLink RX6 7 "AxleKeeperModel" "w" "[I") (by decide +kernel)) (fun _ h9 => h9) rfl dX6_hear_195 ?_
        refine lv_iload_n hx hb dX6_hear_198 rfl (lv_at hl 3 rfl) ?_
        refine lv_bipush (v := 62) hx hb dX6_hear_199 (by decide) ?_
        refine lv_iadd hx hb dX6_hear_201 ?_
        refine lv_iload_n hx hb dX6_hear_202 rfl (lv_at hl 4 rfl) ?_
        refine lv_iadd hx hb dX6_hear_203 ?_
        refine va_iald hx hb hK hP 1 0 rfl rfl (n := 1680) (vin3 (by assumption) (by assumption) (by decide)) dX6_hear_204 ?_
        refine st_M0 (x := ((up2 f 0 (ix ((x1 + 48) + x2)) (remI ((remI (f 0 (ix ((x1 + 41) + x2))) 16) + 16) 16)) 0 (ix ((x1 + 62) + x2)))) hx hb hK hP hD hS (vin3 (by assumption) (by assumption) (by decide)) dX6_hear_205 (fun H locs hP hD hS => ?_)
        refine lv_aload_n hx hb dX6_hear_206 rfl (lv_at hl 2 rfl) ?_
        refine va_get (v := .ref (a 0)) (C := RX6) (T := TX6) (N := 6) (ci := 6) hx hb hts hinX6 hown hK hP 0 rfl rfl 0 (by decide) (hts (.fieldLink RX6 7 "AxleKeeperModel" "w" "[I") (by decide +kernel)) (fun _ h9 => h9) rfl dX6_hear_207 ?_
        refine lv_iload_n hx hb dX6_hear_210 rfl (lv_at hl 3 rfl) ?_
        refine lv_bipush (v := 55) hx hb dX6_hear_211 (by decide) ?_
        refine lv_iadd hx hb dX6_hear_213 ?_
        refine lv_iload_n hx hb dX6_hear_214 rfl (lv_at hl 4 rfl) ?_
        refine lv_iadd hx hb dX6_hear_215 ?_
        refine lv_iconst (v := 0) hx hb dX6_hear_216 (by decide) ?_
        refine st_M0 (x := 0) hx hb hK hP hD hS (vin3 (by assumption) (by assumption) (by decide)) dX6_hear_217 (fun H locs hP hD hS => ?_)
        have hρ : kX6_hear f x1 x2 x3 = (up2 (up2 (up2 f 0 (ix ((x1 + 48) + x2)) (remI ((remI (f 0 (ix ((x1 + 41) + x2))) 16) + 16) 16)) 0 (ix ((x1 + 69) + x2)) ((up2 f 0 (ix ((x1 + 48) + x2)) (remI ((remI (f 0 (ix ((x1 + 41) + x2))) 16) + 16) 16)) 0 (ix ((x1 + 62) + x2)))) 0 (ix ((x1 + 55) + x2)) 0) := (if_pos c_1).trans ((if_neg c_98).trans ((if_pos c_119).trans ((if_pos c_148))))
        exact e_wv hx hb hr hlk hK hP hD hS dX6_hear_218 (congrArg (fun z => (MW cI h a z ++ X)) hρ).symm
      have c_148 : ¬ ((kX6_leftOf f x2) = (-1)) := c_148
      have hv2 : vp_in _ 6 := (by first | exact ml_in (okM_u3 hok h1 hv1 (by decide) (by decide)) h2 c_148 | exact ml_in hok h2 c_148)
      refine lv_aload_n hx hb dX6_hear_151 rfl (lv_at hl 2 rfl) ?_
      refine va_get (v := .ref (a 0)) (C := RX6) (T := TX6) (N := 6) (ci := 6) hx hb hts hinX6 hown hK hP 0 rfl rfl 0 (by decide) (hts (.fieldLink RX6 7 "AxleKeeperModel" "w" "[I") (by decide +kernel)) (fun _ h9 => h9) rfl dX6_hear_152 ?_
      refine lv_iload_n hx hb dX6_hear_155 rfl (lv_at hl 3 rfl) ?_
      refine lv_bipush (v := 9) hx hb dX6_hear_156 (by decide) ?_
      refine lv_iadd hx hb dX6_hear_158 ?_
      refine lv_aload_n hx hb dX6_hear_159 rfl (lv_at hl 2 rfl) ?_
      refine lv_iload_n hx hb dX6_hear_160 rfl (lv_at hl 4 rfl) ?_
      refine k_rd (As := [.int x2]) (rest := [.int (x1 + 9), .ref (a 0)]) (bytes := cX6_leftOf) (C := RX6) S (okX6_leftOf l D cI cZ cQ h a X f x2) gX6_hear_X6_leftOf rfl ⟨rfl, rfl⟩ ndX6_leftOf ⟨Nat.le_of_ble_eq_true rfl, Nat.le_of_ble_eq_true rfl⟩ hK hP 0 rfl rfl rfl hl rfl (Nat.le_of_ble_eq_true rfl) dX6_hear_161 ⟨Nat.zero_le _, Nat.zero_le _⟩ ?_
      refine lv_iadd hx hb dX6_hear_164 ?_
      refine lv_dup2_11 hx hb dX6_hear_165 rfl rfl ?_
      refine va_iald hx hb hK hP 1 0 rfl rfl (n := 1680) (vin3 (by assumption) (by assumption) (by decide)) dX6_hear_166 ?_
      refine lv_iload hx hb dX6_hear_167 (lv_at hl 0 rfl) ?_
      refine lv_isub hx hb dX6_hear_169 ?_
      refine st_M0 (x := ((f 0 (ix ((x1 + 9) + (kX6_leftOf f x2)))) - ((remI (((remI ((remI (f 0 (ix ((x1 + 41) + x2))) 16) + 16) 16) - (f 0 (ix ((x1 + 48) + x2)))) + 16) 16) - 16))) hx hb hK hP hD hS (vin3 (by assumption) (by assumption) (by decide)) dX6_hear_170 (fun H locs hP hD hS => ?_)
      refine lv_aload_n hx hb dX6_hear_171 rfl (lv_at hl 2 rfl) ?_
      refine va_get (v := .ref (a 0)) (C := RX6) (T := TX6) (N := 6) (ci := 6) hx hb hts hinX6 hown hK hP 0 rfl rfl 0 (by decide) (hts (.fieldLink RX6 7 "AxleKeeperModel" "w" "[I") (by decide +kernel)) (fun _ h9 => h9) rfl dX6_hear_172 ?_
      refine lv_iload_n hx hb dX6_hear_175 rfl (lv_at hl 3 rfl) ?_
      refine lv_bipush (v := 48) hx hb dX6_hear_176 (by decide) ?_
      refine lv_iadd hx hb dX6_hear_178 ?_
      refine lv_iload_n hx hb dX6_hear_179 rfl (lv_at hl 4 rfl) ?_
      refine lv_iadd hx hb dX6_hear_180 ?_
      refine lv_iload hx hb dX6_hear_181 (lv_at hl 1 rfl) ?_
      refine st_M0 (x := (remI ((remI (f 0 (ix ((x1 + 41) + x2))) 16) + 16) 16)) hx hb hK hP hD hS (vin3 (by assumption) (by assumption) (by decide)) dX6_hear_183 (fun H locs hP hD hS => ?_)
      refine lv_aload_n hx hb dX6_hear_184 rfl (lv_at hl 2 rfl) ?_
      refine va_get (v := .ref (a 0)) (C := RX6) (T := TX6) (N := 6) (ci := 6) hx hb hts hinX6 hown hK hP 0 rfl rfl 0 (by decide) (hts (.fieldLink RX6 7 "AxleKeeperModel" "w" "[I") (by decide +kernel)) (fun _ h9 => h9) rfl dX6_hear_185 ?_
      refine lv_iload_n hx hb dX6_hear_188 rfl (lv_at hl 3 rfl) ?_
      refine lv_bipush (v := 69) hx hb dX6_hear_189 (by decide) ?_
      refine lv_iadd hx hb dX6_hear_191 ?_
      refine lv_iload_n hx hb dX6_hear_192 rfl (lv_at hl 4 rfl) ?_
      refine lv_iadd hx hb dX6_hear_193 ?_
      refine lv_aload_n hx hb dX6_hear_194 rfl (lv_at hl 2 rfl) ?_
      refine va_get (v := .ref (a 0)) (C := RX6) (T := TX6) (N := 6) (ci := 6) hx hb hts hinX6 hown hK hP 0 rfl rfl 0 (by decide) (hts (.fieldLink RX6 7 "AxleKeeperModel" "w" "[I") (by decide +kernel)) (fun _ h9 => h9) rfl dX6_hear_195 ?_
      refine lv_iload_n hx hb dX6_hear_198 rfl (lv_at hl 3 rfl) ?_
      refine lv_bipush (v := 62) hx hb dX6_hear_199 (by decide) ?_
      refine lv_iadd hx hb dX6_hear_201 ?_
      refine lv_iload_n hx hb dX6_hear_202 rfl (lv_at hl 4 rfl) ?_
      refine lv_iadd hx hb dX6_hear_203 ?_
      refine va_iald hx hb hK hP 1 0 rfl rfl (n := 1680) (vin3 (by assumption) (by assumption) (by decide)) dX6_hear_204 ?_
      refine st_M0 (x := ((up2 (up2 f 0 (ix ((x1 + 9) + (kX6_leftOf f x2))) ((f 0 (ix ((x1 + 9) + (kX6_leftOf f x2)))) - ((remI (((remI ((remI (f 0 (ix ((x1 + 41) + x2))) 16) + 16) 16) - (f 0 (ix ((x1 + 48) + x2)))) + 16) 16) - 16))) 0 (ix ((x1 + 48) + x2)) (remI ((remI (f 0 (ix ((x1 + 41) + x2))) 16) + 16) 16)) 0 (ix ((x1 + 62) + x2)))) hx hb hK hP hD hS (vin3 (by assumption) (by assumption) (by decide)) dX6_hear_205 (fun H locs hP hD hS => ?_)
      refine lv_aload_n hx hb dX6_hear_206 rfl (lv_at hl 2 rfl) ?_
      refine va_get (v := .ref (a 0)) (C := RX6) (T := TX6) (N := 6) (ci := 6) hx hb hts hinX6 hown hK hP 0 rfl rfl 0 (by decide) (hts (.fieldLink RX6 7 "AxleKeeperModel" "w" "[I") (by decide +kernel)) (fun _ h9 => h9) rfl dX6_hear_207 ?_
      refine lv_iload_n hx hb dX6_hear_210 rfl (lv_at hl 3 rfl) ?_
      refine lv_bipush (v := 55) hx hb dX6_hear_211 (by decide) ?_
      refine lv_iadd hx hb dX6_hear_213 ?_
      refine lv_iload_n hx hb dX6_hear_214 rfl (lv_at hl 4 rfl) ?_
      refine lv_iadd hx hb dX6_hear_215 ?_
      refine lv_iconst (v := 0) hx hb dX6_hear_216 (by decide) ?_
      refine st_M0 (x := 0) hx hb hK hP hD hS (vin3 (by assumption) (by assumption) (by decide)) dX6_hear_217 (fun H locs hP hD hS => ?_)
      have hρ : kX6_hear f x1 x2 x3 = (up2 (up2 (up2 (up2 f 0 (ix ((x1 + 9) + (kX6_leftOf f x2))) ((f 0 (ix ((x1 + 9) + (kX6_leftOf f x2)))) - ((remI (((remI ((remI (f 0 (ix ((x1 + 41) + x2))) 16) + 16) 16) - (f 0 (ix ((x1 + 48) + x2)))) + 16) 16) - 16))) 0 (ix ((x1 + 48) + x2)) (remI ((remI (f 0 (ix ((x1 + 41) + x2))) 16) + 16) 16)) 0 (ix ((x1 + 69) + x2)) ((up2 (up2 f 0 (ix ((x1 + 9) + (kX6_leftOf f x2))) ((f 0 (ix ((x1 + 9) + (kX6_leftOf f x2)))) - ((remI (((remI ((remI (f 0 (ix ((x1 + 41) + x2))) 16) + 16) 16) - (f 0 (ix ((x1 + 48) + x2)))) + 16) 16) - 16))) 0 (ix ((x1 + 48) + x2)) (remI ((remI (f 0 (ix ((x1 + 41) + x2))) 16) + 16) 16)) 0 (ix ((x1 + 62) + x2)))) 0 (ix ((x1 + 55) + x2)) 0) := (if_pos c_1).trans ((if_neg c_98).trans ((if_pos c_119).trans ((if_neg c_148))))
      exact e_wv hx hb hr hlk hK hP hD hS dX6_hear_218 (congrArg (fun z => (MW cI h a z ++ X)) hρ).symm
    have c_119 : ¬ ((kX6_rightOf f x2) = (-1)) := c_119
    have hv1 : vp_in _ 6 := mr_in hok h2 c_119
    refine lv_aload_n hx hb dX6_hear_122 rfl (lv_at hl 2 rfl) ?_
    refine va_get (v := .ref (a 0)) (C := RX6) (T := TX6) (N := 6) (ci := 6) hx hb hts hinX6 hown hK hP 0 rfl rfl 0 (by decide) (hts (.fieldLink RX6 7 "AxleKeeperModel" "w" "[I") (by decide +kernel)) (fun _ h9 => h9) rfl dX6_hear_123 ?_
    refine lv_iload_n hx hb dX6_hear_126 rfl (lv_at hl 3 rfl) ?_
    refine lv_bipush (v := 9) hx hb dX6_hear_127 (by decide) ?_
    refine lv_iadd hx hb dX6_hear_129 ?_
    refine lv_aload_n hx hb dX6_hear_130 rfl (lv_at hl 2 rfl) ?_
    refine lv_iload_n hx hb dX6_hear_131 rfl (lv_at hl 4 rfl) ?_
    refine k_rd (As := [.int x2]) (rest := [.int (x1 + 9), .ref (a 0)]) (bytes := cX6_rightOf) (C := RX6) S (okX6_rightOf l D cI cZ cQ h a X f x2) gX6_hear_X6_rightOf rfl ⟨rfl, rfl⟩ ndX6_rightOf ⟨Nat.le_of_ble_eq_true rfl, Nat.le_of_ble_eq_true rfl⟩ hK hP 0 rfl rfl rfl hl rfl (Nat.le_of_ble_eq_true rfl) dX6_hear_132 ⟨Nat.zero_le _, Nat.zero_le _⟩ ?_
    refine lv_iadd hx hb dX6_hear_135 ?_
    refine lv_dup2_11 hx hb dX6_hear_136 rfl rfl ?_
    refine va_iald hx hb hK hP 1 0 rfl rfl (n := 1680) (vin3 (by assumption) (by assumption) (by decide)) dX6_hear_137 ?_
    refine lv_iload hx hb dX6_hear_138 (lv_at hl 0 rfl) ?_
    refine lv_iadd hx hb dX6_hear_140 ?_
    refine st_M0 (x := ((f 0 (ix ((x1 + 9) + (kX6_rightOf f x2)))) + ((remI (((remI ((remI (f 0 (ix ((x1 + 41) + x2))) 16) + 16) 16) - (f 0 (ix ((x1 + 48) + x2)))) + 16) 16) - 16))) hx hb hK hP hD hS (vin3 (by assumption) (by assumption) (by decide)) dX6_hear_141 (fun H locs hP hD hS => ?_)
    refine lv_aload_n hx hb dX6_hear_142 rfl (lv_at hl 2 rfl) ?_
    refine lv_iload_n hx hb dX6_hear_143 rfl (lv_at hl 4 rfl) ?_
    refine k_rd (As := [.int x2]) (rest := []) (bytes := cX6_leftOf) (C := RX6) S (okX6_leftOf l D cI cZ cQ h a X (up2 f 0 (ix ((x1 + 9) + (kX6_rightOf f x2))) ((f 0 (ix ((x1 + 9) + (kX6_rightOf f x2)))) + ((remI (((remI ((remI (f 0 (ix ((x1 + 41) + x2))) 16) + 16) 16) - (f 0 (ix ((x1 + 48) + x2)))) + 16) 16) - 16))) x2) gX6_hear_X6_leftOf rfl ⟨rfl, rfl⟩ ndX6_leftOf ⟨Nat.le_of_ble_eq_true rfl, Nat.le_of_ble_eq_true rfl⟩ hK hP 0 rfl rfl rfl hl rfl (Nat.le_of_ble_eq_true rfl) dX6_hear_144 ⟨Nat.zero_le _, Nat.zero_le _⟩ ?_
    refine lv_iconst (v := (-1)) hx hb dX6_hear_147 (by decide) ?_
    refine lv_icmp_eq (tgt := 171) hx hb dX6_hear_148 (by decide) (fun c_148 => ?_) (fun c_148 => ?_)
    · have c_148 : (kX6_leftOf (up2 f 0 (ix ((x1 + 9) + (kX6_rightOf f x2))) ((f 0 (ix ((x1 + 9) + (kX6_rightOf f x2)))) + ((remI (((remI ((remI (f 0 (ix ((x1 + 41) + x2))) 16) + 16) 16) - (f 0 (ix ((x1 + 48) + x2)))) + 16) 16) - 16))) x2) = (-1) := c_148
      refine lv_aload_n hx hb dX6_hear_171 rfl (lv_at hl 2 rfl) ?_
      refine va_get (v := .ref (a 0)) (C := RX6) (T := TX6) (N := 6) (ci := 6) hx hb hts hinX6 hown hK hP 0 rfl rfl 0 (by decide) (hts (.fieldLink RX6 7 "AxleKeeperModel" "w" "[I") (by decide +kernel)) (fun _ h9 => h9) rfl dX6_hear_172 ?_
      refine lv_iload_n hx hb dX6_hear_175 rfl (lv_at hl 3 rfl) ?_
      refine lv_bipush (v := 48) hx hb dX6_hear_176 (by decide) ?_
      refine lv_iadd hx hb dX6_hear_178 ?_
      refine lv_iload_n hx hb dX6_hear_179 rfl (lv_at hl 4 rfl) ?_
      refine lv_iadd hx hb dX6_hear_180 ?_
      refine lv_iload hx hb dX6_hear_181 (lv_at hl 1 rfl) ?_
      refine st_M0 (x := (remI ((remI (f 0 (ix ((x1 + 41) + x2))) 16) + 16) 16)) hx hb hK hP hD hS (vin3 (by assumption) (by assumption) (by decide)) dX6_hear_183 (fun H locs hP hD hS => ?_)
      refine lv_aload_n hx hb dX6_hear_184 rfl (lv_at hl 2 rfl) ?_
      refine va_get (v := .ref (a 0)) (C := RX6) (T := TX6) (N := 6) (ci := 6) hx hb hts hinX6 hown hK hP 0 rfl rfl 0 (by decide) (hts (.fieldLink RX6 7 "AxleKeeperModel" "w" "[I") (by decide +kernel)) (fun _ h9 => h9) rfl dX6_hear_185 ?_
      refine lv_iload_n hx hb dX6_hear_188 rfl (lv_at hl 3 rfl) ?_
      refine lv_bipush (v := 69) hx hb dX6_hear_189 (by decide) ?_
      refine lv_iadd hx hb dX6_hear_191 ?_
      refine lv_iload_n hx hb dX6_hear_192 rfl (lv_at hl 4 rfl) ?_
      refine lv_iadd hx hb dX6_hear_193 ?_
      refine lv_aload_n hx hb dX6_hear_194 rfl (lv_at hl 2 rfl) ?_
      refine va_get (v := .ref (a 0)) (C := RX6) (T := TX6) (N := 6) (ci := 6) hx hb hts hinX6 hown hK hP 0 rfl rfl 0 (by decide) (hts (.fieldLink RX6 7 "AxleKeeperModel" "w" "[I") (by decide +kernel)) (fun _ h9 => h9) rfl dX6_hear_195 ?_
      refine lv_iload_n hx hb dX6_hear_198 rfl (lv_at hl 3 rfl) ?_
      refine lv_bipush (v := 62) hx hb dX6_hear_199 (by decide) ?_
      refine lv_iadd hx hb dX6_hear_201 ?_
      refine lv_iload_n hx hb dX6_hear_202 rfl (lv_at hl 4 rfl) ?_
      refine lv_iadd hx hb dX6_hear_203 ?_
      refine va_iald hx hb hK hP 1 0 rfl rfl (n := 1680) (vin3 (by assumption) (by assumption) (by decide)) dX6_hear_204 ?_
      refine st_M0 (x := ((up2 (up2 f 0 (ix ((x1 + 9) + (kX6_rightOf f x2))) ((f 0 (ix ((x1 + 9) + (kX6_rightOf f x2)))) + ((remI (((remI ((remI (f 0 (ix ((x1 + 41) + x2))) 16) + 16) 16) - (f 0 (ix ((x1 + 48) + x2)))) + 16) 16) - 16))) 0 (ix ((x1 + 48) + x2)) (remI ((remI (f 0 (ix ((x1 + 41) + x2))) 16) + 16) 16)) 0 (ix ((x1 + 62) + x2)))) hx hb hK hP hD hS (vin3 (by assumption) (by assumption) (by decide)) dX6_hear_205 (fun H locs hP hD hS => ?_)
      refine lv_aload_n hx hb dX6_hear_206 rfl (lv_at hl 2 rfl) ?_
      refine va_get (v := .ref (a 0)) (C := RX6) (T := TX6) (N := 6) (ci := 6) hx hb hts hinX6 hown hK hP 0 rfl rfl 0 (by decide) (hts (.fieldLink RX6 7 "AxleKeeperModel" "w" "[I") (by decide +kernel)) (fun _ h9 => h9) rfl dX6_hear_207 ?_
      refine lv_iload_n hx hb dX6_hear_210 rfl (lv_at hl 3 rfl) ?_
      refine lv_bipush (v := 55) hx hb dX6_hear_211 (by decide) ?_
      refine lv_iadd hx hb dX6_hear_213 ?_
      refine lv_iload_n hx hb dX6_hear_214 rfl (lv_at hl 4 rfl) ?_
      refine lv_iadd hx hb dX6_hear_215 ?_
      refine lv_iconst (v := 0) hx hb dX6_hear_216 (by decide) ?_
      refine st_M0 (x := 0) hx hb hK hP hD hS (vin3 (by assumption) (by assumption) (by decide)) dX6_hear_217 (fun H locs hP hD hS => ?_)
      have hρ : kX6_hear f x1 x2 x3 = (up2 (up2 (up2 (up2 f 0 (ix ((x1 + 9) + (kX6_rightOf f x2))) ((f 0 (ix ((x1 + 9) + (kX6_rightOf f x2)))) + ((remI (((remI ((remI (f 0 (ix ((x1 + 41) + x2))) 16) + 16) 16) - (f 0 (ix ((x1 + 48) + x2)))) + 16) 16) - 16))) 0 (ix ((x1 + 48) + x2)) (remI ((remI (f 0 (ix ((x1 + 41) + x2))) 16) + 16) 16)) 0 (ix ((x1 + 69) + x2)) ((up2 (up2 f 0 (ix ((x1 + 9) + (kX6_rightOf f x2))) ((f 0 (ix ((x1 + 9) + (kX6_rightOf f x2)))) + ((remI (((remI ((remI (f 0 (ix ((x1 + 41) + x2))) 16) + 16) 16) - (f 0 (ix ((x1 + 48) + x2)))) + 16) 16) - 16))) 0 (ix ((x1 + 48) + x2)) (remI ((remI (f 0 (ix ((x1 + 41) + x2))) 16) + 16) 16)) 0 (ix ((x1 + 62) + x2)))) 0 (ix ((x1 + 55) + x2)) 0) := (if_pos c_1).trans ((if_neg c_98).trans ((if_neg c_119).trans ((if_pos c_148))))
      exact e_wv hx hb hr hlk hK hP hD hS dX6_hear_218 (congrArg (fun z => (MW cI h a z ++ X)) hρ).symm
    have c_148 : ¬ ((kX6_leftOf (up2 f 0 (ix ((x1 + 9) + (kX6_rightOf f x2))) ((f 0 (ix ((x1 + 9) + (kX6_rightOf f x2)))) + ((remI (((remI ((remI (f 0 (ix ((x1 + 41) + x2))) 16) + 16) 16) - (f 0 (ix ((x1 + 48) + x2)))) + 16) 16) - 16))) x2) = (-1)) := c_148
    have hv2 : vp_in _ 6 := (by first | exact ml_in (okM_u3 hok h1 hv1 (by decide) (by decide)) h2 c_148 | exact ml_in hok h2 c_148)
    refine lv_aload_n hx hb dX6_hear_151 rfl (lv_at hl 2 rfl) ?_
    refine va_get (v := .ref (a 0)) (C := RX6) (T := TX6) (N := 6) (ci := 6) hx hb hts hinX6 hown hK hP 0 rfl rfl 0 (by decide) (hts (.fieldLink RX6 7 "AxleKeeperModel" "w" "[I") (by decide +kernel)) (fun _ h9 => h9) rfl dX6_hear_152 ?_
    refine lv_iload_n hx hb dX6_hear_155 rfl (lv_at hl 3 rfl) ?_
    refine lv_bipush (v := 9) hx hb dX6_hear_156 (by decide) ?_
    refine lv_iadd hx hb dX6_hear_158 ?_
    refine lv_aload_n hx hb dX6_hear_159 rfl (lv_at hl 2 rfl) ?_
    refine lv_iload_n hx hb dX6_hear_160 rfl (lv_at hl 4 rfl) ?_
    refine k_rd (As := [.int x2]) (rest := [.int (x1 + 9), .ref (a 0)]) (bytes := cX6_leftOf) (C := RX6) S (okX6_leftOf l D cI cZ cQ h a X (up2 f 0 (ix ((x1 + 9) + (kX6_rightOf f x2))) ((f 0 (ix ((x1 + 9) + (kX6_rightOf f x2)))) + ((remI (((remI ((remI (f 0 (ix ((x1 + 41) + x2))) 16) + 16) 16) - (f 0 (ix ((x1 + 48) + x2)))) + 16) 16) - 16))) x2) gX6_hear_X6_leftOf rfl ⟨rfl, rfl⟩ ndX6_leftOf ⟨Nat.le_of_ble_eq_true rfl, Nat.le_of_ble_eq_true rfl⟩ hK hP 0 rfl rfl rfl hl rfl (Nat.le_of_ble_eq_true rfl) dX6_hear_161 ⟨Nat.zero_le _, Nat.zero_le _⟩ ?_
    refine lv_iadd hx hb dX6_hear_164 ?_
    refine lv_dup2_11 hx hb dX6_hear_165 rfl rfl ?_
    refine va_iald hx hb hK hP 1 0 rfl rfl (n := 1680) (vin3 (by assumption) (by assumption) (by decide)) dX6_hear_166 ?_
    refine lv_iload hx hb dX6_hear_167 (lv_at hl 0 rfl) ?_
    refine lv_isub hx hb dX6_hear_169 ?_
    refine st_M0 (x := (((up2 f 0 (ix ((x1 + 9) + (kX6_rightOf f x2))) ((f 0 (ix ((x1 + 9) + (kX6_rightOf f x2)))) + ((remI (((remI ((remI (f 0 (ix ((x1 + 41) + x2))) 16) + 16) 16) - (f 0 (ix ((x1 + 48) + x2)))) + 16) 16) - 16))) 0 (ix ((x1 + 9) + (kX6_leftOf (up2 f 0 (ix ((x1 + 9) + (kX6_rightOf f x2))) ((f 0 (ix ((x1 + 9) + (kX6_rightOf f x2)))) + ((remI (((remI ((remI (f 0 (ix ((x1 + 41) + x2))) 16) + 16) 16) - (f 0 (ix ((x1 + 48) + x2)))) + 16) 16) - 16))) x2)))) - ((remI (((remI ((remI (f 0 (ix ((x1 + 41) + x2))) 16) + 16) 16) - (f 0 (ix ((x1 + 48) + x2)))) + 16) 16) - 16))) hx hb hK hP hD hS (vin3 (by assumption) (by assumption) (by decide)) dX6_hear_170 (fun H locs hP hD hS => ?_)
    refine lv_aload_n hx hb dX6_hear_171 rfl (lv_at hl 2 rfl) ?_
    refine va_get (v := .ref (a 0)) (C := RX6) (T := TX6) (N := 6) (ci := 6) hx hb hts hinX6 hown hK hP 0 rfl rfl 0 (by decide) (hts (.fieldLink RX6 7 "AxleKeeperModel" "w" "[I") (by decide +kernel)) (fun _ h9 => h9) rfl dX6_hear_172 ?_
    refine lv_iload_n hx hb dX6_hear_175 rfl (lv_at hl 3 rfl) ?_
    refine lv_bipush (v := 48) hx hb dX6_hear_176 (by decide) ?_
    refine lv_iadd hx hb dX6_hear_178 ?_
    refine lv_iload_n hx hb dX6_hear_179 rfl (lv_at hl 4 rfl) ?_
    refine lv_iadd hx hb dX6_hear_180 ?_
    refine lv_iload hx hb dX6_hear_181 (lv_at hl 1 rfl) ?_
    refine st_M0 (x := (remI ((remI (f 0 (ix ((x1 + 41) + x2))) 16) + 16) 16)) hx hb hK hP hD hS (vin3 (by assumption) (by assumption) (by decide)) dX6_hear_183 (fun H locs hP hD hS => ?_)
    refine lv_aload_n hx hb dX6_hear_184 rfl (lv_at hl 2 rfl) ?_
    refine va_get (v := .ref (a 0)) (C := RX6) (T := TX6) (N := 6) (ci := 6) hx hb hts hinX6 hown hK hP 0 rfl rfl 0 (by decide) (hts (.fieldLink RX6 7 "AxleKeeperModel" "w" "[I") (by decide +kernel)) (fun _ h9 => h9) rfl dX6_hear_185 ?_
    refine lv_iload_n hx hb dX6_hear_188 rfl (lv_at hl 3 rfl) ?_
    refine lv_bipush (v := 69) hx hb dX6_hear_189 (by decide) ?_
    refine lv_iadd hx hb dX6_hear_191 ?_
    refine lv_iload_n hx hb dX6_hear_192 rfl (lv_at hl 4 rfl) ?_
    refine lv_iadd hx hb dX6_hear_193 ?_
    refine lv_aload_n hx hb dX6_hear_194 rfl (lv_at hl 2 rfl) ?_
    refine va_get (v := .ref (a 0)) (C := RX6) (T := TX6) (N := 6) (ci := 6) hx hb hts hinX6 hown hK hP 0 rfl rfl 0 (by decide) (hts (.fieldLink RX6 7 "AxleKeeperModel" "w" "[I") (by decide +kernel)) (fun _ h9 => h9) rfl dX6_hear_195 ?_
    refine lv_iload_n hx hb dX6_hear_198 rfl (lv_at hl 3 rfl) ?_
    refine lv_bipush (v := 62) hx hb dX6_hear_199 (by decide) ?_
    refine lv_iadd hx hb dX6_hear_201 ?_
    refine lv_iload_n hx hb dX6_hear_202 rfl (lv_at hl 4 rfl) ?_
    refine lv_iadd hx hb dX6_hear_203 ?_
    refine va_iald hx hb hK hP 1 0 rfl rfl (n := 1680) (vin3 (by assumption) (by assumption) (by decide)) dX6_hear_204 ?_
    refine st_M0 (x := ((up2 (up2 (up2 f 0 (ix ((x1 + 9) + (kX6_rightOf f x2))) ((f 0 (ix ((x1 + 9) + (kX6_rightOf f x2)))) + ((remI (((remI ((remI (f 0 (ix ((x1 + 41) + x2))) 16) + 16) 16) - (f 0 (ix ((x1 + 48) + x2)))) + 16) 16) - 16))) 0 (ix ((x1 + 9) + (kX6_leftOf (up2 f 0 (ix ((x1 + 9) + (kX6_rightOf f x2))) ((f 0 (ix ((x1 + 9) + (kX6_rightOf f x2)))) + ((remI (((remI ((remI (f 0 (ix ((x1 + 41) + x2))) 16) + 16) 16) - (f 0 (ix ((x1 + 48) + x2)))) + 16) 16) - 16))) x2))) (((up2 f 0 (ix ((x1 + 9) + (kX6_rightOf f x2))) ((f 0 (ix ((x1 + 9) + (kX6_rightOf f x2)))) + ((remI (((remI ((remI (f 0 (ix ((x1 + 41) + x2))) 16) + 16) 16) - (f 0 (ix ((x1 + 48) + x2)))) + 16) 16) - 16))) 0 (ix ((x1 + 9) + (kX6_leftOf (up2 f 0 (ix ((x1 + 9) + (kX6_rightOf f x2))) ((f 0 (ix ((x1 + 9) + (kX6_rightOf f x2)))) + ((remI (((remI ((remI (f 0 (ix ((x1 + 41) + x2))) 16) + 16) 16) - (f 0 (ix ((x1 + 48) + x2)))) + 16) 16) - 16))) x2)))) - ((remI (((remI ((remI (f 0 (ix ((x1 + 41) + x2))) 16) + 16) 16) - (f 0 (ix ((x1 + 48) + x2)))) + 16) 16) - 16))) 0 (ix ((x1 + 48) + x2)) (remI ((remI (f 0 (ix ((x1 + 41) + x2))) 16) + 16) 16)) 0 (ix ((x1 + 62) + x2)))) hx hb hK hP hD hS (vin3 (by assumption) (by assumption) (by decide)) dX6_hear_205 (fun H locs hP hD hS => ?_)
    refine lv_aload_n hx hb dX6_hear_206 rfl (lv_at hl 2 rfl) ?_
    refine va_get (v := .ref (a 0)) (C := RX6) (T := TX6) (N := 6) (ci := 6) hx hb hts hinX6 hown hK hP 0 rfl rfl 0 (by decide) (hts (.fieldLink RX6 7 "AxleKeeperModel" "w" "[I") (by decide +kernel)) (fun _ h9 => h9) rfl dX6_hear_207 ?_
    refine lv_iload_n hx hb dX6_hear_210 rfl (lv_at hl 3 rfl) ?_
    refine lv_bipush (v := 55) hx hb dX6_hear_211 (by decide) ?_
    refine lv_iadd hx hb dX6_hear_213 ?_
    refine lv_iload_n hx hb dX6_hear_214 rfl (lv_at hl 4 rfl) ?_
    refine lv_iadd hx hb dX6_hear_215 ?_
    refine lv_iconst (v := 0) hx hb dX6_hear_216 (by decide) ?_
    refine st_M0 (x := 0) hx hb hK hP hD hS (vin3 (by assumption) (by assumption) (by decide)) dX6_hear_217 (fun H locs hP hD hS => ?_)
    have hρ : kX6_hear f x1 x2 x3 = (up2 (up2 (up2 (up2 (up2 f 0 (ix ((x1 + 9) + (kX6_rightOf f x2))) ((f 0 (ix ((x1 + 9) + (kX6_rightOf f x2)))) + ((remI (((remI ((remI (f 0 (ix ((x1 + 41) + x2))) 16) + 16) 16) - (f 0 (ix ((x1 + 48) + x2)))) + 16) 16) - 16))) 0 (ix ((x1 + 9) + (kX6_leftOf (up2 f 0 (ix ((x1 + 9) + (kX6_rightOf f x2))) ((f 0 (ix ((x1 + 9) + (kX6_rightOf f x2)))) + ((remI (((remI ((remI (f 0 (ix ((x1 + 41) + x2))) 16) + 16) 16) - (f 0 (ix ((x1 + 48) + x2)))) + 16) 16) - 16))) x2))) (((up2 f 0 (ix ((x1 + 9) + (kX6_rightOf f x2))) ((f 0 (ix ((x1 + 9) + (kX6_rightOf f x2)))) + ((remI (((remI ((remI (f 0 (ix ((x1 + 41) + x2))) 16) + 16) 16) - (f 0 (ix ((x1 + 48) + x2)))) + 16) 16) - 16))) 0 (ix ((x1 + 9) + (kX6_leftOf (up2 f 0 (ix ((x1 + 9) + (kX6_rightOf f x2))) ((f 0 (ix ((x1 + 9) + (kX6_rightOf f x2)))) + ((remI (((remI ((remI (f 0 (ix ((x1 + 41) + x2))) 16) + 16) 16) - (f 0 (ix ((x1 + 48) + x2)))) + 16) 16) - 16))) x2)))) - ((remI (((remI ((remI (f 0 (ix ((x1 + 41) + x2))) 16) + 16) 16) - (f 0 (ix ((x1 + 48) + x2)))) + 16) 16) - 16))) 0 (ix ((x1 + 48) + x2)) (remI ((remI (f 0 (ix ((x1 + 41) + x2))) 16) + 16) 16)) 0 (ix ((x1 + 69) + x2)) ((up2 (up2 (up2 f 0 (ix ((x1 + 9) + (kX6_rightOf f x2))) ((f 0 (ix ((x1 + 9) + (kX6_rightOf f x2)))) + ((remI (((remI ((remI (f 0 (ix ((x1 + 41) + x2))) 16) + 16) 16) - (f 0 (ix ((x1 + 48) + x2)))) + 16) 16) - 16))) 0 (ix ((x1 + 9) + (kX6_leftOf (up2 f 0 (ix ((x1 + 9) + (kX6_rightOf f x2))) ((f 0 (ix ((x1 + 9) + (kX6_rightOf f x2)))) + ((remI (((remI ((remI (f 0 (ix ((x1 + 41) + x2))) 16) + 16) 16) - (f 0 (ix ((x1 + 48) + x2)))) + 16) 16) - 16))) x2))) (((up2 f 0 (ix ((x1 + 9) + (kX6_rightOf f x2))) ((f 0 (ix ((x1 + 9) + (kX6_rightOf f x2)))) + ((remI (((remI ((remI (f 0 (ix ((x1 + 41) + x2))) 16) + 16) 16) - (f 0 (ix ((x1 + 48) + x2)))) + 16) 16) - 16))) 0 (ix ((x1 + 9) + (kX6_leftOf (up2 f 0 (ix ((x1 + 9) + (kX6_rightOf f x2))) ((f 0 (ix ((x1 + 9) + (kX6_rightOf f x2)))) + ((remI (((remI ((remI (f 0 (ix ((x1 + 41) + x2))) 16) + 16) 16) - (f 0 (ix ((x1 + 48) + x2)))) + 16) 16) - 16))) x2)))) - ((remI (((remI ((remI (f 0 (ix ((x1 + 41) + x2))) 16) + 16) 16) - (f 0 (ix ((x1 + 48) + x2)))) + 16) 16) - 16))) 0 (ix ((x1 + 48) + x2)) (remI ((remI (f 0 (ix ((x1 + 41) + x2))) 16) + 16) 16)) 0 (ix ((x1 + 62) + x2)))) 0 (ix ((x1 + 55) + x2)) 0) := (if_pos c_1).trans ((if_neg c_98).trans ((if_neg c_119).trans ((if_neg c_148))))
    exact e_wv hx hb hr hlk hK hP hD hS dX6_hear_218 (congrArg (fun z => (MW cI h a z ++ X)) hρ).symm
  have c_1 : ¬ (x3 = 0) := c_1
  refine lv_aload_n hx hb dX6_hear_4 rfl (lv_at hl 0 rfl) ?_
  refine va_get (v := .ref (a 0)) (C := RX6) (T := TX6) (N := 6) (ci := 6) hx hb hts hinX6 hown hK hP 0 rfl rfl 0 (by decide) (hts (.fieldLink RX6 7 "AxleKeeperModel" "w" "[I") (by decide +kernel)) (fun _ h9 => h9) rfl dX6_hear_5 ?_
  refine lv_iload_n hx hb dX6_hear_8 rfl (lv_at hl 1 rfl) ?_
  refine lv_bipush (v := 55) hx hb dX6_hear_9 (by decide) ?_
  refine lv_iadd hx hb dX6_hear_11 ?_
  refine lv_iload_n hx hb dX6_hear_12 rfl (lv_at hl 2 rfl) ?_
  refine lv_iadd hx hb dX6_hear_13 ?_
  refine lv_aload_n hx hb dX6_hear_14 rfl (lv_at hl 0 rfl) ?_
  refine va_get (v := .ref (a 0)) (C := RX6) (T := TX6) (N := 6) (ci := 6) hx hb hts hinX6 hown hK hP 0 rfl rfl 0 (by decide) (hts (.fieldLink RX6 7 "AxleKeeperModel" "w" "[I") (by decide +kernel)) (fun _ h9 => h9) rfl dX6_hear_15 ?_
  refine lv_iload_n hx hb dX6_hear_18 rfl (lv_at hl 1 rfl) ?_
  refine lv_bipush (v := 55) hx hb dX6_hear_19 (by decide) ?_
  refine lv_iadd hx hb dX6_hear_21 ?_
  refine lv_iload_n hx hb dX6_hear_22 rfl (lv_at hl 2 rfl) ?_
  refine lv_iadd hx hb dX6_hear_23 ?_
  refine va_iald hx hb hK hP 1 0 rfl rfl (n := 1680) (vin3 (by assumption) (by assumption) (by decide)) dX6_hear_24 ?_
  refine lv_bipush (v := 99) hx hb dX6_hear_25 (by decide) ?_
  refine lv_icmp_ge (tgt := 46) hx hb dX6_hear_27 (by decide) (fun c_27 => ?_) (fun c_27 => ?_)
  · have c_27 : 99 ≤ (f 0 (ix ((x1 + 55) + x2))) := c_27
    refine lv_bipush (v := 99) hx hb dX6_hear_46 (by decide) ?_
    refine st_M0 (x := 99) hx hb hK hP hD hS (vin3 (by assumption) (by assumption) (by decide)) dX6_hear_48 (fun H locs hP hD hS => ?_)
    have hρ : kX6_hear f x1 x2 x3 = (up2 f 0 (ix ((x1 + 55) + x2)) 99) := (if_neg c_1).trans ((if_pos c_27))
    exact e_wv hx hb hr hlk hK hP hD hS dX6_hear_49 (congrArg (fun z => (MW cI h a z ++ X)) hρ).symm
  have c_27 : ¬ (99 ≤ (f 0 (ix ((x1 + 55) + x2)))) := c_27
  refine lv_aload_n hx hb dX6_hear_30 rfl (lv_at hl 0 rfl) ?_
  refine va_get (v := .ref (a 0)) (C := RX6) (T := TX6) (N := 6) (ci := 6) hx hb hts hinX6 hown hK hP 0 rfl rfl 0 (by decide) (hts (.fieldLink RX6 7 "AxleKeeperModel" "w" "[I") (by decide +kernel)) (fun _ h9 => h9) rfl dX6_hear_31 ?_
  refine lv_iload_n hx hb dX6_hear_34 rfl (lv_at hl 1 rfl) ?_
  refine lv_bipush (v := 55) hx hb dX6_hear_35 (by decide) ?_
  refine lv_iadd hx hb dX6_hear_37 ?_
  refine lv_iload_n hx hb dX6_hear_38 rfl (lv_at hl 2 rfl) ?_
  refine lv_iadd hx hb dX6_hear_39 ?_
  refine va_iald hx hb hK hP 1 0 rfl rfl (n := 1680) (vin3 (by assumption) (by assumption) (by decide)) dX6_hear_40 ?_
  refine lv_iconst (v := 1) hx hb dX6_hear_41 (by decide) ?_
  refine lv_iadd hx hb dX6_hear_42 ?_
  refine lv_goto (tgt := 48) hx hb dX6_hear_43 (by decide) ?_
  refine st_M0 (x := ((f 0 (ix ((x1 + 55) + x2))) + 1)) hx hb hK hP hD hS (vin3 (by assumption) (by assumption) (by decide)) dX6_hear_48 (fun H locs hP hD hS => ?_)
  have hρ : kX6_hear f x1 x2 x3 = (up2 f 0 (ix ((x1 + 55) + x2)) ((f 0 (ix ((x1 + 55) + x2))) + 1)) := (if_neg c_1).trans ((if_neg c_27))
  exact e_wv hx hb hr hlk hK hP hD hS dX6_hear_49 (congrArg (fun z => (MW cI h a z ++ X)) hρ).symm
