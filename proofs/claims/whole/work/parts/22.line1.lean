theorem ndX3_heads : yX3_heads.cls = RX3 ∧ yX3_heads.cls ≠ "java/lang/invoke/MethodHandle" ∧ yX3_heads.cls ≠ "java/lang/invoke/VarHandle" ∧ (parseMethodDescriptor yX3_heads.desc).map (fun d => d.parameters.length) = some 0 := by decide +kernel
set_option maxHeartbeats 4000000 in
set_option maxRecDepth 100000 in
theorem okX3_heads (l : Launch) (D : va_G) (cI cZ cQ : ClassId) (h : Nat) (a : Nat → Nat) (X : va_W) (f : Nat → Nat → Int32) : Met l yX3_heads wsX3_heads ({ frames := 0, cells := 0, slots := 0, locals := 0 }) (PR [.ref h] D (TY cI cZ cQ) (LW cI h a f ++ X)) (QR (kX3_heads f)) 0 0 (fun _ => False) := by
  refine m_rd (cc := cX3_heads) (maxL := 1) (ret := (some .int)) (by decide) rfl (Nat.le_of_ble_eq_true rfl) (lv0 := [(0, .ref h)]) rfl ?_
  intro p e s m below meth c ls S hr hlk hP hK hl
  have S : CallFix p m c cX3_heads 1 s ([.ref h] : List Value).toArray wsX3_heads RX3 := S
  have hx := S.1
  have hb := S.2.1
  have hown : s.vm.findClass RX3 = some m.cls := S.2.2.2.1
  have hts := S.2.2.2.2
  have hinX3 : ∀ w ∈ wsX30, w ∈ wsX3_heads := by decide +kernel
  refine lv_aload_n hx hb dX3_heads_0 rfl (lv_at hl 0 rfl) ?_
  refine va_get (v := .int (f 1 0)) (C := RX3) (T := TX3) (N := 15) (ci := 3) hx hb hts hinX3 hown hK hP 0 rfl rfl 1 (by decide) (hts (.fieldLink RX3 52 "AxleKeeper$Line" "ring" "Z") (by decide +kernel)) (fun _ h9 => h9) rfl dX3_heads_1 ?_
  refine lv_if_eq (tgt := 14) hx hb dX3_heads_4 (by decide) (fun c_4 => ?_) (fun c_4 => ?_)
  · have c_4 : (f 1 0) = 0 := c_4
    refine lv_aload_n hx hb dX3_heads_14 rfl (lv_at hl 0 rfl) ?_
    refine va_get (v := .int (f 0 0)) (C := RX3) (T := TX3) (N := 15) (ci := 3) hx hb hts hinX3 hown hK hP 0 rfl rfl 0 (by decide) (hts (.fieldLink RX3 48 "AxleKeeper$Line" "sections" "I") (by decide +kernel)) (fun _ h9 => h9) rfl dX3_heads_15 ?_
    refine lv_iconst (v := 1) hx hb dX3_heads_18 (by decide) ?_
    refine lv_iadd hx hb dX3_heads_19 ?_
    have hρ : kX3_heads f = ((f 0 0) + 1) := (if_pos c_4)
    exact e_rd hx hb hr hlk dX3_heads_20 hρ.symm
  have c_4 : ¬ ((f 1 0) = 0) := c_4
  refine lv_aload_n hx hb dX3_heads_7 rfl (lv_at hl 0 rfl) ?_
  refine va_get (v := .int (f 0 0)) (C := RX3) (T := TX3) (N := 15) (ci := 3) hx hb hts hinX3 hown hK hP 0 rfl rfl 0 (by decide) (hts (.fieldLink RX3 48 "AxleKeeper$Line" "sections" "I") (by decide +kernel)) (fun _ h9 => h9) rfl dX3_heads_8 ?_
  refine lv_goto (tgt := 20) hx hb dX3_heads_11 (by decide) ?_
  have hρ : kX3_heads f = (f 0 0) := (if_neg c_4)
  exact e_rd hx hb hr hlk dX3_heads_20 hρ.symm
theorem ndX3_hasSection : yX3_hasSection.cls = RX3 ∧ yX3_hasSection.cls ≠ "java/lang/invoke/MethodHandle" ∧ yX3_hasSection.cls ≠ "java/lang/invoke/VarHandle" ∧ (parseMethodDescriptor yX3_hasSection.desc).map (fun d => d.parameters.length) = some 1 := by decide +kernel
set_option maxHeartbeats 4000000 in
set_option maxRecDepth 100000 in
theorem okX3_hasSection (l : Launch) (D : va_G) (cI cZ cQ : ClassId) (h : Nat) (a : Nat → Nat) (X : va_W) (f : Nat → Nat → Int32) (x1 : Int32) : Met l yX3_hasSection wsX3_hasSection ({ frames := 0, cells := 0, slots := 0, locals := 0 }) (PR [.ref h, .int x1] D (TY cI cZ cQ) (LW cI h a f ++ X)) (QR (kX3_hasSection f x1)) 0 0 (fun _ => False) := by
  refine m_rd (cc := cX3_hasSection) (maxL := 2) (ret := (some .boolean)) (by decide) rfl (Nat.le_of_ble_eq_true rfl) (lv0 := [(0, .ref h), (1, .int x1)]) rfl ?_
  intro p e s m below meth c ls S hr hlk hP hK hl
  have S : CallFix p m c cX3_hasSection 2 s ([.ref h, .int x1] : List Value).toArray wsX3_hasSection RX3 := S
  have hx := S.1
  have hb := S.2.1
  have hown : s.vm.findClass RX3 = some m.cls := S.2.2.2.1
  have hts := S.2.2.2.2
  have hinX3 : ∀ w ∈ wsX30, w ∈ wsX3_hasSection := by decide +kernel
  refine lv_iload_n hx hb dX3_hasSection_0 rfl (lv_at hl 1 rfl) ?_
  refine lv_if_lt (tgt := 16) hx hb dX3_hasSection_1 (by decide) (fun c_1 => ?_) (fun c_1 => ?_)
  · have c_1 : x1 < 0 := c_1
    refine lv_iconst (v := 0) hx hb dX3_hasSection_16 (by decide) ?_
    have hρ : kX3_hasSection f x1 = 0 := (if_pos c_1)
    exact e_rz hx hb hr hlk dX3_hasSection_17 rfl hρ.symm
  have c_1 : ¬ (x1 < 0) := c_1
  refine lv_iload_n hx hb dX3_hasSection_4 rfl (lv_at hl 1 rfl) ?_
  refine lv_aload_n hx hb dX3_hasSection_5 rfl (lv_at hl 0 rfl) ?_
  refine va_get (v := .int (f 0 0)) (C := RX3) (T := TX3) (N := 15) (ci := 3) hx hb hts hinX3 hown hK hP 0 rfl rfl 0 (by decide) (hts (.fieldLink RX3 48 "AxleKeeper$Line" "sections" "I") (by decide +kernel)) (fun _ h9 => h9) rfl dX3_hasSection_6 ?_
  refine lv_icmp_ge (tgt := 16) hx hb dX3_hasSection_9 (by decide) (fun c_9 => ?_) (fun c_9 => ?_)
  · have c_9 : (f 0 0) ≤ x1 := c_9
    refine lv_iconst (v := 0) hx hb dX3_hasSection_16 (by decide) ?_
    have hρ : kX3_hasSection f x1 = 0 := (if_neg c_1).trans ((if_pos c_9))
    exact e_rz hx hb hr hlk dX3_hasSection_17 rfl hρ.symm
  have c_9 : ¬ ((f 0 0) ≤ x1) := c_9
  refine lv_iconst (v := 1) hx hb dX3_hasSection_12 (by decide) ?_
  refine lv_goto (tgt := 17) hx hb dX3_hasSection_13 (by decide) ?_
  have hρ : kX3_hasSection f x1 = 1 := (if_neg c_1).trans ((if_neg c_9))
  exact e_rz hx hb hr hlk dX3_hasSection_17 rfl hρ.symm
theorem ndX3_hasHead : yX3_hasHead.cls = RX3 ∧ yX3_hasHead.cls ≠ "java/lang/invoke/MethodHandle" ∧ yX3_hasHead.cls ≠ "java/lang/invoke/VarHandle" ∧ (parseMethodDescriptor yX3_hasHead.desc).map (fun d => d.parameters.length) = some 1 := by decide +kernel
set_option maxHeartbeats 4000000 in
set_option maxRecDepth 100000 in
theorem okX3_hasHead (l : Launch) (D : va_G) (cI cZ cQ : ClassId) (h : Nat) (a : Nat → Nat) (X : va_W) (f : Nat → Nat → Int32) (x1 : Int32) : Met l yX3_hasHead wsX3_hasHead ({ frames := 1, cells := 0, slots := 0, locals := 20 }) (PR [.ref h, .int x1] D (TY cI cZ cQ) (LW cI h a f ++ X)) (QR (kX3_hasHead f x1)) 0 0 (fun _ => False) := by
  refine m_rd (cc := cX3_hasHead) (maxL := 2) (ret := (some .boolean)) (by decide) rfl (Nat.le_of_ble_eq_true rfl) (lv0 := [(0, .ref h), (1, .int x1)]) rfl ?_
  intro p e s m below meth c ls S hr hlk hP hK hl
  have S : CallFix p m c cX3_hasHead 2 s ([.ref h, .int x1] : List Value).toArray wsX3_hasHead RX3 := S
  have hx := S.1
  have hb := S.2.1
  have hown : s.vm.findClass RX3 = some m.cls := S.2.2.2.1
  have hts := S.2.2.2.2
  refine lv_iload_n hx hb dX3_hasHead_0 rfl (lv_at hl 1 rfl) ?_
  refine lv_if_lt (tgt := 16) hx hb dX3_hasHead_1 (by decide) (fun c_1 => ?_) (fun c_1 => ?_)
  · have c_1 : x1 < 0 := c_1
    refine lv_iconst (v := 0) hx hb dX3_hasHead_16 (by decide) ?_
    have hρ : kX3_hasHead f x1 = 0 := (if_pos c_1)
    exact e_rz hx hb hr hlk dX3_hasHead_17 rfl hρ.symm
  have c_1 : ¬ (x1 < 0) := c_1
  refine lv_iload_n hx hb dX3_hasHead_4 rfl (lv_at hl 1 rfl) ?_
  refine lv_aload_n hx hb dX3_hasHead_5 rfl (lv_at hl 0 rfl) ?_
  refine k_rd (As := []) (rest := [.int x1]) (bytes := cX3_heads) (C := RX3) S (okX3_heads l D cI cZ cQ h a X f ) gX3_hasHead_X3_heads rfl ⟨rfl, rfl⟩ ndX3_heads ⟨Nat.le_of_ble_eq_true rfl, Nat.le_of_ble_eq_true rfl⟩ hK hP 0 rfl rfl rfl hl rfl (Nat.le_of_ble_eq_true rfl) dX3_hasHead_6 ⟨Nat.zero_le _, Nat.zero_le _⟩ ?_
  refine lv_icmp_ge (tgt := 16) hx hb dX3_hasHead_9 (by decide) (fun c_9 => ?_) (fun c_9 => ?_)
  · have c_9 : (kX3_heads f) ≤ x1 := c_9
    refine lv_iconst (v := 0) hx hb dX3_hasHead_16 (by decide) ?_
    have hρ : kX3_hasHead f x1 = 0 := (if_neg c_1).trans ((if_pos c_9))
    exact e_rz hx hb hr hlk dX3_hasHead_17 rfl hρ.symm
  have c_9 : ¬ ((kX3_heads f) ≤ x1) := c_9
  refine lv_iconst (v := 1) hx hb dX3_hasHead_12 (by decide) ?_
  refine lv_goto (tgt := 17) hx hb dX3_hasHead_13 (by decide) ?_
  have hρ : kX3_hasHead f x1 = 1 := (if_neg c_1).trans ((if_neg c_9))
  exact e_rz hx hb hr hlk dX3_hasHead_17 rfl hρ.symm
theorem ndX3_hasHeads : yX3_hasHeads.cls = RX3 ∧ yX3_hasHeads.cls ≠ "java/lang/invoke/MethodHandle" ∧ yX3_hasHeads.cls ≠ "java/lang/invoke/VarHandle" ∧ (parseMethodDescriptor yX3_hasHeads.desc).map (fun d => d.parameters.length) = some 1 := by decide +kernel
set_option maxHeartbeats 4000000 in
set_option maxRecDepth 100000 in
theorem okX3_hasHeads (l : Launch) (D : va_G) (cI cZ cQ : ClassId) (h : Nat) (a : Nat → Nat) (X : va_W) (f : Nat → Nat → Int32) (x1 : Int32) : Met l yX3_hasHeads wsX3_hasHeads ({ frames := 1, cells := 0, slots := 0, locals := 20 }) (PR [.ref h, .int x1] D (TY cI cZ cQ) (LW cI h a f ++ X)) (QR (kX3_hasHeads f x1)) 0 0 (fun _ => False) := by
  refine m_rd (cc := cX3_hasHeads) (maxL := 2) (ret := (some .boolean)) (by decide) rfl (Nat.le_of_ble_eq_true rfl) (lv0 := [(0, .ref h), (1, .int x1)]) rfl ?_
  intro p e s m below meth c ls S hr hlk hP hK hl
  have S : CallFix p m c cX3_hasHeads 2 s ([.ref h, .int x1] : List Value).toArray wsX3_hasHeads RX3 := S
  have hx := S.1
  have hb := S.2.1
  have hown : s.vm.findClass RX3 = some m.cls := S.2.2.2.1
  have hts := S.2.2.2.2
  refine lv_iload_n hx hb dX3_hasHeads_0 rfl (lv_at hl 1 rfl) ?_
  refine lv_aload_n hx hb dX3_hasHeads_1 rfl (lv_at hl 0 rfl) ?_
  refine k_rd (As := []) (rest := [.int x1]) (bytes := cX3_heads) (C := RX3) S (okX3_heads l D cI cZ cQ h a X f ) gX3_hasHeads_X3_heads rfl ⟨rfl, rfl⟩ ndX3_heads ⟨Nat.le_of_ble_eq_true rfl, Nat.le_of_ble_eq_true rfl⟩ hK hP 0 rfl rfl rfl hl rfl (Nat.le_of_ble_eq_true rfl) dX3_hasHeads_2 ⟨Nat.zero_le _, Nat.zero_le _⟩ ?_
  refine lv_iushr hx hb dX3_hasHeads_5 rfl ?_
  refine lv_if_ne (tgt := 13) hx hb dX3_hasHeads_6 (by decide) (fun c_6 => ?_) (fun c_6 => ?_)
  · have c_6 : ¬ (((x1).toUInt32 >>> (((kX3_heads f)).toUInt32 &&& Int32.toUInt32 31)).toInt32 = 0) := c_6
    refine lv_iconst (v := 0) hx hb dX3_hasHeads_13 (by decide) ?_
    have hρ : kX3_hasHeads f x1 = 0 := (if_neg c_6)
    exact e_rz hx hb hr hlk dX3_hasHeads_14 rfl hρ.symm
  have c_6 : ((x1).toUInt32 >>> (((kX3_heads f)).toUInt32 &&& Int32.toUInt32 31)).toInt32 = 0 := c_6
  refine lv_iconst (v := 1) hx hb dX3_hasHeads_9 (by decide) ?_
  refine lv_goto (tgt := 14) hx hb dX3_hasHeads_10 (by decide) ?_
  have hρ : kX3_hasHeads f x1 = 1 := (if_pos c_6)
  exact e_rz hx hb hr hlk dX3_hasHeads_14 rfl hρ.symm
theorem ndX3_leftOf : yX3_leftOf.cls = RX3 ∧ yX3_leftOf.cls ≠ "java/lang/invoke/MethodHandle" ∧ yX3_leftOf.cls ≠ "java/lang/invoke/VarHandle" ∧ (parseMethodDescriptor yX3_leftOf.desc).map (fun d => d.parameters.length) = some 1 := by decide +kernel
set_option maxHeartbeats 4000000 in
set_option maxRecDepth 100000 in
theorem okX3_leftOf (l : Launch) (D : va_G) (cI cZ cQ : ClassId) (h : Nat) (a : Nat → Nat) (X : va_W) (f : Nat → Nat → Int32) (x1 : Int32) : Met l yX3_leftOf wsX3_leftOf ({ frames := 0, cells := 0, slots := 0, locals := 0 }) (PR [.ref h, .int x1] D (TY cI cZ cQ) (LW cI h a f ++ X)) (QR (kX3_leftOf f x1)) 0 0 (fun _ => False) := by
  refine m_rd (cc := cX3_leftOf) (maxL := 2) (ret := (some .int)) (by decide) rfl (Nat.le_of_ble_eq_true rfl) (lv0 := [(0, .ref h), (1, .int x1)]) rfl ?_
  intro p e s m below meth c ls S hr hlk hP hK hl
  have S : CallFix p m c cX3_leftOf 2 s ([.ref h, .int x1] : List Value).toArray wsX3_leftOf RX3 := S
  have hx := S.1
  have hb := S.2.1
  have hown : s.vm.findClass RX3 = some m.cls := S.2.2.2.1
  have hts := S.2.2.2.2
  have hinX3 : ∀ w ∈ wsX30, w ∈ wsX3_leftOf := by decide +kernel
  refine lv_iload_n hx hb dX3_leftOf_0 rfl (lv_at hl 1 rfl) ?_
  refine lv_if_le (tgt := 8) hx hb dX3_leftOf_1 (by decide) (fun c_1 => ?_) (fun c_1 => ?_)
  · have c_1 : x1 ≤ 0 := c_1
    refine lv_aload_n hx hb dX3_leftOf_8 rfl (lv_at hl 0 rfl) ?_
    refine va_get (v := .int (f 1 0)) (C := RX3) (T := TX3) (N := 15) (ci := 3) hx hb hts hinX3 hown hK hP 0 rfl rfl 1 (by decide) (hts (.fieldLink RX3 52 "AxleKeeper$Line" "ring" "Z") (by decide +kernel)) (fun _ h9 => h9) rfl dX3_leftOf_9 ?_
    refine lv_if_eq (tgt := 24) hx hb dX3_leftOf_12 (by decide) (fun c_12 => ?_) (fun c_12 => ?_)
    · have c_12 : (f 1 0) = 0 := c_12
      refine lv_iconst (v := (-1)) hx hb dX3_leftOf_24 (by decide) ?_
      have hρ : kX3_leftOf f x1 = (-1) := (if_pos c_1).trans ((if_pos c_12))
      exact e_rd hx hb hr hlk dX3_leftOf_25 hρ.symm
    have c_12 : ¬ ((f 1 0) = 0) := c_12
    refine lv_aload_n hx hb dX3_leftOf_15 rfl (lv_at hl 0 rfl) ?_
    refine va_get (v := .int (f 0 0)) (C := RX3) (T := TX3) (N := 15) (ci := 3) hx hb hts hinX3 hown hK hP 0 rfl rfl 0 (by decide) (hts (.fieldLink RX3 48 "AxleKeeper$Line" "sections" "I") (by decide +kernel)) (fun _ h9 => h9) rfl dX3_leftOf_16 ?_
    refine lv_iconst (v := 1) hx hb dX3_leftOf_19 (by decide) ?_
    refine lv_isub hx hb dX3_leftOf_20 ?_
    refine lv_goto (tgt := 25) hx hb dX3_leftOf_21 (by decide) ?_
    have hρ : kX3_leftOf f x1 = ((f 0 0) - 1) := (if_pos c_1).trans ((if_neg c_12))
    exact e_rd hx hb hr hlk dX3_leftOf_25 hρ.symm
  have c_1 : ¬ (x1 ≤ 0) := c_1
  refine lv_iload_n hx hb dX3_leftOf_4 rfl (lv_at hl 1 rfl) ?_
  refine lv_iconst (v := 1) hx hb dX3_leftOf_5 (by decide) ?_
  refine lv_isub hx hb dX3_leftOf_6 ?_
  have hρ : kX3_leftOf f x1 = (x1 - 1) := (if_neg c_1)
  exact e_rd hx hb hr hlk dX3_leftOf_7 hρ.symm
theorem ndX3_rightOf : yX3_rightOf.cls = RX3 ∧ yX3_rightOf.cls ≠ "java/lang/invoke/MethodHandle" ∧ yX3_rightOf.cls ≠ "java/lang/invoke/VarHandle" ∧ (parseMethodDescriptor yX3_rightOf.desc).map (fun d => d.parameters.length) = some 1 := by decide +kernel
set_option maxHeartbeats 4000000 in
set_option maxRecDepth 100000 in
theorem okX3_rightOf (l : Launch) (D : va_G) (cI cZ cQ : ClassId) (h : Nat) (a : Nat → Nat) (X : va_W) (f : Nat → Nat → Int32) (x1 : Int32) : Met l yX3_rightOf wsX3_rightOf ({ frames := 0, cells := 0, slots := 0, locals := 0 }) (PR [.ref h, .int x1] D (TY cI cZ cQ) (LW cI h a f ++ X)) (QR (kX3_rightOf f x1)) 0 0 (fun _ => False) := by
  refine m_rd (cc := cX3_rightOf) (maxL := 2) (ret := (some .int)) (by decide) rfl (Nat.le_of_ble_eq_true rfl) (lv0 := [(0, .ref h), (1, .int x1)]) rfl ?_
  intro p e s m below meth c ls S hr hlk hP hK hl
  have S : CallFix p m c cX3_rightOf 2 s ([.ref h, .int x1] : List Value).toArray wsX3_rightOf RX3 := S
  have hx := S.1
  have hb := S.2.1
  have hown : s.vm.findClass RX3 = some m.cls := S.2.2.2.1
  have hts := S.2.2.2.2
  have hinX3 : ∀ w ∈ wsX30, w ∈ wsX3_rightOf := by decide +kernel
  refine lv_iload_n hx hb dX3_rightOf_0 rfl (lv_at hl 1 rfl) ?_
  refine lv_aload_n hx hb dX3_rightOf_1 rfl (lv_at hl 0 rfl) ?_
  refine va_get (v := .int (f 0 0)) (C := RX3) (T := TX3) (N := 15) (ci := 3) hx hb hts hinX3 hown hK hP 0 rfl rfl 0 (by decide) (hts (.fieldLink RX3 48 "AxleKeeper$Line" "sections" "I") (by decide +kernel)) (fun _ h9 => h9) rfl dX3_rightOf_2 ?_
  refine lv_icmp_ge (tgt := 12) hx hb dX3_rightOf_5 (by decide) (fun c_5 => ?_) (fun c_5 => ?_)
  · have c_5 : (f 0 0) ≤ x1 := c_5
    refine lv_iconst (v := (-1)) hx hb dX3_rightOf_12 (by decide) ?_
    have hρ : kX3_rightOf f x1 = (-1) := (if_pos c_5)
    exact e_rd hx hb hr hlk dX3_rightOf_13 hρ.symm
  have c_5 : ¬ ((f 0 0) ≤ x1) := c_5
  refine lv_iload_n hx hb dX3_rightOf_8 rfl (lv_at hl 1 rfl) ?_
  refine lv_goto (tgt := 13) hx hb dX3_rightOf_9 (by decide) ?_
  have hρ : kX3_rightOf f x1 = x1 := (if_neg c_5)
  exact e_rd hx hb hr hlk dX3_rightOf_13 hρ.symm
theorem ndX3_rightHead : yX3_rightHead.cls = RX3 ∧ yX3_rightHead.cls ≠ "java/lang/invoke/MethodHandle" ∧ yX3_rightHead.cls ≠ "java/lang/invoke/VarHandle" ∧ (parseMethodDescriptor yX3_rightHead.desc).map (fun d => d.parameters.length) = some 1 := by decide +kernel
set_option maxHeartbeats 4000000 in
set_option maxRecDepth 100000 in
theorem okX3_rightHead (l : Launch) (D : va_G) (cI cZ cQ : ClassId) (h : Nat) (a : Nat → Nat) (X : va_W) (f : Nat → Nat → Int32) (x1 : Int32) : Met l yX3_rightHead wsX3_rightHead ({ frames := 0, cells := 0, slots := 0, locals := 0 }) (PR [.ref h, .int x1] D (TY cI cZ cQ) (LW cI h a f ++ X)) (QR (kX3_rightHead f x1)) 0 0 (fun _ => False) := by
  refine m_rd (cc := cX3_rightHead) (maxL := 2) (ret := (some .int)) (by decide) rfl (Nat.le_of_ble_eq_true rfl) (lv0 := [(0, .ref h), (1, .int x1)]) rfl ?_
  intro p e s m below meth c ls S hr hlk hP hK hl
  have S : CallFix p m c cX3_rightHead 2 s ([.ref h, .int x1] : List Value).toArray wsX3_rightHead RX3 := S
  have hx := S.1
  have hb := S.2.1
  have hown : s.vm.findClass RX3 = some m.cls := S.2.2.2.1
  have hts := S.2.2.2.2
  have hinX3 : ∀ w ∈ wsX30, w ∈ wsX3_rightHead := by decide +kernel
  refine lv_aload_n hx hb dX3_rightHead_0 rfl (lv_at hl 0 rfl) ?_
  refine va_get (v := .int (f 1 0)) (C := RX3) (T := TX3) (N := 15) (ci := 3) hx hb hts hinX3 hown hK hP 0 rfl rfl 1 (by decide) (hts (.fieldLink RX3 52 "AxleKeeper$Line" "ring" "Z") (by decide +kernel)) (fun _ h9 => h9) rfl dX3_rightHead_1 ?_
  refine lv_if_eq (tgt := 21) hx hb dX3_rightHead_4 (by decide) (fun c_4 => ?_) (fun c_4 => ?_)
  · have c_4 : (f 1 0) = 0 := c_4
    refine lv_iload_n hx hb dX3_rightHead_21 rfl (lv_at hl 1 rfl) ?_
    refine lv_iconst (v := 1) hx hb dX3_rightHead_22 (by decide) ?_
    refine lv_iadd hx hb dX3_rightHead_23 ?_
    have hρ : kX3_rightHead f x1 = (x1 + 1) := (if_pos c_4)
    exact e_rd hx hb hr hlk dX3_rightHead_24 hρ.symm
  have c_4 : ¬ ((f 1 0) = 0) := c_4
  refine lv_iload_n hx hb dX3_rightHead_7 rfl (lv_at hl 1 rfl) ?_
  refine lv_iconst (v := 1) hx hb dX3_rightHead_8 (by decide) ?_
  refine lv_iadd hx hb dX3_rightHead_9 ?_
  refine lv_aload_n hx hb dX3_rightHead_10 rfl (lv_at hl 0 rfl) ?_
  refine va_get (v := .int (f 0 0)) (C := RX3) (T := TX3) (N := 15) (ci := 3) hx hb hts hinX3 hown hK hP 0 rfl rfl 0 (by decide) (hts (.fieldLink RX3 48 "AxleKeeper$Line" "sections" "I") (by decide +kernel)) (fun _ h9 => h9) rfl dX3_rightHead_11 ?_
  refine lv_icmp_ne (tgt := 21) hx hb dX3_rightHead_14 (by decide) (fun c_14 => ?_) (fun c_14 => ?_)
  · have c_14 : ¬ ((x1 + 1) = (f 0 0)) := c_14
    refine lv_iload_n hx hb dX3_rightHead_21 rfl (lv_at hl 1 rfl) ?_
    refine lv_iconst (v := 1) hx hb dX3_rightHead_22 (by decide) ?_
    refine lv_iadd hx hb dX3_rightHead_23 ?_
    have hρ : kX3_rightHead f x1 = (x1 + 1) := (if_neg c_4).trans ((if_neg c_14))
    exact e_rd hx hb hr hlk dX3_rightHead_24 hρ.symm
  have c_14 : (x1 + 1) = (f 0 0) := c_14
  refine lv_iconst (v := 0) hx hb dX3_rightHead_17 (by decide) ?_
  refine lv_goto (tgt := 24) hx hb dX3_rightHead_18 (by decide) ?_
  have hρ : kX3_rightHead f x1 = 0 := (if_neg c_4).trans ((if_pos c_14))
  exact e_rd hx hb hr hlk dX3_rightHead_24 hρ.symm
theorem ndX3_joins : yX3_joins.cls = RX3 ∧ yX3_joins.cls ≠ "java/lang/invoke/MethodHandle" ∧ yX3_joins.cls ≠ "java/lang/invoke/VarHandle" ∧ (parseMethodDescriptor yX3_joins.desc).map (fun d => d.parameters.length) = some 1 := by decide +kernel
set_option maxHeartbeats 4000000 in
set_option maxRecDepth 100000 in
theorem okX3_joins (l : Launch) (D : va_G) (cI cZ cQ : ClassId) (h : Nat) (a : Nat → Nat) (X : va_W) (f : Nat → Nat → Int32) (x1 : Int32) : Met l yX3_joins wsX3_joins ({ frames := 1, cells := 0, slots := 0, locals := 21 }) (PR [.ref h, .int x1] D (TY cI cZ cQ) (LW cI h a f ++ X)) (QR (kX3_joins f x1)) 0 0 (fun _ => False) := by
  refine m_rd (cc := cX3_joins) (maxL := 4) (ret := (some .boolean)) (by decide) rfl (Nat.le_of_ble_eq_true rfl) (lv0 := [(0, .ref h), (1, .int x1)]) rfl ?_
  intro p e s m below meth c ls S hr hlk hP hK hl
  have S : CallFix p m c cX3_joins 4 s ([.ref h, .int x1] : List Value).toArray wsX3_joins RX3 := S
  have hx := S.1
  have hb := S.2.1
  have hown : s.vm.findClass RX3 = some m.cls := S.2.2.2.1
  have hts := S.2.2.2.2
  refine lv_aload_n hx hb dX3_joins_0 rfl (lv_at hl 0 rfl) ?_
  refine lv_iload_n hx hb dX3_joins_1 rfl (lv_at hl 1 rfl) ?_
  refine k_rd (As := [.int x1]) (rest := []) (bytes := cX3_leftOf) (C := RX3) S (okX3_leftOf l D cI cZ cQ h a X f x1) gX3_joins_X3_leftOf rfl ⟨rfl, rfl⟩ ndX3_leftOf ⟨Nat.le_of_ble_eq_true rfl, Nat.le_of_ble_eq_true rfl⟩ hK hP 0 rfl rfl rfl hl rfl (Nat.le_of_ble_eq_true rfl) dX3_joins_2 ⟨Nat.zero_le _, Nat.zero_le _⟩ ?_
  refine lv_istore_n (lv' := [(2, .int (kX3_leftOf f x1)), (0, .ref h), (1, .int x1)]) hx hb dX3_joins_5 rfl hl (by decide) rfl (fun ls hl => ?_)
  refine lv_aload_n hx hb dX3_joins_6 rfl (lv_at hl 1 rfl) ?_
  refine lv_iload_n hx hb dX3_joins_7 rfl (lv_at hl 2 rfl) ?_
  refine k_rd (As := [.int x1]) (rest := []) (bytes := cX3_rightOf) (C := RX3) S (okX3_rightOf l D cI cZ cQ h a X f x1) gX3_joins_X3_rightOf rfl ⟨rfl, rfl⟩ ndX3_rightOf ⟨Nat.le_of_ble_eq_true rfl, Nat.le_of_ble_eq_true rfl⟩ hK hP 0 rfl rfl rfl hl rfl (Nat.le_of_ble_eq_true rfl) dX3_joins_8 ⟨Nat.zero_le _, Nat.zero_le _⟩ ?_
  refine lv_istore_n (lv' := [(3, .int (kX3_rightOf f x1)), (2, .int (kX3_leftOf f x1)), (0, .ref h), (1, .int x1)]) hx hb dX3_joins_11 rfl hl (by decide) rfl (fun ls hl => ?_)
  refine lv_aload_n hx hb dX3_joins_12 rfl (lv_at hl 2 rfl) ?_
  refine lv_iload_n hx hb dX3_joins_13 rfl (lv_at hl 1 rfl) ?_
  refine k_rd (As := [.int (kX3_leftOf f x1)]) (rest := []) (bytes := cX3_hasSection) (C := RX3) S (okX3_hasSection l D cI cZ cQ h a X f (kX3_leftOf f x1)) gX3_joins_X3_hasSection rfl ⟨rfl, rfl⟩ ndX3_hasSection ⟨Nat.le_of_ble_eq_true rfl, Nat.le_of_ble_eq_true rfl⟩ hK hP 0 rfl rfl rfl hl rfl (Nat.le_of_ble_eq_true rfl) dX3_joins_14 ⟨Nat.zero_le _, Nat.zero_le _⟩ ?_
  refine lv_if_eq (tgt := 37) hx hb dX3_joins_17 (by decide) (fun c_17 => ?_) (fun c_17 => ?_)
  · have c_17 : (kX3_hasSection f (kX3_leftOf f x1)) = 0 := c_17
    refine lv_iconst (v := 0) hx hb dX3_joins_37 (by decide) ?_
    have hρ : kX3_joins f x1 = 0 := (if_pos c_17)
    exact e_rz hx hb hr hlk dX3_joins_38 rfl hρ.symm
  have c_17 : ¬ ((kX3_hasSection f (kX3_leftOf f x1)) = 0) := c_17
  refine lv_aload_n hx hb dX3_joins_20 rfl (lv_at hl 2 rfl) ?_
  refine lv_iload_n hx hb dX3_joins_21 rfl (lv_at hl 0 rfl) ?_
  refine k_rd (As := [.int (kX3_rightOf f x1)]) (rest := []) (bytes := cX3_hasSection) (C := RX3) S (okX3_hasSection l D cI cZ cQ h a X f (kX3_rightOf f x1)) gX3_joins_X3_hasSection rfl ⟨rfl, rfl⟩ ndX3_hasSection ⟨Nat.le_of_ble_eq_true rfl, Nat.le_of_ble_eq_true rfl⟩ hK hP 0 rfl rfl rfl hl rfl (Nat.le_of_ble_eq_true rfl) dX3_joins_22 ⟨Nat.zero_le _, Nat.zero_le _⟩ ?_
  refine lv_if_eq (tgt := 37) hx hb dX3_joins_25 (by decide) (fun c_25 => ?_) (fun c_25 => ?_)
  · have c_25 : (kX3_hasSection f (kX3_rightOf f x1)) = 0 := c_25
    refine lv_iconst (v := 0) hx hb dX3_joins_37 (by decide) ?_
    have hρ : kX3_joins f x1 = 0 := (if_neg c_17).trans ((if_pos c_25))
    exact e_rz hx hb hr hlk dX3_joins_38 rfl hρ.symm
  have c_25 : ¬ ((kX3_hasSection f (kX3_rightOf f x1)) = 0) := c_25
  refine lv_iload_n hx hb dX3_joins_28 rfl (lv_at hl 1 rfl) ?_
  refine lv_iload_n hx hb dX3_joins_29 rfl (lv_at hl 0 rfl) ?_
  refine lv_icmp_eq (tgt := 37) hx hb dX3_joins_30 (by decide) (fun c_30 => ?_) (fun c_30 => ?_)
  · have c_30 : (kX3_leftOf f x1) = (kX3_rightOf f x1) := c_30
    refine lv_iconst (v := 0) hx hb dX3_joins_37 (by decide) ?_
    have hρ : kX3_joins f x1 = 0 := (if_neg c_17).trans ((if_neg c_25).trans ((if_pos c_30)))
    exact e_rz hx hb hr hlk dX3_joins_38 rfl hρ.symm
  have c_30 : ¬ ((kX3_leftOf f x1) = (kX3_rightOf f x1)) := c_30
  refine lv_iconst (v := 1) hx hb dX3_joins_33 (by decide) ?_
  refine lv_goto (tgt := 38) hx hb dX3_joins_34 (by decide) ?_
  have hρ : kX3_joins f x1 = 1 := (if_neg c_17).trans ((if_neg c_25).trans ((if_neg c_30)))
  exact e_rz hx hb hr hlk dX3_joins_38 rfl hρ.symm
theorem ndX3_feelsAll : yX3_feelsAll.cls = RX3 ∧ yX3_feelsAll.cls ≠ "java/lang/invoke/MethodHandle" ∧ yX3_feelsAll.cls ≠ "java/lang/invoke/VarHandle" ∧ (parseMethodDescriptor yX3_feelsAll.desc).map (fun d => d.parameters.length) = some 1 := by decide +kernel
set_option maxHeartbeats 4000000 in
set_option maxRecDepth 100000 in
theorem okX3_feelsAll (l : Launch) (D : va_G) (cI cZ cQ : ClassId) (h : Nat) (a : Nat → Nat) (X : va_W) (f : Nat → Nat → Int32) (x1 : Int32) (h1 : vp_in x1 7) : Met l yX3_feelsAll wsX3_feelsAll ({ frames := 0, cells := 0, slots := 0, locals := 0 }) (PR [.ref h, .int x1] D (TY cI cZ cQ) (LW cI h a f ++ X)) (QR (kX3_feelsAll f x1)) 0 0 (fun _ => False) := by
  refine m_rd (cc := cX3_feelsAll) (maxL := 2) (ret := (some .boolean)) (by decide) rfl (Nat.le_of_ble_eq_true rfl) (lv0 := [(0, .ref h), (1, .int x1)]) rfl ?_
  intro p e s m below meth c ls S hr hlk hP hK hl
  have S : CallFix p m c cX3_feelsAll 2 s ([.ref h, .int x1] : List Value).toArray wsX3_feelsAll RX3 := S
  have hx := S.1
  have hb := S.2.1
  have hown : s.vm.findClass RX3 = some m.cls := S.2.2.2.1
  have hts := S.2.2.2.2
  have hinX3 : ∀ w ∈ wsX30, w ∈ wsX3_feelsAll := by decide +kernel
  refine lv_aload_n hx hb dX3_feelsAll_0 rfl (lv_at hl 0 rfl) ?_
  refine va_get (v := .ref (a 6)) (C := RX3) (T := TX3) (N := 15) (ci := 3) hx hb hts hinX3 hown hK hP 0 rfl rfl 6 (by decide) (hts (.fieldLink RX3 21 "AxleKeeper$Line" "faulty" "[I") (by decide +kernel)) (fun _ h9 => h9) rfl dX3_feelsAll_1 ?_
  refine lv_iload_n hx hb dX3_feelsAll_4 rfl (lv_at hl 1 rfl) ?_
  refine va_iald hx hb hK hP 4 0 rfl rfl (n := 7) (by assumption) dX3_feelsAll_5 ?_
  refine lv_if_ne (tgt := 22) hx hb dX3_feelsAll_6 (by decide) (fun c_6 => ?_) (fun c_6 => ?_)
  · have c_6 : ¬ ((f 6 (ix x1)) = 0) := c_6
    refine lv_iconst (v := 0) hx hb dX3_feelsAll_22 (by decide) ?_
    have hρ : kX3_feelsAll f x1 = 0 := (if_neg c_6)
    exact e_rz hx hb hr hlk dX3_feelsAll_23 rfl hρ.symm
  have c_6 : (f 6 (ix x1)) = 0 := c_6
  refine lv_aload_n hx hb dX3_feelsAll_9 rfl (lv_at hl 0 rfl) ?_
  refine va_get (v := .ref (a 3)) (C := RX3) (T := TX3) (N := 15) (ci := 3) hx hb hts hinX3 hown hK hP 0 rfl rfl 3 (by decide) (hts (.fieldLink RX3 11 "AxleKeeper$Line" "state" "[I") (by decide +kernel)) (fun _ h9 => h9) rfl dX3_feelsAll_10 ?_
  refine lv_iload_n hx hb dX3_feelsAll_13 rfl (lv_at hl 1 rfl) ?_
  refine va_iald hx hb hK hP 1 0 rfl rfl (n := 7) (by assumption) dX3_feelsAll_14 ?_
  refine lv_if_ne (tgt := 22) hx hb dX3_feelsAll_15 (by decide) (fun c_15 => ?_) (fun c_15 => ?_)
  · have c_15 : ¬ ((f 3 (ix x1)) = 0) := c_15
    refine lv_iconst (v := 0) hx hb dX3_feelsAll_22 (by decide) ?_
    have hρ : kX3_feelsAll f x1 = 0 := (if_pos c_6).trans ((if_neg c_15))
    exact e_rz hx hb hr hlk dX3_feelsAll_23 rfl hρ.symm
  have c_15 : (f 3 (ix x1)) = 0 := c_15
  refine lv_iconst (v := 1) hx hb dX3_feelsAll_18 (by decide) ?_
  refine lv_goto (tgt := 23) hx hb dX3_feelsAll_19 (by decide) ?_
  have hρ : kX3_feelsAll f x1 = 1 := (if_pos c_6).trans ((if_pos c_15))
  exact e_rz hx hb hr hlk dX3_feelsAll_23 rfl hρ.symm
theorem ndX3_from : yX3_from.cls = RX3 ∧ yX3_from.cls ≠ "java/lang/invoke/MethodHandle" ∧ yX3_from.cls ≠ "java/lang/invoke/VarHandle" ∧ (parseMethodDescriptor yX3_from.desc).map (fun d => d.parameters.length) = some 2 := by decide +kernel
set_option maxHeartbeats 4000000 in
set_option maxRecDepth 100000 in
theorem okX3_from (l : Launch) (D : va_G) (cI cZ cQ : ClassId) (h : Nat) (a : Nat → Nat) (X : va_W) (f : Nat → Nat → Int32) (x1 x2 : Int32) : Met l yX3_from wsX3_from ({ frames := 1, cells := 0, slots := 0, locals := 21 }) (PR [.ref h, .int x1, .int x2] D (TY cI cZ cQ) (LW cI h a f ++ X)) (QR (kX3_from f x1 x2)) 0 0 (fun _ => False) := by
  refine m_rd (cc := cX3_from) (maxL := 3) (ret := (some .int)) (by decide) rfl (Nat.le_of_ble_eq_true rfl) (lv0 := [(0, .ref h), (1, .int x1), (2, .int x2)]) rfl ?_
  intro p e s m below meth c ls S hr hlk hP hK hl
  have S : CallFix p m c cX3_from 3 s ([.ref h, .int x1, .int x2] : List Value).toArray wsX3_from RX3 := S
  have hx := S.1
  have hb := S.2.1
  have hown : s.vm.findClass RX3 = some m.cls := S.2.2.2.1
  have hts := S.2.2.2.2
  refine lv_iload_n hx hb dX3_from_0 rfl (lv_at hl 2 rfl) ?_
  refine lv_if_ne (tgt := 12) hx hb dX3_from_1 (by decide) (fun c_1 => ?_) (fun c_1 => ?_)
  · have c_1 : ¬ (x2 = 0) := c_1
    refine lv_aload_n hx hb dX3_from_12 rfl (lv_at hl 0 rfl) ?_
    refine lv_iload_n hx hb dX3_from_13 rfl (lv_at hl 1 rfl) ?_
    refine k_rd (As := [.int x1]) (rest := []) (bytes := cX3_rightOf) (C := RX3) S (okX3_rightOf l D cI cZ cQ h a X f x1) gX3_from_X3_rightOf rfl ⟨rfl, rfl⟩ ndX3_rightOf ⟨Nat.le_of_ble_eq_true rfl, Nat.le_of_ble_eq_true rfl⟩ hK hP 0 rfl rfl rfl hl rfl (Nat.le_of_ble_eq_true rfl) dX3_from_14 ⟨Nat.zero_le _, Nat.zero_le _⟩ ?_
    have hρ : kX3_from f x1 x2 = (kX3_rightOf f x1) := (if_neg c_1)
    exact e_rd hx hb hr hlk dX3_from_17 hρ.symm
  have c_1 : x2 = 0 := c_1
  refine lv_aload_n hx hb dX3_from_4 rfl (lv_at hl 0 rfl) ?_
  refine lv_iload_n hx hb dX3_from_5 rfl (lv_at hl 1 rfl) ?_
  refine k_rd (As := [.int x1]) (rest := []) (bytes := cX3_leftOf) (C := RX3) S (okX3_leftOf l D cI cZ cQ h a X f x1) gX3_from_X3_leftOf rfl ⟨rfl, rfl⟩ ndX3_leftOf ⟨Nat.le_of_ble_eq_true rfl, Nat.le_of_ble_eq_true rfl⟩ hK hP 0 rfl rfl rfl hl rfl (Nat.le_of_ble_eq_true rfl) dX3_from_6 ⟨Nat.zero_le _, Nat.zero_le _⟩ ?_
  refine lv_goto (tgt := 17) hx hb dX3_from_9 (by decide) ?_
  have hρ : kX3_from f x1 x2 = (kX3_leftOf f x1) := (if_pos c_1)
  exact e_rd hx hb hr hlk dX3_from_17 hρ.symm
theorem ndX3_canCarry : yX3_canCarry.cls = RX3 ∧ yX3_canCarry.cls ≠ "java/lang/invoke/MethodHandle" ∧ yX3_canCarry.cls ≠ "java/lang/invoke/VarHandle" ∧ (parseMethodDescriptor yX3_canCarry.desc).map (fun d => d.parameters.length) = some 3 := by decide +kernel
set_option maxHeartbeats 4000000 in
set_option maxRecDepth 100000 in
theorem okX3_canCarry (l : Launch) (D : va_G) (cI cZ cQ : ClassId) (h : Nat) (a : Nat → Nat) (X : va_W) (f : Nat → Nat → Int32) (x1 x2 x3 : Int32) (hok : okL f) : Met l yX3_canCarry wsX3_canCarry ({ frames := 2, cells := 0, slots := 0, locals := 43 }) (PR [.ref h, .int x1, .int x2, .int x3] D (TY cI cZ cQ) (LW cI h a f ++ X)) (QR (kX3_canCarry f x1 x2 x3)) 0 0 (fun _ => False) := by
  refine m_rd (cc := cX3_canCarry) (maxL := 5) (ret := (some .boolean)) (by decide) rfl (Nat.le_of_ble_eq_true rfl) (lv0 := [(0, .ref h), (1, .int x1), (2, .int x2), (3, .int x3)]) rfl ?_
  intro p e s m below meth c ls S hr hlk hP hK hl
  have S : CallFix p m c cX3_canCarry 5 s ([.ref h, .int x1, .int x2, .int x3] : List Value).toArray wsX3_canCarry RX3 := S
  have hx := S.1
  have hb := S.2.1
  have hown : s.vm.findClass RX3 = some m.cls := S.2.2.2.1
  have hts := S.2.2.2.2
  have hinX3 : ∀ w ∈ wsX30, w ∈ wsX3_canCarry := by decide +kernel
  refine lv_aload_n hx hb dX3_canCarry_0 rfl (lv_at hl 0 rfl) ?_
  refine lv_iload_n hx hb dX3_canCarry_1 rfl (lv_at hl 1 rfl) ?_
  refine lv_iload_n hx hb dX3_canCarry_2 rfl (lv_at hl 2 rfl) ?_
  refine k_rd (As := [.int x1, .int x2]) (rest := []) (bytes := cX3_from) (C := RX3) S (okX3_from l D cI cZ cQ h a X f x1 x2) gX3_canCarry_X3_from rfl ⟨rfl, rfl⟩ ndX3_from ⟨Nat.le_of_ble_eq_true rfl, Nat.le_of_ble_eq_true rfl⟩ hK hP 0 rfl rfl rfl hl rfl (Nat.le_of_ble_eq_true rfl) dX3_canCarry_3 ⟨Nat.zero_le _, Nat.zero_le _⟩ ?_
  refine lv_istore (lv' := [(4, .int (kX3_from f x1 x2)), (0, .ref h), (1, .int x1), (2, .int x2), (3, .int x3)]) hx hb dX3_canCarry_6 hl (by decide) rfl (fun ls hl => ?_)
  refine lv_aload_n hx hb dX3_canCarry_8 rfl (lv_at hl 1 rfl) ?_
  refine lv_iload hx hb dX3_canCarry_9 (lv_at hl 0 rfl) ?_
  refine k_rd (As := [.int (kX3_from f x1 x2)]) (rest := []) (bytes := cX3_hasSection) (C := RX3) S (okX3_hasSection l D cI cZ cQ h a X f (kX3_from f x1 x2)) gX3_canCarry_X3_hasSection rfl ⟨rfl, rfl⟩ ndX3_hasSection ⟨Nat.le_of_ble_eq_true rfl, Nat.le_of_ble_eq_true rfl⟩ hK hP 0 rfl rfl rfl hl rfl (Nat.le_of_ble_eq_true rfl) dX3_canCarry_11 ⟨Nat.zero_le _, Nat.zero_le _⟩ ?_
  refine lv_if_eq (tgt := 28) hx hb dX3_canCarry_14 (by decide) (fun c_14 => ?_) (fun c_14 => ?_)
  · have c_14 : (kX3_hasSection f (kX3_from f x1 x2)) = 0 := c_14
    refine lv_iconst (v := 1) hx hb dX3_canCarry_28 (by decide) ?_
    refine lv_goto (tgt := 33) hx hb dX3_canCarry_29 (by decide) ?_
    have hρ : kX3_canCarry f x1 x2 x3 = 1 := (if_pos c_14)
    exact e_rz hx hb hr hlk dX3_canCarry_33 rfl hρ.symm
  have c_14 : ¬ ((kX3_hasSection f (kX3_from f x1 x2)) = 0) := c_14
  have hv1 : vp_in _ 6 := hs_in hok c_14
  refine lv_aload_n hx hb dX3_canCarry_17 rfl (lv_at hl 1 rfl) ?_
  refine va_get (v := .ref (a 14)) (C := RX3) (T := TX3) (N := 15) (ci := 3) hx hb hts hinX3 hown hK hP 0 rfl rfl 14 (by decide) (hts (.fieldLink RX3 45 "AxleKeeper$Line" "axles" "[I") (by decide +kernel)) (fun _ h9 => h9) rfl dX3_canCarry_18 ?_
  refine lv_iload hx hb dX3_canCarry_21 (lv_at hl 0 rfl) ?_
  refine va_iald hx hb hK hP 12 0 rfl rfl (n := 6) (by assumption) dX3_canCarry_23 ?_
  refine lv_iload_n hx hb dX3_canCarry_24 rfl (lv_at hl 4 rfl) ?_
  refine lv_icmp_lt (tgt := 32) hx hb dX3_canCarry_25 (by decide) (fun c_25 => ?_) (fun c_25 => ?_)
  · have c_25 : (f 14 (ix (kX3_from f x1 x2))) < x3 := c_25
    refine lv_iconst (v := 0) hx hb dX3_canCarry_32 (by decide) ?_
    have hρ : kX3_canCarry f x1 x2 x3 = 0 := (if_neg c_14).trans ((if_pos c_25))
    exact e_rz hx hb hr hlk dX3_canCarry_33 rfl hρ.symm
  have c_25 : ¬ ((f 14 (ix (kX3_from f x1 x2))) < x3) := c_25
  refine lv_iconst (v := 1) hx hb dX3_canCarry_28 (by decide) ?_
  refine lv_goto (tgt := 33) hx hb dX3_canCarry_29 (by decide) ?_
  have hρ : kX3_canCarry f x1 x2 x3 = 1 := (if_neg c_14).trans ((if_neg c_25))
  exact e_rz hx hb hr hlk dX3_canCarry_33 rfl hρ.symm
theorem ndX3_isBad : yX3_isBad.cls = RX3 ∧ yX3_isBad.cls ≠ "java/lang/invoke/MethodHandle" ∧ yX3_isBad.cls ≠ "java/lang/invoke/VarHandle" ∧ (parseMethodDescriptor yX3_isBad.desc).map (fun d => d.parameters.length) = some 1 := by decide +kernel
set_option maxHeartbeats 4000000 in
set_option maxRecDepth 100000 in
theorem okX3_isBad (l : Launch) (D : va_G) (cI cZ cQ : ClassId) (h : Nat) (a : Nat → Nat) (X : va_W) (f : Nat → Nat → Int32) (x1 : Int32) (h1 : vp_in x1 7) : Met l yX3_isBad wsX3_isBad ({ frames := 0, cells := 0, slots := 0, locals := 0 }) (PR [.ref h, .int x1] D (TY cI cZ cQ) (LW cI h a f ++ X)) (QR (kX3_isBad f x1)) 0 0 (fun _ => False) := by
  refine m_rd (cc := cX3_isBad) (maxL := 2) (ret := (some .boolean)) (by decide) rfl (Nat.le_of_ble_eq_true rfl) (lv0 := [(0, .ref h), (1, .int x1)]) rfl ?_
  intro p e s m below meth c ls S hr hlk hP hK hl
  have S : CallFix p m c cX3_isBad 2 s ([.ref h, .int x1] : List Value).toArray wsX3_isBad RX3 := S
  have hx := S.1
  have hb := S.2.1
  have hown : s.vm.findClass RX3 = some m.cls := S.2.2.2.1
  have hts := S.2.2.2.2
  have hinX3 : ∀ w ∈ wsX30, w ∈ wsX3_isBad := by decide +kernel
  refine lv_aload_n hx hb dX3_isBad_0 rfl (lv_at hl 0 rfl) ?_
  refine va_get (v := .ref (a 8)) (C := RX3) (T := TX3) (N := 15) (ci := 3) hx hb hts hinX3 hown hK hP 0 rfl rfl 8 (by decide) (hts (.fieldLink RX3 27 "AxleKeeper$Line" "heardFaulty" "[I") (by decide +kernel)) (fun _ h9 => h9) rfl dX3_isBad_1 ?_
  refine lv_iload_n hx hb dX3_isBad_4 rfl (lv_at hl 1 rfl) ?_
  refine va_iald hx hb hK hP 6 0 rfl rfl (n := 7) (by assumption) dX3_isBad_5 ?_
  refine lv_iconst (v := 1) hx hb dX3_isBad_6 (by decide) ?_
  refine lv_icmp_eq (tgt := 20) hx hb dX3_isBad_7 (by decide) (fun c_7 => ?_) (fun c_7 => ?_)
  · have c_7 : (f 8 (ix x1)) = 1 := c_7
    refine lv_iconst (v := 1) hx hb dX3_isBad_20 (by decide) ?_
    refine lv_goto (tgt := 25) hx hb dX3_isBad_21 (by decide) ?_
    have hρ : kX3_isBad f x1 = 1 := (if_pos c_7)
    exact e_rz hx hb hr hlk dX3_isBad_25 rfl hρ.symm
  have c_7 : ¬ ((f 8 (ix x1)) = 1) := c_7
  refine lv_aload_n hx hb dX3_isBad_10 rfl (lv_at hl 0 rfl) ?_
  refine va_get (v := .ref (a 9)) (C := RX3) (T := TX3) (N := 15) (ci := 3) hx hb hts hinX3 hown hK hP 0 rfl rfl 9 (by decide) (hts (.fieldLink RX3 30 "AxleKeeper$Line" "age" "[I") (by decide +kernel)) (fun _ h9 => h9) rfl dX3_isBad_11 ?_
  refine lv_iload_n hx hb dX3_isBad_14 rfl (lv_at hl 1 rfl) ?_
  refine va_iald hx hb hK hP 7 0 rfl rfl (n := 7) (by assumption) dX3_isBad_15 ?_
  refine lv_iconst (v := 3) hx hb dX3_isBad_16 (by decide) ?_
  refine lv_icmp_le (tgt := 24) hx hb dX3_isBad_17 (by decide) (fun c_17 => ?_) (fun c_17 => ?_)
  · have c_17 : (f 9 (ix x1)) ≤ 3 := c_17
    refine lv_iconst (v := 0) hx hb dX3_isBad_24 (by decide) ?_
    have hρ : kX3_isBad f x1 = 0 := (if_neg c_7).trans ((if_pos c_17))
    exact e_rz hx hb hr hlk dX3_isBad_25 rfl hρ.symm
  have c_17 : ¬ ((f 9 (ix x1)) ≤ 3) := c_17
  refine lv_iconst (v := 1) hx hb dX3_isBad_20 (by decide) ?_
  refine lv_goto (tgt := 25) hx hb dX3_isBad_21 (by decide) ?_
  have hρ : kX3_isBad f x1 = 1 := (if_neg c_7).trans ((if_neg c_17))
  exact e_rz hx hb hr hlk dX3_isBad_25 rfl hρ.symm
theorem ndX3_hasBadHead : yX3_hasBadHead.cls = RX3 ∧ yX3_hasBadHead.cls ≠ "java/lang/invoke/MethodHandle" ∧ yX3_hasBadHead.cls ≠ "java/lang/invoke/VarHandle" ∧ (parseMethodDescriptor yX3_hasBadHead.desc).map (fun d => d.parameters.length) = some 1 := by decide +kernel
set_option maxHeartbeats 4000000 in
set_option maxRecDepth 100000 in
theorem okX3_hasBadHead (l : Launch) (D : va_G) (cI cZ cQ : ClassId) (h : Nat) (a : Nat → Nat) (X : va_W) (f : Nat → Nat → Int32) (x1 : Int32) (h1 : vp_in x1 6) : Met l yX3_hasBadHead wsX3_hasBadHead ({ frames := 1, cells := 0, slots := 0, locals := 21 }) (PR [.ref h, .int x1] D (TY cI cZ cQ) (LW cI h a f ++ X)) (QR (kX3_hasBadHead f x1)) 0 0 (fun _ => False) := by
  refine m_rd (cc := cX3_hasBadHead) (maxL := 2) (ret := (some .boolean)) (by decide) rfl (Nat.le_of_ble_eq_true rfl) (lv0 := [(0, .ref h), (1, .int x1)]) rfl ?_
  intro p e s m below meth c ls S hr hlk hP hK hl
  have S : CallFix p m c cX3_hasBadHead 2 s ([.ref h, .int x1] : List Value).toArray wsX3_hasBadHead RX3 := S
  have hx := S.1
  have hb := S.2.1
  have hown : s.vm.findClass RX3 = some m.cls := S.2.2.2.1
  have hts := S.2.2.2.2
  refine lv_aload_n hx hb dX3_hasBadHead_0 rfl (lv_at hl 0 rfl) ?_
  refine lv_iload_n hx hb dX3_hasBadHead_1 rfl (lv_at hl 1 rfl) ?_
  refine k_rd (As := [.int x1]) (rest := []) (bytes := cX3_isBad) (C := RX3) S (okX3_isBad l D cI cZ cQ h a X f x1 (in67 h1)) gX3_hasBadHead_X3_isBad rfl ⟨rfl, rfl⟩ ndX3_isBad ⟨Nat.le_of_ble_eq_true rfl, Nat.le_of_ble_eq_true rfl⟩ hK hP 0 rfl rfl rfl hl rfl (Nat.le_of_ble_eq_true rfl) dX3_hasBadHead_2 ⟨Nat.zero_le _, Nat.zero_le _⟩ ?_
  refine lv_if_ne (tgt := 20) hx hb dX3_hasBadHead_5 (by decide) (fun c_5 => ?_) (fun c_5 => ?_)
  · have c_5 : ¬ ((kX3_isBad f x1) = 0) := c_5
    refine lv_iconst (v := 1) hx hb dX3_hasBadHead_20 (by decide) ?_
    refine lv_goto (tgt := 25) hx hb dX3_hasBadHead_21 (by decide) ?_
    have hρ : kX3_hasBadHead f x1 = 1 := (if_neg c_5)
    exact e_rz hx hb hr hlk dX3_hasBadHead_25 rfl hρ.symm
  have c_5 : (kX3_isBad f x1) = 0 := c_5
  refine lv_aload_n hx hb dX3_hasBadHead_8 rfl (lv_at hl 0 rfl) ?_
  refine lv_aload_n hx hb dX3_hasBadHead_9 rfl (lv_at hl 0 rfl) ?_
  refine lv_iload_n hx hb dX3_hasBadHead_10 rfl (lv_at hl 1 rfl) ?_
  refine k_rd (As := [.int x1]) (rest := [.ref h]) (bytes := cX3_rightHead) (C := RX3) S (okX3_rightHead l D cI cZ cQ h a X f x1) gX3_hasBadHead_X3_rightHead rfl ⟨rfl, rfl⟩ ndX3_rightHead ⟨Nat.le_of_ble_eq_true rfl, Nat.le_of_ble_eq_true rfl⟩ hK hP 0 rfl rfl rfl hl rfl (Nat.le_of_ble_eq_true rfl) dX3_hasBadHead_11 ⟨Nat.zero_le _, Nat.zero_le _⟩ ?_
  refine k_rd (As := [.int (kX3_rightHead f x1)]) (rest := []) (bytes := cX3_isBad) (C := RX3) S (okX3_isBad l D cI cZ cQ h a X f (kX3_rightHead f x1) (rh_in h1)) gX3_hasBadHead_X3_isBad rfl ⟨rfl, rfl⟩ ndX3_isBad ⟨Nat.le_of_ble_eq_true rfl, Nat.le_of_ble_eq_true rfl⟩ hK hP 0 rfl rfl rfl hl rfl (Nat.le_of_ble_eq_true rfl) dX3_hasBadHead_14 ⟨Nat.zero_le _, Nat.zero_le _⟩ ?_
  refine lv_if_eq (tgt := 24) hx hb dX3_hasBadHead_17 (by decide) (fun c_17 => ?_) (fun c_17 => ?_)
  · have c_17 : (kX3_isBad f (kX3_rightHead f x1)) = 0 := c_17
    refine lv_iconst (v := 0) hx hb dX3_hasBadHead_24 (by decide) ?_
    have hρ : kX3_hasBadHead f x1 = 0 := (if_pos c_5).trans ((if_pos c_17))
    exact e_rz hx hb hr hlk dX3_hasBadHead_25 rfl hρ.symm
  have c_17 : ¬ ((kX3_isBad f (kX3_rightHead f x1)) = 0) := c_17
  refine lv_iconst (v := 1) hx hb dX3_hasBadHead_20 (by decide) ?_
  refine lv_goto (tgt := 25) hx hb dX3_hasBadHead_21 (by decide) ?_
  have hρ : kX3_hasBadHead f x1 = 1 := (if_pos c_5).trans ((if_neg c_17))
  exact e_rz hx hb hr hlk dX3_hasBadHead_25 rfl hρ.symm
theorem ndX3_hasTrouble : yX3_hasTrouble.cls = RX3 ∧ yX3_hasTrouble.cls ≠ "java/lang/invoke/MethodHandle" ∧ yX3_hasTrouble.cls ≠ "java/lang/invoke/VarHandle" ∧ (parseMethodDescriptor yX3_hasTrouble.desc).map (fun d => d.parameters.length) = some 1 := by decide +kernel
set_option maxHeartbeats 4000000 in
set_option maxRecDepth 100000 in
theorem okX3_hasTrouble (l : Launch) (D : va_G) (cI cZ cQ : ClassId) (h : Nat) (a : Nat → Nat) (X : va_W) (f : Nat → Nat → Int32) (x1 : Int32) (h1 : vp_in x1 6) : Met l yX3_hasTrouble wsX3_hasTrouble ({ frames := 2, cells := 0, slots := 0, locals := 42 }) (PR [.ref h, .int x1] D (TY cI cZ cQ) (LW cI h a f ++ X)) (QR (kX3_hasTrouble f x1)) 0 0 (fun _ => False) := by
  refine m_rd (cc := cX3_hasTrouble) (maxL := 2) (ret := (some .boolean)) (by decide) rfl (Nat.le_of_ble_eq_true rfl) (lv0 := [(0, .ref h), (1, .int x1)]) rfl ?_
  intro p e s m below meth c ls S hr hlk hP hK hl
  have S : CallFix p m c cX3_hasTrouble 2 s ([.ref h, .int x1] : List Value).toArray wsX3_hasTrouble RX3 := S
  have hx := S.1
  have hb := S.2.1
  have hown : s.vm.findClass RX3 = some m.cls := S.2.2.2.1
  have hts := S.2.2.2.2
  have hinX3 : ∀ w ∈ wsX30, w ∈ wsX3_hasTrouble := by decide +kernel
  refine lv_aload_n hx hb dX3_hasTrouble_0 rfl (lv_at hl 0 rfl) ?_
  refine va_get (v := .ref (a 11)) (C := RX3) (T := TX3) (N := 15) (ci := 3) hx hb hts hinX3 hown hK hP 0 rfl rfl 11 (by decide) (hts (.fieldLink RX3 36 "AxleKeeper$Line" "sum" "[I") (by decide +kernel)) (fun _ h9 => h9) rfl dX3_hasTrouble_1 ?_
  refine lv_iload_n hx hb dX3_hasTrouble_4 rfl (lv_at hl 1 rfl) ?_
  refine va_iald hx hb hK hP 9 0 rfl rfl (n := 6) (by assumption) dX3_hasTrouble_5 ?_
  refine lv_if_lt (tgt := 17) hx hb dX3_hasTrouble_6 (by decide) (fun c_6 => ?_) (fun c_6 => ?_)
  · have c_6 : (f 11 (ix x1)) < 0 := c_6
    refine lv_iconst (v := 1) hx hb dX3_hasTrouble_17 (by decide) ?_
    refine lv_goto (tgt := 22) hx hb dX3_hasTrouble_18 (by decide) ?_
    have hρ : kX3_hasTrouble f x1 = 1 := (if_pos c_6)
    exact e_rz hx hb hr hlk dX3_hasTrouble_22 rfl hρ.symm
  have c_6 : ¬ ((f 11 (ix x1)) < 0) := c_6
  refine lv_aload_n hx hb dX3_hasTrouble_9 rfl (lv_at hl 0 rfl) ?_
  refine lv_iload_n hx hb dX3_hasTrouble_10 rfl (lv_at hl 1 rfl) ?_
  refine k_rd (As := [.int x1]) (rest := []) (bytes := cX3_hasBadHead) (C := RX3) S (okX3_hasBadHead l D cI cZ cQ h a X f x1 (by assumption)) gX3_hasTrouble_X3_hasBadHead rfl ⟨rfl, rfl⟩ ndX3_hasBadHead ⟨Nat.le_of_ble_eq_true rfl, Nat.le_of_ble_eq_true rfl⟩ hK hP 0 rfl rfl rfl hl rfl (Nat.le_of_ble_eq_true rfl) dX3_hasTrouble_11 ⟨Nat.zero_le _, Nat.zero_le _⟩ ?_
  refine lv_if_eq (tgt := 21) hx hb dX3_hasTrouble_14 (by decide) (fun c_14 => ?_) (fun c_14 => ?_)
  · have c_14 : (kX3_hasBadHead f x1) = 0 := c_14
    refine lv_iconst (v := 0) hx hb dX3_hasTrouble_21 (by decide) ?_
    have hρ : kX3_hasTrouble f x1 = 0 := (if_neg c_6).trans ((if_pos c_14))
    exact e_rz hx hb hr hlk dX3_hasTrouble_22 rfl hρ.symm
  have c_14 : ¬ ((kX3_hasBadHead f x1) = 0) := c_14
  refine lv_iconst (v := 1) hx hb dX3_hasTrouble_17 (by decide) ?_
  refine lv_goto (tgt := 22) hx hb dX3_hasTrouble_18 (by decide) ?_
  have hρ : kX3_hasTrouble f x1 = 1 := (if_neg c_6).trans ((if_neg c_14))
  exact e_rz hx hb hr hlk dX3_hasTrouble_22 rfl hρ.symm
theorem ndX3_joint : yX3_joint.cls = RX3 ∧ yX3_joint.cls ≠ "java/lang/invoke/MethodHandle" ∧ yX3_joint.cls ≠ "java/lang/invoke/VarHandle" ∧ (parseMethodDescriptor yX3_joint.desc).map (fun d => d.parameters.length) = some 1 := by decide +kernel
set_option maxHeartbeats 4000000 in
set_option maxRecDepth 100000 in
theorem okX3_joint (l : Launch) (D : va_G) (cI cZ cQ : ClassId) (h : Nat) (a : Nat → Nat) (X : va_W) (f : Nat → Nat → Int32) (x1 : Int32) (hok : okL f) : Met l yX3_joint wsX3_joint ({ frames := 1, cells := 0, slots := 0, locals := 21 }) (PR [.ref h, .int x1] D (TY cI cZ cQ) (LW cI h a f ++ X)) (QR (kX3_joint f x1)) 0 0 (fun _ => False) := by
  refine m_rd (cc := cX3_joint) (maxL := 4) (ret := (some .int)) (by decide) rfl (Nat.le_of_ble_eq_true rfl) (lv0 := [(0, .ref h), (1, .int x1)]) rfl ?_
  intro p e s m below meth c ls S hr hlk hP hK hl
  have S : CallFix p m c cX3_joint 4 s ([.ref h, .int x1] : List Value).toArray wsX3_joint RX3 := S
  have hx := S.1
  have hb := S.2.1
  have hown : s.vm.findClass RX3 = some m.cls := S.2.2.2.1
  have hts := S.2.2.2.2
  have hinX3 : ∀ w ∈ wsX30, w ∈ wsX3_joint := by decide +kernel
  refine lv_aload_n hx hb dX3_joint_0 rfl (lv_at hl 0 rfl) ?_
  refine lv_iload_n hx hb dX3_joint_1 rfl (lv_at hl 1 rfl) ?_
  refine k_rd (As := [.int x1]) (rest := []) (bytes := cX3_leftOf) (C := RX3) S (okX3_leftOf l D cI cZ cQ h a X f x1) gX3_joint_X3_leftOf rfl ⟨rfl, rfl⟩ ndX3_leftOf ⟨Nat.le_of_ble_eq_true rfl, Nat.le_of_ble_eq_true rfl⟩ hK hP 0 rfl rfl rfl hl rfl (Nat.le_of_ble_eq_true rfl) dX3_joint_2 ⟨Nat.zero_le _, Nat.zero_le _⟩ ?_
  refine lv_istore_n (lv' := [(2, .int (kX3_leftOf f x1)), (0, .ref h), (1, .int x1)]) hx hb dX3_joint_5 rfl hl (by decide) rfl (fun ls hl => ?_)
  refine lv_aload_n hx hb dX3_joint_6 rfl (lv_at hl 1 rfl) ?_
  refine lv_iload_n hx hb dX3_joint_7 rfl (lv_at hl 2 rfl) ?_
  refine k_rd (As := [.int x1]) (rest := []) (bytes := cX3_rightOf) (C := RX3) S (okX3_rightOf l D cI cZ cQ h a X f x1) gX3_joint_X3_rightOf rfl ⟨rfl, rfl⟩ ndX3_rightOf ⟨Nat.le_of_ble_eq_true rfl, Nat.le_of_ble_eq_true rfl⟩ hK hP 0 rfl rfl rfl hl rfl (Nat.le_of_ble_eq_true rfl) dX3_joint_8 ⟨Nat.zero_le _, Nat.zero_le _⟩ ?_
  refine lv_istore_n (lv' := [(3, .int (kX3_rightOf f x1)), (2, .int (kX3_leftOf f x1)), (0, .ref h), (1, .int x1)]) hx hb dX3_joint_11 rfl hl (by decide) rfl (fun ls hl => ?_)
  refine lv_aload_n hx hb dX3_joint_12 rfl (lv_at hl 2 rfl) ?_
  refine lv_iload_n hx hb dX3_joint_13 rfl (lv_at hl 1 rfl) ?_
  refine k_rd (As := [.int (kX3_leftOf f x1)]) (rest := []) (bytes := cX3_hasSection) (C := RX3) S (okX3_hasSection l D cI cZ cQ h a X f (kX3_leftOf f x1)) gX3_joint_X3_hasSection rfl ⟨rfl, rfl⟩ ndX3_hasSection ⟨Nat.le_of_ble_eq_true rfl, Nat.le_of_ble_eq_true rfl⟩ hK hP 0 rfl rfl rfl hl rfl (Nat.le_of_ble_eq_true rfl) dX3_joint_14 ⟨Nat.zero_le _, Nat.zero_le _⟩ ?_
  refine lv_if_eq (tgt := 44) hx hb dX3_joint_17 (by decide) (fun c_17 => ?_) (fun c_17 => ?_)
  · have c_17 : (kX3_hasSection f (kX3_leftOf f x1)) = 0 := c_17
    refine lv_iconst (v := 0) hx hb dX3_joint_44 (by decide) ?_
    have hρ : kX3_joint f x1 = 0 := (if_pos c_17)
    exact e_rd hx hb hr hlk dX3_joint_45 hρ.symm
  have c_17 : ¬ ((kX3_hasSection f (kX3_leftOf f x1)) = 0) := c_17
  have hv1 : vp_in _ 6 := hs_in hok c_17
  refine lv_aload_n hx hb dX3_joint_20 rfl (lv_at hl 2 rfl) ?_
  refine lv_iload_n hx hb dX3_joint_21 rfl (lv_at hl 0 rfl) ?_
  refine k_rd (As := [.int (kX3_rightOf f x1)]) (rest := []) (bytes := cX3_hasSection) (C := RX3) S (okX3_hasSection l D cI cZ cQ h a X f (kX3_rightOf f x1)) gX3_joint_X3_hasSection rfl ⟨rfl, rfl⟩ ndX3_hasSection ⟨Nat.le_of_ble_eq_true rfl, Nat.le_of_ble_eq_true rfl⟩ hK hP 0 rfl rfl rfl hl rfl (Nat.le_of_ble_eq_true rfl) dX3_joint_22 ⟨Nat.zero_le _, Nat.zero_le _⟩ ?_
  refine lv_if_eq (tgt := 44) hx hb dX3_joint_25 (by decide) (fun c_25 => ?_) (fun c_25 => ?_)
  · have c_25 : (kX3_hasSection f (kX3_rightOf f x1)) = 0 := c_25
    refine lv_iconst (v := 0) hx hb dX3_joint_44 (by decide) ?_
    have hρ : kX3_joint f x1 = 0 := (if_neg c_17).trans ((if_pos c_25))
    exact e_rd hx hb hr hlk dX3_joint_45 hρ.symm
  have c_25 : ¬ ((kX3_hasSection f (kX3_rightOf f x1)) = 0) := c_25
  have hv2 : vp_in _ 6 := hs_in hok c_25
  refine lv_aload_n hx hb dX3_joint_28 rfl (lv_at hl 2 rfl) ?_
  refine va_get (v := .ref (a 11)) (C := RX3) (T := TX3) (N := 15) (ci := 3) hx hb hts hinX3 hown hK hP 0 rfl rfl 11 (by decide) (hts (.fieldLink RX3 36 "AxleKeeper$Line" "sum" "[I") (by decide +kernel)) (fun _ h9 => h9) rfl dX3_joint_29 ?_
  refine lv_iload_n hx hb dX3_joint_32 rfl (lv_at hl 1 rfl) ?_
  refine va_iald hx hb hK hP 9 0 rfl rfl (n := 6) (by assumption) dX3_joint_33 ?_
  refine lv_aload_n hx hb dX3_joint_34 rfl (lv_at hl 2 rfl) ?_
  refine va_get (v := .ref (a 11)) (C := RX3) (T := TX3) (N := 15) (ci := 3) hx hb hts hinX3 hown hK hP 0 rfl rfl 11 (by decide) (hts (.fieldLink RX3 36 "AxleKeeper$Line" "sum" "[I") (by decide +kernel)) (fun _ h9 => h9) rfl dX3_joint_35 ?_
  refine lv_iload_n hx hb dX3_joint_38 rfl (lv_at hl 0 rfl) ?_
  refine va_iald hx hb hK hP 9 0 rfl rfl (n := 6) (by assumption) dX3_joint_39 ?_
  refine lv_iadd hx hb dX3_joint_40 ?_
  refine lv_goto (tgt := 45) hx hb dX3_joint_41 (by decide) ?_
  have hρ : kX3_joint f x1 = ((f 11 (ix (kX3_leftOf f x1))) + (f 11 (ix (kX3_rightOf f x1)))) := (if_neg c_17).trans ((if_neg c_25))
  exact e_rd hx hb hr hlk dX3_joint_45 hρ.symm
theorem ndX3_canHeal : yX3_canHeal.cls = RX3 ∧ yX3_canHeal.cls ≠ "java/lang/invoke/MethodHandle" ∧ yX3_canHeal.cls ≠ "java/lang/invoke/VarHandle" ∧ (parseMethodDescriptor yX3_canHeal.desc).map (fun d => d.parameters.length) = some 3 := by decide +kernel
set_option maxHeartbeats 4000000 in
set_option maxRecDepth 100000 in
theorem okX3_canHeal (l : Launch) (D : va_G) (cI cZ cQ : ClassId) (h : Nat) (a : Nat → Nat) (X : va_W) (f : Nat → Nat → Int32) (x1 x2 x3 : Int32) (hok : okL f) (h1 : vp_in x1 7) (h2 : vp_in x2 6) (h3 : vp_in x3 6) : Met l yX3_canHeal wsX3_canHeal ({ frames := 2, cells := 0, slots := 0, locals := 44 }) (PR [.ref h, .int x1, .int x2, .int x3] D (TY cI cZ cQ) (LW cI h a f ++ X)) (QR (kX3_canHeal f x1 x2 x3)) 0 0 (fun _ => False) := by
  refine m_rd (cc := cX3_canHeal) (maxL := 4) (ret := (some .boolean)) (by decide) rfl (Nat.le_of_ble_eq_true rfl) (lv0 := [(0, .ref h), (1, .int x1), (2, .int x2), (3, .int x3)]) rfl ?_
  intro p e s m below meth c ls S hr hlk hP hK hl
  have S : CallFix p m c cX3_canHeal 4 s ([.ref h, .int x1, .int x2, .int x3] : List Value).toArray wsX3_canHeal RX3 := S
  have hx := S.1
  have hb := S.2.1
  have hown : s.vm.findClass RX3 = some m.cls := S.2.2.2.1
  have hts := S.2.2.2.2
  have hinX3 : ∀ w ∈ wsX30, w ∈ wsX3_canHeal := by decide +kernel
  refine lv_aload_n hx hb dX3_canHeal_0 rfl (lv_at hl 0 rfl) ?_
  refine va_get (v := .ref (a 10)) (C := RX3) (T := TX3) (N := 15) (ci := 3) hx hb hts hinX3 hown hK hP 0 rfl rfl 10 (by decide) (hts (.fieldLink RX3 33 "AxleKeeper$Line" "sweptOver" "[I") (by decide +kernel)) (fun _ h9 => h9) rfl dX3_canHeal_1 ?_
  refine lv_iload_n hx hb dX3_canHeal_4 rfl (lv_at hl 1 rfl) ?_
  refine va_iald hx hb hK hP 8 0 rfl rfl (n := 7) (by assumption) dX3_canHeal_5 ?_
  refine lv_iconst (v := 1) hx hb dX3_canHeal_6 (by decide) ?_
  refine lv_icmp_ne (tgt := 38) hx hb dX3_canHeal_7 (by decide) (fun c_7 => ?_) (fun c_7 => ?_)
  · have c_7 : ¬ ((f 10 (ix x1)) = 1) := c_7
    refine lv_iconst (v := 0) hx hb dX3_canHeal_38 (by decide) ?_
    have hρ : kX3_canHeal f x1 x2 x3 = 0 := (if_neg c_7)
    exact e_rz hx hb hr hlk dX3_canHeal_39 rfl hρ.symm
  have c_7 : (f 10 (ix x1)) = 1 := c_7
  refine lv_aload_n hx hb dX3_canHeal_10 rfl (lv_at hl 0 rfl) ?_
  refine lv_iload_n hx hb dX3_canHeal_11 rfl (lv_at hl 1 rfl) ?_
  refine k_rd (As := [.int x1]) (rest := []) (bytes := cX3_joint) (C := RX3) S (okX3_joint l D cI cZ cQ h a X f x1 (by assumption)) gX3_canHeal_X3_joint rfl ⟨rfl, rfl⟩ ndX3_joint ⟨Nat.le_of_ble_eq_true rfl, Nat.le_of_ble_eq_true rfl⟩ hK hP 0 rfl rfl rfl hl rfl (Nat.le_of_ble_eq_true rfl) dX3_canHeal_12 ⟨Nat.zero_le _, Nat.zero_le _⟩ ?_
  refine lv_if_ne (tgt := 38) hx hb dX3_canHeal_15 (by decide) (fun c_15 => ?_) (fun c_15 => ?_)
  · have c_15 : ¬ ((kX3_joint f x1) = 0) := c_15
    refine lv_iconst (v := 0) hx hb dX3_canHeal_38 (by decide) ?_
    have hρ : kX3_canHeal f x1 x2 x3 = 0 := (if_pos c_7).trans ((if_neg c_15))
    exact e_rz hx hb hr hlk dX3_canHeal_39 rfl hρ.symm
  have c_15 : (kX3_joint f x1) = 0 := c_15
  refine lv_aload_n hx hb dX3_canHeal_18 rfl (lv_at hl 0 rfl) ?_
  refine lv_iload_n hx hb dX3_canHeal_19 rfl (lv_at hl 2 rfl) ?_
  refine k_rd (As := [.int x2]) (rest := []) (bytes := cX3_hasBadHead) (C := RX3) S (okX3_hasBadHead l D cI cZ cQ h a X f x2 h2) gX3_canHeal_X3_hasBadHead rfl ⟨rfl, rfl⟩ ndX3_hasBadHead ⟨Nat.le_of_ble_eq_true rfl, Nat.le_of_ble_eq_true rfl⟩ hK hP 0 rfl rfl rfl hl rfl (Nat.le_of_ble_eq_true rfl) dX3_canHeal_20 ⟨Nat.zero_le _, Nat.zero_le _⟩ ?_
  refine lv_if_ne (tgt := 38) hx hb dX3_canHeal_23 (by decide) (fun c_23 => ?_) (fun c_23 => ?_)
  · have c_23 : ¬ ((kX3_hasBadHead f x2) = 0) := c_23
    refine lv_iconst (v := 0) hx hb dX3_canHeal_38 (by decide) ?_
    have hρ : kX3_canHeal f x1 x2 x3 = 0 := (if_pos c_7).trans ((if_pos c_15).trans ((if_neg c_23)))
    exact e_rz hx hb hr hlk dX3_canHeal_39 rfl hρ.symm
  have c_23 : (kX3_hasBadHead f x2) = 0 := c_23
  refine lv_aload_n hx hb dX3_canHeal_26 rfl (lv_at hl 0 rfl) ?_
  refine lv_iload_n hx hb dX3_canHeal_27 rfl (lv_at hl 3 rfl) ?_
  refine k_rd (As := [.int x3]) (rest := []) (bytes := cX3_hasBadHead) (C := RX3) S (okX3_hasBadHead l D cI cZ cQ h a X f x3 h3) gX3_canHeal_X3_hasBadHead rfl ⟨rfl, rfl⟩ ndX3_hasBadHead ⟨Nat.le_of_ble_eq_true rfl, Nat.le_of_ble_eq_true rfl⟩ hK hP 0 rfl rfl rfl hl rfl (Nat.le_of_ble_eq_true rfl) dX3_canHeal_28 ⟨Nat.zero_le _, Nat.zero_le _⟩ ?_
  refine lv_if_ne (tgt := 38) hx hb dX3_canHeal_31 (by decide) (fun c_31 => ?_) (fun c_31 => ?_)
  · have c_31 : ¬ ((kX3_hasBadHead f x3) = 0) := c_31
    refine lv_iconst (v := 0) hx hb dX3_canHeal_38 (by decide) ?_
    have hρ : kX3_canHeal f x1 x2 x3 = 0 := (if_pos c_7).trans ((if_pos c_15).trans ((if_pos c_23).trans ((if_neg c_31))))
    exact e_rz hx hb hr hlk dX3_canHeal_39 rfl hρ.symm
  have c_31 : (kX3_hasBadHead f x3) = 0 := c_31
  refine lv_iconst (v := 1) hx hb dX3_canHeal_34 (by decide) ?_
  refine lv_goto (tgt := 39) hx hb dX3_canHeal_35 (by decide) ?_
  have hρ : kX3_canHeal f x1 x2 x3 = 1 := (if_pos c_7).trans ((if_pos c_15).trans ((if_pos c_23).trans ((if_pos c_31))))
  exact e_rz hx hb hr hlk dX3_canHeal_39 rfl hρ.symm
