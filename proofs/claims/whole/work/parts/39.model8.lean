theorem ndX6_tick : yX6_tick.cls = RX6 ∧ yX6_tick.cls ≠ "java/lang/invoke/MethodHandle" ∧ yX6_tick.cls ≠ "java/lang/invoke/VarHandle" ∧ (parseMethodDescriptor yX6_tick.desc).map (fun d => d.parameters.length) = some 1 := by decide +kernel
set_option maxHeartbeats 4000000 in
set_option maxRecDepth 100000 in
theorem okX6_tick (l : Launch) (D : va_G) (cI cZ cQ : ClassId) (h : Nat) (a : Nat → Nat) (X : va_W) (f : Nat → Nat → Int32) (x1 : Int32) (sz : Nat) (hok : okM f) (hk : vp_in (f 1 0) 17) : Met l yX6_tick wsX6_tick ({ frames := 5, cells := 0, slots := 0, locals := 113 }) (PW [.ref h, .int x1] sz D (TY cI cZ cQ) (MW cI h a f ++ X)) (QI (kX6_tick f x1).1 D (TY cI cZ cQ) (MW cI h a (kX6_tick f x1).2 ++ X) (va_A (MW cI h a f ++ X) sz)) 0 0 (va_A (MW cI h a f ++ X) sz) := by
  refine m_wr (cc := cX6_tick) (maxL := 2) (ret := (some .int)) (by decide) rfl (Nat.le_of_ble_eq_true rfl) (lv0 := [(0, .ref h), (1, .int x1)]) rfl ?_
  intro p e s m below meth c ls A hAe S hr hlk hP hK hD hS hA hl
  rw [← hAe]
  have S : CallFix p m c cX6_tick 2 s ([.ref h, .int x1] : List Value).toArray wsX6_tick RX6 := S
  have hx := S.1
  have hb := S.2.1
  have hown : s.vm.findClass RX6 = some m.cls := S.2.2.2.1
  have hts := S.2.2.2.2
  refine lv_aload_n hx hb dX6_tick_0 rfl (lv_at hl 0 rfl) ?_
  refine lv_iload_n hx hb dX6_tick_1 rfl (lv_at hl 1 rfl) ?_
  refine k_rd (As := [.int x1]) (rest := []) (bytes := cX6_isSet) (C := RX6) S (okX6_isSet l D cI cZ cQ h a X f x1) gX6_tick_X6_isSet rfl ⟨rfl, rfl⟩ ndX6_isSet ⟨Nat.le_of_ble_eq_true rfl, Nat.le_of_ble_eq_true rfl⟩ hK hP 0 rfl rfl rfl hl rfl (Nat.le_of_ble_eq_true rfl) dX6_tick_2 ⟨Nat.zero_le _, Nat.zero_le _⟩ ?_
  refine lv_if_ne (tgt := 11) hx hb dX6_tick_5 (by decide) (fun c_5 => ?_) (fun c_5 => ?_)
  · have c_5 : ¬ ((kX6_isSet f x1) = 0) := c_5
    refine lv_aload_n hx hb dX6_tick_11 rfl (lv_at hl 0 rfl) ?_
    refine k_wv (As := []) (rest := []) (bytes := cX6_remember) (C := RX6) S (okX6_remember l D cI cZ cQ h a X f _ (by assumption)) gX6_tick_X6_remember rfl ⟨rfl, rfl⟩ ndX6_remember ⟨Nat.le_of_ble_eq_true rfl, Nat.le_of_ble_eq_true rfl⟩ hK hP hD hS hA 0 rfl rfl rfl hl rfl (Nat.le_of_ble_eq_true rfl) dX6_tick_12 ⟨Nat.zero_le _, Nat.zero_le _⟩ (fun H locs hP hD hS => ?_)
    have hP : va_P D vwCl (MW cI h a (kX6_remember f) ++ X) H := hP
    have hD : va_D A (MW cI h a (kX6_remember f) ++ X) := hD
    refine lv_aload_n hx hb dX6_tick_15 rfl (lv_at hl 0 rfl) ?_
    refine lv_iconst (v := 0) hx hb dX6_tick_16 (by decide) ?_
    refine lv_iload_n hx hb dX6_tick_17 rfl (lv_at hl 1 rfl) ?_
    refine k_wv (As := [.int 0, .int x1]) (rest := []) (bytes := cX6_tickIn) (C := RX6) S (okX6_tickIn l D cI cZ cQ h a X (kX6_remember f) 0 x1 _ (okM_rem hok hk) (vin_c (by decide))) gX6_tick_X6_tickIn rfl ⟨rfl, rfl⟩ ndX6_tickIn ⟨Nat.le_of_ble_eq_true rfl, Nat.le_of_ble_eq_true rfl⟩ hK hP hD hS hA 0 rfl rfl rfl hl rfl (Nat.le_of_ble_eq_true rfl) dX6_tick_18 ⟨Nat.zero_le _, Nat.zero_le _⟩ (fun H locs hP hD hS => ?_)
    have hP : va_P D vwCl (MW cI h a (kX6_tickIn (kX6_remember f) 0 x1) ++ X) H := hP
    have hD : va_D A (MW cI h a (kX6_tickIn (kX6_remember f) 0 x1) ++ X) := hD
    refine lv_aload_n hx hb dX6_tick_21 rfl (lv_at hl 0 rfl) ?_
    refine lv_iconst (v := 0) hx hb dX6_tick_22 (by decide) ?_
    refine lv_iconst (v := 0) hx hb dX6_tick_23 (by decide) ?_
    refine k_rd (As := [.int 0, .int 0]) (rest := []) (bytes := cX6_called) (C := RX6) S (okX6_called l D cI cZ cQ h a X (kX6_tickIn (kX6_remember f) 0 x1) 0 0 (okM_tick (okM_rem hok hk) (vin_c (by decide))) (vin_c (by decide))) gX6_tick_X6_called rfl ⟨rfl, rfl⟩ ndX6_called ⟨Nat.le_of_ble_eq_true rfl, Nat.le_of_ble_eq_true rfl⟩ hK hP 0 rfl rfl rfl hl rfl (Nat.le_of_ble_eq_true rfl) dX6_tick_24 ⟨Nat.zero_le _, Nat.zero_le _⟩ ?_
    have hρ : kX6_tick f x1 = ((kX6_called (kX6_tickIn (kX6_remember f) 0 x1) 0 0), (kX6_tickIn (kX6_remember f) 0 x1)) := (if_neg c_5)
    exact e_wi hx hb hr hlk hK hP hD hS dX6_tick_27 (congrArg Prod.fst hρ).symm (congrArg (fun z => (MW cI h a z.2 ++ X)) hρ).symm
  have c_5 : (kX6_isSet f x1) = 0 := c_5
  refine lv_ldc (v := (-1000000001)) hx hb hown (hts (.constant RX6 102 (-1000000001)) (by decide +kernel)) dX6_tick_8 ?_
  have hρ : kX6_tick f x1 = ((-1000000001), f) := (if_pos c_5)
  exact e_wi hx hb hr hlk hK hP hD hS dX6_tick_10 (congrArg Prod.fst hρ).symm (congrArg (fun z => (MW cI h a z.2 ++ X)) hρ).symm
theorem ndX6_reset : yX6_reset.cls = RX6 ∧ yX6_reset.cls ≠ "java/lang/invoke/MethodHandle" ∧ yX6_reset.cls ≠ "java/lang/invoke/VarHandle" ∧ (parseMethodDescriptor yX6_reset.desc).map (fun d => d.parameters.length) = some 1 := by decide +kernel
set_option maxHeartbeats 4000000 in
set_option maxRecDepth 100000 in
theorem okX6_reset (l : Launch) (D : va_G) (cI cZ cQ : ClassId) (h : Nat) (a : Nat → Nat) (X : va_W) (f : Nat → Nat → Int32) (x1 : Int32) (sz : Nat) (hok : okM f) (hk : vp_in (f 1 0) 17) : Met l yX6_reset wsX6_reset ({ frames := 2, cells := 0, slots := 0, locals := 44 }) (PW [.ref h, .int x1] sz D (TY cI cZ cQ) (MW cI h a f ++ X)) (QI (kX6_reset f x1).1 D (TY cI cZ cQ) (MW cI h a (kX6_reset f x1).2 ++ X) (va_A (MW cI h a f ++ X) sz)) 0 0 (va_A (MW cI h a f ++ X) sz) := by
  refine m_wr (cc := cX6_reset) (maxL := 3) (ret := (some .int)) (by decide) rfl (Nat.le_of_ble_eq_true rfl) (lv0 := [(0, .ref h), (1, .int x1)]) rfl ?_
  intro p e s m below meth c ls A hAe S hr hlk hP hK hD hS hA hl
  rw [← hAe]
  have S : CallFix p m c cX6_reset 3 s ([.ref h, .int x1] : List Value).toArray wsX6_reset RX6 := S
  have hx := S.1
  have hb := S.2.1
  have hown : s.vm.findClass RX6 = some m.cls := S.2.2.2.1
  have hts := S.2.2.2.2
  have hinX6 : ∀ w ∈ wsX60, w ∈ wsX6_reset := by decide +kernel
  refine lv_aload_n hx hb dX6_reset_0 rfl (lv_at hl 0 rfl) ?_
  refine lv_iload_n hx hb dX6_reset_1 rfl (lv_at hl 1 rfl) ?_
  refine k_rd (As := [.int x1]) (rest := []) (bytes := cX6_isSection) (C := RX6) S (okX6_isSection l D cI cZ cQ h a X f x1) gX6_reset_X6_isSection rfl ⟨rfl, rfl⟩ ndX6_isSection ⟨Nat.le_of_ble_eq_true rfl, Nat.le_of_ble_eq_true rfl⟩ hK hP 0 rfl rfl rfl hl rfl (Nat.le_of_ble_eq_true rfl) dX6_reset_2 ⟨Nat.zero_le _, Nat.zero_le _⟩ ?_
  refine lv_if_ne (tgt := 11) hx hb dX6_reset_5 (by decide) (fun c_5 => ?_) (fun c_5 => ?_)
  · have c_5 : ¬ ((kX6_isSection f x1) = 0) := c_5
    have h6 : vp_in x1 6 := ms_in hok c_5
    refine lv_aload_n hx hb dX6_reset_11 rfl (lv_at hl 0 rfl) ?_
    refine va_get (v := .ref (a 0)) (C := RX6) (T := TX6) (N := 6) (ci := 6) hx hb hts hinX6 hown hK hP 0 rfl rfl 0 (by decide) (hts (.fieldLink RX6 7 "AxleKeeperModel" "w" "[I") (by decide +kernel)) (fun _ h9 => h9) rfl dX6_reset_12 ?_
    refine lv_iconst (v := 3) hx hb dX6_reset_15 (by decide) ?_
    refine lv_iload_n hx hb dX6_reset_16 rfl (lv_at hl 1 rfl) ?_
    refine lv_iadd hx hb dX6_reset_17 ?_
    refine va_iald hx hb hK hP 1 0 rfl rfl (n := 1680) (vin2 (by assumption) (by decide)) dX6_reset_18 ?_
    refine lv_iconst (v := 2) hx hb dX6_reset_19 (by decide) ?_
    refine lv_icmp_eq (tgt := 26) hx hb dX6_reset_20 (by decide) (fun c_20 => ?_) (fun c_20 => ?_)
    · have c_20 : (f 0 (ix (3 + x1))) = 2 := c_20
      refine lv_aload_n hx hb dX6_reset_26 rfl (lv_at hl 0 rfl) ?_
      refine k_wv (As := []) (rest := []) (bytes := cX6_remember) (C := RX6) S (okX6_remember l D cI cZ cQ h a X f _ (by assumption)) gX6_reset_X6_remember rfl ⟨rfl, rfl⟩ ndX6_remember ⟨Nat.le_of_ble_eq_true rfl, Nat.le_of_ble_eq_true rfl⟩ hK hP hD hS hA 0 rfl rfl rfl hl rfl (Nat.le_of_ble_eq_true rfl) dX6_reset_27 ⟨Nat.zero_le _, Nat.zero_le _⟩ (fun H locs hP hD hS => ?_)
      have hP : va_P D vwCl (MW cI h a (kX6_remember f) ++ X) H := hP
      have hD : va_D A (MW cI h a (kX6_remember f) ++ X) := hD
      refine lv_aload_n hx hb dX6_reset_30 rfl (lv_at hl 0 rfl) ?_
      refine va_get (v := .ref (a 0)) (C := RX6) (T := TX6) (N := 6) (ci := 6) hx hb hts hinX6 hown hK hP 0 rfl rfl 0 (by decide) (hts (.fieldLink RX6 7 "AxleKeeperModel" "w" "[I") (by decide +kernel)) (fun _ h9 => h9) rfl dX6_reset_31 ?_
      refine lv_bipush (v := 9) hx hb dX6_reset_34 (by decide) ?_
      refine lv_iload_n hx hb dX6_reset_36 rfl (lv_at hl 1 rfl) ?_
      refine lv_iadd hx hb dX6_reset_37 ?_
      refine va_iald hx hb hK hP 1 0 rfl rfl (n := 1680) (vin2 (by assumption) (by decide)) dX6_reset_38 ?_
      refine lv_sipush (v := 1000) hx hb dX6_reset_39 (by decide) ?_
      refine lv_iadd hx hb dX6_reset_42 ?_
      refine lv_istore_n (lv' := [(2, .int (((kX6_remember f) 0 (ix (9 + x1))) + 1000)), (0, .ref h), (1, .int x1)]) hx hb dX6_reset_43 rfl hl (by decide) rfl (fun ls hl => ?_)
      refine lv_aload_n hx hb dX6_reset_44 rfl (lv_at hl 1 rfl) ?_
      refine va_get (v := .ref (a 0)) (C := RX6) (T := TX6) (N := 6) (ci := 6) hx hb hts hinX6 hown hK hP 0 rfl rfl 0 (by decide) (hts (.fieldLink RX6 7 "AxleKeeperModel" "w" "[I") (by decide +kernel)) (fun _ h9 => h9) rfl dX6_reset_45 ?_
      refine lv_bipush (v := 9) hx hb dX6_reset_48 (by decide) ?_
      refine lv_iload_n hx hb dX6_reset_50 rfl (lv_at hl 2 rfl) ?_
      refine lv_iadd hx hb dX6_reset_51 ?_
      refine lv_iconst (v := 0) hx hb dX6_reset_52 (by decide) ?_
      refine st_M0 (x := 0) hx hb hK hP hD hS (vin2 (by assumption) (by decide)) dX6_reset_53 (fun H locs hP hD hS => ?_)
      refine lv_aload_n hx hb dX6_reset_54 rfl (lv_at hl 1 rfl) ?_
      refine va_get (v := .ref (a 0)) (C := RX6) (T := TX6) (N := 6) (ci := 6) hx hb hts hinX6 hown hK hP 0 rfl rfl 0 (by decide) (hts (.fieldLink RX6 7 "AxleKeeperModel" "w" "[I") (by decide +kernel)) (fun _ h9 => h9) rfl dX6_reset_55 ?_
      refine lv_iconst (v := 3) hx hb dX6_reset_58 (by decide) ?_
      refine lv_iload_n hx hb dX6_reset_59 rfl (lv_at hl 2 rfl) ?_
      refine lv_iadd hx hb dX6_reset_60 ?_
      refine lv_iconst (v := 3) hx hb dX6_reset_61 (by decide) ?_
      refine st_M0 (x := 3) hx hb hK hP hD hS (vin2 (by assumption) (by decide)) dX6_reset_62 (fun H locs hP hD hS => ?_)
      refine lv_aload_n hx hb dX6_reset_63 rfl (lv_at hl 1 rfl) ?_
      refine va_get (v := .ref (a 0)) (C := RX6) (T := TX6) (N := 6) (ci := 6) hx hb hts hinX6 hown hK hP 0 rfl rfl 0 (by decide) (hts (.fieldLink RX6 7 "AxleKeeperModel" "w" "[I") (by decide +kernel)) (fun _ h9 => h9) rfl dX6_reset_64 ?_
      refine lv_bipush (v := 21) hx hb dX6_reset_67 (by decide) ?_
      refine lv_iload_n hx hb dX6_reset_69 rfl (lv_at hl 2 rfl) ?_
      refine lv_iadd hx hb dX6_reset_70 ?_
      refine lv_iconst (v := 0) hx hb dX6_reset_71 (by decide) ?_
      refine st_M0 (x := 0) hx hb hK hP hD hS (vin2 (by assumption) (by decide)) dX6_reset_72 (fun H locs hP hD hS => ?_)
      refine lv_iload_n hx hb dX6_reset_73 rfl (lv_at hl 0 rfl) ?_
      have hρ : kX6_reset f x1 = ((((kX6_remember f) 0 (ix (9 + x1))) + 1000), (up2 (up2 (up2 (kX6_remember f) 0 (ix (9 + x1)) 0) 0 (ix (3 + x1)) 3) 0 (ix (21 + x1)) 0)) := (if_neg c_5).trans ((if_pos c_20))
      exact e_wi hx hb hr hlk hK hP hD hS dX6_reset_74 (congrArg Prod.fst hρ).symm (congrArg (fun z => (MW cI h a z.2 ++ X)) hρ).symm
    have c_20 : ¬ ((f 0 (ix (3 + x1))) = 2) := c_20
    refine lv_ldc (v := (-1000000003)) hx hb hown (hts (.constant RX6 124 (-1000000003)) (by decide +kernel)) dX6_reset_23 ?_
    have hρ : kX6_reset f x1 = ((-1000000003), f) := (if_neg c_5).trans ((if_neg c_20))
    exact e_wi hx hb hr hlk hK hP hD hS dX6_reset_25 (congrArg Prod.fst hρ).symm (congrArg (fun z => (MW cI h a z.2 ++ X)) hρ).symm
  have c_5 : (kX6_isSection f x1) = 0 := c_5
  refine lv_ldc (v := (-1000000001)) hx hb hown (hts (.constant RX6 102 (-1000000001)) (by decide +kernel)) dX6_reset_8 ?_
  have hρ : kX6_reset f x1 = ((-1000000001), f) := (if_pos c_5)
  exact e_wi hx hb hr hlk hK hP hD hS dX6_reset_10 (congrArg Prod.fst hρ).symm (congrArg (fun z => (MW cI h a z.2 ++ X)) hρ).symm
theorem ndX6_repair : yX6_repair.cls = RX6 ∧ yX6_repair.cls ≠ "java/lang/invoke/MethodHandle" ∧ yX6_repair.cls ≠ "java/lang/invoke/VarHandle" ∧ (parseMethodDescriptor yX6_repair.desc).map (fun d => d.parameters.length) = some 1 := by decide +kernel
set_option maxHeartbeats 4000000 in
set_option maxRecDepth 100000 in
theorem okX6_repair (l : Launch) (D : va_G) (cI cZ cQ : ClassId) (h : Nat) (a : Nat → Nat) (X : va_W) (f : Nat → Nat → Int32) (x1 : Int32) (sz : Nat) (hok : okM f) (hk : vp_in (f 1 0) 17) : Met l yX6_repair wsX6_repair ({ frames := 2, cells := 0, slots := 0, locals := 44 }) (PW [.ref h, .int x1] sz D (TY cI cZ cQ) (MW cI h a f ++ X)) (QI (kX6_repair f x1).1 D (TY cI cZ cQ) (MW cI h a (kX6_repair f x1).2 ++ X) (va_A (MW cI h a f ++ X) sz)) 0 0 (va_A (MW cI h a f ++ X) sz) := by
  refine m_wr (cc := cX6_repair) (maxL := 3) (ret := (some .int)) (by decide) rfl (Nat.le_of_ble_eq_true rfl) (lv0 := [(0, .ref h), (1, .int x1)]) rfl ?_
  intro p e s m below meth c ls A hAe S hr hlk hP hK hD hS hA hl
  rw [← hAe]
  have S : CallFix p m c cX6_repair 3 s ([.ref h, .int x1] : List Value).toArray wsX6_repair RX6 := S
  have hx := S.1
  have hb := S.2.1
  have hown : s.vm.findClass RX6 = some m.cls := S.2.2.2.1
  have hts := S.2.2.2.2
  have hinX6 : ∀ w ∈ wsX60, w ∈ wsX6_repair := by decide +kernel
  refine lv_aload_n hx hb dX6_repair_0 rfl (lv_at hl 0 rfl) ?_
  refine lv_iload_n hx hb dX6_repair_1 rfl (lv_at hl 1 rfl) ?_
  refine k_rd (As := [.int x1]) (rest := []) (bytes := cX6_isHead) (C := RX6) S (okX6_isHead l D cI cZ cQ h a X f x1) gX6_repair_X6_isHead rfl ⟨rfl, rfl⟩ ndX6_isHead ⟨Nat.le_of_ble_eq_true rfl, Nat.le_of_ble_eq_true rfl⟩ hK hP 0 rfl rfl rfl hl rfl (Nat.le_of_ble_eq_true rfl) dX6_repair_2 ⟨Nat.zero_le _, Nat.zero_le _⟩ ?_
  refine lv_if_ne (tgt := 11) hx hb dX6_repair_5 (by decide) (fun c_5 => ?_) (fun c_5 => ?_)
  · have c_5 : ¬ ((kX6_isHead f x1) = 0) := c_5
    have h7 : vp_in x1 7 := mh_in hok c_5
    refine lv_aload_n hx hb dX6_repair_11 rfl (lv_at hl 0 rfl) ?_
    refine va_get (v := .ref (a 0)) (C := RX6) (T := TX6) (N := 6) (ci := 6) hx hb hts hinX6 hown hK hP 0 rfl rfl 0 (by decide) (hts (.fieldLink RX6 7 "AxleKeeperModel" "w" "[I") (by decide +kernel)) (fun _ h9 => h9) rfl dX6_repair_12 ?_
    refine lv_bipush (v := 62) hx hb dX6_repair_15 (by decide) ?_
    refine lv_iload_n hx hb dX6_repair_17 rfl (lv_at hl 1 rfl) ?_
    refine lv_iadd hx hb dX6_repair_18 ?_
    refine va_iald hx hb hK hP 1 0 rfl rfl (n := 1680) (vin2 (by assumption) (by decide)) dX6_repair_19 ?_
    refine lv_if_ne (tgt := 26) hx hb dX6_repair_20 (by decide) (fun c_20 => ?_) (fun c_20 => ?_)
    · have c_20 : ¬ ((f 0 (ix (62 + x1))) = 0) := c_20
      refine lv_aload_n hx hb dX6_repair_26 rfl (lv_at hl 0 rfl) ?_
      refine k_wv (As := []) (rest := []) (bytes := cX6_remember) (C := RX6) S (okX6_remember l D cI cZ cQ h a X f _ (by assumption)) gX6_repair_X6_remember rfl ⟨rfl, rfl⟩ ndX6_remember ⟨Nat.le_of_ble_eq_true rfl, Nat.le_of_ble_eq_true rfl⟩ hK hP hD hS hA 0 rfl rfl rfl hl rfl (Nat.le_of_ble_eq_true rfl) dX6_repair_27 ⟨Nat.zero_le _, Nat.zero_le _⟩ (fun H locs hP hD hS => ?_)
      have hP : va_P D vwCl (MW cI h a (kX6_remember f) ++ X) H := hP
      have hD : va_D A (MW cI h a (kX6_remember f) ++ X) := hD
      refine lv_aload_n hx hb dX6_repair_30 rfl (lv_at hl 0 rfl) ?_
      refine va_get (v := .ref (a 0)) (C := RX6) (T := TX6) (N := 6) (ci := 6) hx hb hts hinX6 hown hK hP 0 rfl rfl 0 (by decide) (hts (.fieldLink RX6 7 "AxleKeeperModel" "w" "[I") (by decide +kernel)) (fun _ h9 => h9) rfl dX6_repair_31 ?_
      refine lv_bipush (v := 27) hx hb dX6_repair_34 (by decide) ?_
      refine lv_iload_n hx hb dX6_repair_36 rfl (lv_at hl 1 rfl) ?_
      refine lv_iadd hx hb dX6_repair_37 ?_
      refine va_iald hx hb hK hP 1 0 rfl rfl (n := 1680) (vin2 (by assumption) (by decide)) dX6_repair_38 ?_
      refine lv_if_ne (tgt := 46) hx hb dX6_repair_39 (by decide) (fun c_39 => ?_) (fun c_39 => ?_)
      · have c_39 : ¬ (((kX6_remember f) 0 (ix (27 + x1))) = 0) := c_39
        refine lv_iconst (v := 0) hx hb dX6_repair_46 (by decide) ?_
        refine lv_istore_n (lv' := [(2, .int 0), (0, .ref h), (1, .int x1)]) hx hb dX6_repair_47 rfl hl (by decide) rfl (fun ls hl => ?_)
        refine lv_aload_n hx hb dX6_repair_48 rfl (lv_at hl 1 rfl) ?_
        refine va_get (v := .ref (a 0)) (C := RX6) (T := TX6) (N := 6) (ci := 6) hx hb hts hinX6 hown hK hP 0 rfl rfl 0 (by decide) (hts (.fieldLink RX6 7 "AxleKeeperModel" "w" "[I") (by decide +kernel)) (fun _ h9 => h9) rfl dX6_repair_49 ?_
        refine lv_bipush (v := 62) hx hb dX6_repair_52 (by decide) ?_
        refine lv_iload_n hx hb dX6_repair_54 rfl (lv_at hl 2 rfl) ?_
        refine lv_iadd hx hb dX6_repair_55 ?_
        refine lv_iconst (v := 0) hx hb dX6_repair_56 (by decide) ?_
        refine st_M0 (x := 0) hx hb hK hP hD hS (vin2 (by assumption) (by decide)) dX6_repair_57 (fun H locs hP hD hS => ?_)
        refine lv_aload_n hx hb dX6_repair_58 rfl (lv_at hl 1 rfl) ?_
        refine va_get (v := .ref (a 0)) (C := RX6) (T := TX6) (N := 6) (ci := 6) hx hb hts hinX6 hown hK hP 0 rfl rfl 0 (by decide) (hts (.fieldLink RX6 7 "AxleKeeperModel" "w" "[I") (by decide +kernel)) (fun _ h9 => h9) rfl dX6_repair_59 ?_
        refine lv_bipush (v := 27) hx hb dX6_repair_62 (by decide) ?_
        refine lv_iload_n hx hb dX6_repair_64 rfl (lv_at hl 2 rfl) ?_
        refine lv_iadd hx hb dX6_repair_65 ?_
        refine lv_iconst (v := 0) hx hb dX6_repair_66 (by decide) ?_
        refine st_M0 (x := 0) hx hb hK hP hD hS (vin2 (by assumption) (by decide)) dX6_repair_67 (fun H locs hP hD hS => ?_)
        refine lv_aload_n hx hb dX6_repair_68 rfl (lv_at hl 1 rfl) ?_
        refine va_get (v := .ref (a 0)) (C := RX6) (T := TX6) (N := 6) (ci := 6) hx hb hts hinX6 hown hK hP 0 rfl rfl 0 (by decide) (hts (.fieldLink RX6 7 "AxleKeeperModel" "w" "[I") (by decide +kernel)) (fun _ h9 => h9) rfl dX6_repair_69 ?_
        refine lv_bipush (v := 34) hx hb dX6_repair_72 (by decide) ?_
        refine lv_iload_n hx hb dX6_repair_74 rfl (lv_at hl 2 rfl) ?_
        refine lv_iadd hx hb dX6_repair_75 ?_
        refine lv_iconst (v := 0) hx hb dX6_repair_76 (by decide) ?_
        refine st_M0 (x := 0) hx hb hK hP hD hS (vin2 (by assumption) (by decide)) dX6_repair_77 (fun H locs hP hD hS => ?_)
        refine lv_iload_n hx hb dX6_repair_78 rfl (lv_at hl 0 rfl) ?_
        have hρ : kX6_repair f x1 = (0, (up2 (up2 (up2 (kX6_remember f) 0 (ix (62 + x1)) 0) 0 (ix (27 + x1)) 0) 0 (ix (34 + x1)) 0)) := (if_neg c_5).trans ((if_neg c_20).trans ((if_neg c_39)))
        exact e_wi hx hb hr hlk hK hP hD hS dX6_repair_79 (congrArg Prod.fst hρ).symm (congrArg (fun z => (MW cI h a z.2 ++ X)) hρ).symm
      have c_39 : ((kX6_remember f) 0 (ix (27 + x1))) = 0 := c_39
      refine lv_iconst (v := 1) hx hb dX6_repair_42 (by decide) ?_
      refine lv_goto (tgt := 47) hx hb dX6_repair_43 (by decide) ?_
      refine lv_istore_n (lv' := [(2, .int 1), (0, .ref h), (1, .int x1)]) hx hb dX6_repair_47 rfl hl (by decide) rfl (fun ls hl => ?_)
      refine lv_aload_n hx hb dX6_repair_48 rfl (lv_at hl 1 rfl) ?_
      refine va_get (v := .ref (a 0)) (C := RX6) (T := TX6) (N := 6) (ci := 6) hx hb hts hinX6 hown hK hP 0 rfl rfl 0 (by decide) (hts (.fieldLink RX6 7 "AxleKeeperModel" "w" "[I") (by decide +kernel)) (fun _ h9 => h9) rfl dX6_repair_49 ?_
      refine lv_bipush (v := 62) hx hb dX6_repair_52 (by decide) ?_
      refine lv_iload_n hx hb dX6_repair_54 rfl (lv_at hl 2 rfl) ?_
      refine lv_iadd hx hb dX6_repair_55 ?_
      refine lv_iconst (v := 0) hx hb dX6_repair_56 (by decide) ?_
      refine st_M0 (x := 0) hx hb hK hP hD hS (vin2 (by assumption) (by decide)) dX6_repair_57 (fun H locs hP hD hS => ?_)
      refine lv_aload_n hx hb dX6_repair_58 rfl (lv_at hl 1 rfl) ?_
      refine va_get (v := .ref (a 0)) (C := RX6) (T := TX6) (N := 6) (ci := 6) hx hb hts hinX6 hown hK hP 0 rfl rfl 0 (by decide) (hts (.fieldLink RX6 7 "AxleKeeperModel" "w" "[I") (by decide +kernel)) (fun _ h9 => h9) rfl dX6_repair_59 ?_
      refine lv_bipush (v := 27) hx hb dX6_repair_62 (by decide) ?_
      refine lv_iload_n hx hb dX6_repair_64 rfl (lv_at hl 2 rfl) ?_
      refine lv_iadd hx hb dX6_repair_65 ?_
      refine lv_iconst (v := 0) hx hb dX6_repair_66 (by decide) ?_
      refine st_M0 (x := 0) hx hb hK hP hD hS (vin2 (by assumption) (by decide)) dX6_repair_67 (fun H locs hP hD hS => ?_)
      refine lv_aload_n hx hb dX6_repair_68 rfl (lv_at hl 1 rfl) ?_
      refine va_get (v := .ref (a 0)) (C := RX6) (T := TX6) (N := 6) (ci := 6) hx hb hts hinX6 hown hK hP 0 rfl rfl 0 (by decide) (hts (.fieldLink RX6 7 "AxleKeeperModel" "w" "[I") (by decide +kernel)) (fun _ h9 => h9) rfl dX6_repair_69 ?_
      refine lv_bipush (v := 34) hx hb dX6_repair_72 (by decide) ?_
      refine lv_iload_n hx hb dX6_repair_74 rfl (lv_at hl 2 rfl) ?_
      refine lv_iadd hx hb dX6_repair_75 ?_
      refine lv_iconst (v := 0) hx hb dX6_repair_76 (by decide) ?_
      refine st_M0 (x := 0) hx hb hK hP hD hS (vin2 (by assumption) (by decide)) dX6_repair_77 (fun H locs hP hD hS => ?_)
      refine lv_iload_n hx hb dX6_repair_78 rfl (lv_at hl 0 rfl) ?_
      have hρ : kX6_repair f x1 = (1, (up2 (up2 (up2 (kX6_remember f) 0 (ix (62 + x1)) 0) 0 (ix (27 + x1)) 0) 0 (ix (34 + x1)) 0)) := (if_neg c_5).trans ((if_neg c_20).trans ((if_pos c_39)))
      exact e_wi hx hb hr hlk hK hP hD hS dX6_repair_79 (congrArg Prod.fst hρ).symm (congrArg (fun z => (MW cI h a z.2 ++ X)) hρ).symm
    have c_20 : (f 0 (ix (62 + x1))) = 0 := c_20
    refine lv_ldc (v := (-1000000003)) hx hb hown (hts (.constant RX6 124 (-1000000003)) (by decide +kernel)) dX6_repair_23 ?_
    have hρ : kX6_repair f x1 = ((-1000000003), f) := (if_neg c_5).trans ((if_pos c_20))
    exact e_wi hx hb hr hlk hK hP hD hS dX6_repair_25 (congrArg Prod.fst hρ).symm (congrArg (fun z => (MW cI h a z.2 ++ X)) hρ).symm
  have c_5 : (kX6_isHead f x1) = 0 := c_5
  refine lv_ldc (v := (-1000000001)) hx hb hown (hts (.constant RX6 102 (-1000000001)) (by decide +kernel)) dX6_repair_8 ?_
  have hρ : kX6_repair f x1 = ((-1000000001), f) := (if_pos c_5)
  exact e_wi hx hb hr hlk hK hP hD hS dX6_repair_10 (congrArg Prod.fst hρ).symm (congrArg (fun z => (MW cI h a z.2 ++ X)) hρ).symm
theorem ndX6_draw : yX6_draw.cls = RX6 ∧ yX6_draw.cls ≠ "java/lang/invoke/MethodHandle" ∧ yX6_draw.cls ≠ "java/lang/invoke/VarHandle" ∧ (parseMethodDescriptor yX6_draw.desc).map (fun d => d.parameters.length) = some 1 := by decide +kernel
set_option maxHeartbeats 4000000 in
set_option maxRecDepth 100000 in
theorem okX6_draw (l : Launch) (D : va_G) (cI cZ cQ : ClassId) (h : Nat) (a : Nat → Nat) (X : va_W) (f : Nat → Nat → Int32) (x1 : Int32) (sz : Nat) (h1 : ¬ x1 = 0) : Met l yX6_draw wsX6_draw ({ frames := 0, cells := 0, slots := 0, locals := 0 }) (PW [.ref h, .int x1] sz D (TY cI cZ cQ) (MW cI h a f ++ X)) (QI (kX6_draw f x1).1 D (TY cI cZ cQ) (MW cI h a (kX6_draw f x1).2 ++ X) (va_A (MW cI h a f ++ X) sz)) 0 0 (va_A (MW cI h a f ++ X) sz) := by
  refine m_wr (cc := cX6_draw) (maxL := 4) (ret := (some .int)) (by decide) rfl (Nat.le_of_ble_eq_true rfl) (lv0 := [(0, .ref h), (1, .int x1)]) rfl ?_
  intro p e s m below meth c ls A hAe S hr hlk hP hK hD hS hA hl
  rw [← hAe]
  have S : CallFix p m c cX6_draw 4 s ([.ref h, .int x1] : List Value).toArray wsX6_draw RX6 := S
  have hx := S.1
  have hb := S.2.1
  have hown : s.vm.findClass RX6 = some m.cls := S.2.2.2.1
  have hts := S.2.2.2.2
  have hinX6 : ∀ w ∈ wsX60, w ∈ wsX6_draw := by decide +kernel
  refine lv_aload_n hx hb dX6_draw_0 rfl (lv_at hl 0 rfl) ?_
  refine va_get (v := .ref (a 0)) (C := RX6) (T := TX6) (N := 6) (ci := 6) hx hb hts hinX6 hown hK hP 0 rfl rfl 0 (by decide) (hts (.fieldLink RX6 7 "AxleKeeperModel" "w" "[I") (by decide +kernel)) (fun _ h9 => h9) rfl dX6_draw_1 ?_
  refine lv_bipush (v := 83) hx hb dX6_draw_4 (by decide) ?_
  refine va_iald hx hb hK hP 1 0 rfl rfl (n := 1680) (vin_c (by decide)) dX6_draw_6 ?_
  refine lv_i2l hx hb dX6_draw_7 rfl ?_
  refine lv_ldc2 (v := 1103515245) hx hb hown (hts (.constantLong RX6 147 (1103515245)) (by decide +kernel)) dX6_draw_8 ?_
  refine lv_lmul hx hb dX6_draw_11 ?_
  refine lv_ldc2 (v := 12345) hx hb hown (hts (.constantLong RX6 149 (12345)) (by decide +kernel)) dX6_draw_12 ?_
  refine lv_ladd hx hb dX6_draw_15 ?_
  refine lv_ldc2 (v := 2147483648) hx hb hown (hts (.constantLong RX6 151 (2147483648)) (by decide +kernel)) dX6_draw_16 ?_
  refine lv_lrem hx hb dX6_draw_19 (by decide) ?_
  refine lv_lstore_n (lv' := [(2, .long (remL ((((f 0 (ix 83))).toInt64 * 1103515245) + 12345) 2147483648)), (0, .ref h), (1, .int x1)]) hx hb dX6_draw_20 rfl hl (by decide) rfl (fun ls hl => ?_)
  refine lv_aload_n hx hb dX6_draw_21 rfl (lv_at hl 1 rfl) ?_
  refine va_get (v := .ref (a 0)) (C := RX6) (T := TX6) (N := 6) (ci := 6) hx hb hts hinX6 hown hK hP 0 rfl rfl 0 (by decide) (hts (.fieldLink RX6 7 "AxleKeeperModel" "w" "[I") (by decide +kernel)) (fun _ h9 => h9) rfl dX6_draw_22 ?_
  refine lv_bipush (v := 83) hx hb dX6_draw_25 (by decide) ?_
  refine lv_lload_n hx hb dX6_draw_27 rfl (lv_at hl 0 rfl) ?_
  refine lv_l2i hx hb dX6_draw_28 rfl ?_
  refine st_M0 (x := (((remL ((((f 0 (ix 83))).toInt64 * 1103515245) + 12345) 2147483648)).toInt32)) hx hb hK hP hD hS (vin_c (by decide)) dX6_draw_29 (fun H locs hP hD hS => ?_)
  refine lv_aload_n hx hb dX6_draw_30 rfl (lv_at hl 1 rfl) ?_
  refine va_get (v := .ref (a 0)) (C := RX6) (T := TX6) (N := 6) (ci := 6) hx hb hts hinX6 hown hK hP 0 rfl rfl 0 (by decide) (hts (.fieldLink RX6 7 "AxleKeeperModel" "w" "[I") (by decide +kernel)) (fun _ h9 => h9) rfl dX6_draw_31 ?_
  refine lv_bipush (v := 83) hx hb dX6_draw_34 (by decide) ?_
  refine va_iald hx hb hK hP 1 0 rfl rfl (n := 1680) (vin_c (by decide)) dX6_draw_36 ?_
  refine lv_ldc (v := 65536) hx hb hown (hts (.constant RX6 153 (65536)) (by decide +kernel)) dX6_draw_37 ?_
  refine lv_idiv hx hb dX6_draw_39 (by decide) ?_
  refine lv_iload_n hx hb dX6_draw_40 rfl (lv_at hl 2 rfl) ?_
  refine lv_irem hx hb dX6_draw_41 h1 ?_
  have hρ : kX6_draw f x1 = ((remI (((remL ((((f 0 (ix 83))).toInt64 * 1103515245) + 12345) 2147483648)).toInt32 / 65536) x1), (up2 f 0 (ix 83) ((remL ((((f 0 (ix 83))).toInt64 * 1103515245) + 12345) 2147483648)).toInt32)) := rfl
  exact e_wi hx hb hr hlk hK hP hD hS dX6_draw_42 (congrArg Prod.fst hρ).symm (congrArg (fun z => (MW cI h a z.2 ++ X)) hρ).symm
