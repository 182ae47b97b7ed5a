theorem ndX5_feel : yX5_feel.cls = RX5 ∧ yX5_feel.cls ≠ "java/lang/invoke/MethodHandle" ∧ yX5_feel.cls ≠ "java/lang/invoke/VarHandle" ∧ (parseMethodDescriptor yX5_feel.desc).map (fun d => d.parameters.length) = some 2 := by decide +kernel
set_option maxHeartbeats 4000000 in
set_option maxRecDepth 100000 in
theorem okX5_feel (l : Launch) (D : va_G) (cI cZ cQ : ClassId) (h : Nat) (a b : Nat → Nat) (X : va_W) (f g : Nat → Nat → Int32) (x1 x2 : Int32) (sz : Nat) (t : Nat) (hok : okL f) (hn : vp_in (g 2 0) 16) : Met l yX5_feel wsX5_feel ({ frames := 4, cells := 0, slots := 0, locals := 83 }) (PWt [.ref (b 0), .int x1, .int x2] sz D (TY cI cZ cQ) (LW cI h a f ++ (KR cI cZ cQ h b g ++ X)) t) (QI (kX5_feel f g x1 x2).1 D (TY cI cZ cQ) (LW cI h a (kX5_feel f g x1 x2).2.1 ++ (KR cI cZ cQ h b (kX5_feel f g x1 x2).2.2 ++ X)) (va_A (LW cI h a f ++ (KR cI cZ cQ h b g ++ X)) sz)) 0 0 (va_A (LW cI h a f ++ (KR cI cZ cQ h b g ++ X)) sz) := by
  refine m_wt (cc := cX5_feel) (maxL := 3) (ret := (some .int)) (by decide) rfl (Nat.le_of_ble_eq_true rfl) (lv0 := [(0, .ref (b 0)), (1, .int x1), (2, .int x2)]) rfl ?_
  intro p e s m below meth c ls A hAe S hr hlk hP hK hD hS hA hPT hl
  rw [← hAe]
  have S : CallFix p m c cX5_feel 3 s ([.ref (b 0), .int x1, .int x2] : List Value).toArray wsX5_feel RX5 := S
  have hx := S.1
  have hb := S.2.1
  have hown : s.vm.findClass RX5 = some m.cls := S.2.2.2.1
  have hts := S.2.2.2.2
  have hinX3 : ∀ w ∈ wsX30, w ∈ wsX5_feel := by decide +kernel
  have hinX5 : ∀ w ∈ wsX50, w ∈ wsX5_feel := by decide +kernel
  refine lv_aload_n hx hb dX5_feel_0 rfl (lv_at hl 0 rfl) ?_
  refine va_get (v := .ref h) (C := RX5) (T := TX5) (N := 6) (ci := 5) hx hb hts hinX5 hown hK hP 13 rfl rfl 0 (by decide) (hts (.fieldLink RX5 10 "AxleKeeper" "now" "LAxleKeeper$Line;") (by decide +kernel)) (fun _ h9 => h9) rfl dX5_feel_1 ?_
  refine lv_iload_n hx hb dX5_feel_4 rfl (lv_at hl 1 rfl) ?_
  refine k_rd (As := [.int x1]) (rest := []) (bytes := cX3_hasHead) (C := RX3) S (okX3_hasHead l D cI cZ cQ h a (KR cI cZ cQ h b g ++ X) f x1) gX5_feel_X3_hasHead rfl ⟨rfl, rfl⟩ ndX3_hasHead ⟨Nat.le_of_ble_eq_true rfl, Nat.le_of_ble_eq_true rfl⟩ hK hP 0 rfl rfl rfl hl rfl (Nat.le_of_ble_eq_true rfl) dX5_feel_5 ⟨Nat.zero_le _, Nat.zero_le _⟩ ?_
  refine lv_if_ne (tgt := 14) hx hb dX5_feel_8 (by decide) (fun c_8 => ?_) (fun c_8 => ?_)
  · have c_8 : ¬ ((kX3_hasHead f x1) = 0) := c_8
    have h7 : vp_in x1 7 := hh_in hok c_8
    refine lv_iload_n hx hb dX5_feel_14 rfl (lv_at hl 2 rfl) ?_
    refine lv_if_lt (tgt := 23) hx hb dX5_feel_15 (by decide) (fun c_15 => ?_) (fun c_15 => ?_)
    · have c_15 : x2 < 0 := c_15
      refine lv_ldc (v := (-1000000002)) hx hb hown (hts (.constant RX5 97 (-1000000002)) (by decide +kernel)) dX5_feel_23 ?_
      have hρ : kX5_feel f g x1 x2 = ((-1000000002), f, g) := (if_neg c_8).trans ((if_pos c_15))
      exact e_wi hx hb hr hlk hK hP hD hS dX5_feel_25 (congrArg Prod.fst hρ).symm (congrArg (fun z => (LW cI h a z.2.1 ++ (KR cI cZ cQ h b z.2.2 ++ X))) hρ).symm
    have c_15 : ¬ (x2 < 0) := c_15
    refine lv_iload_n hx hb dX5_feel_18 rfl (lv_at hl 2 rfl) ?_
    refine lv_iconst (v := 3) hx hb dX5_feel_19 (by decide) ?_
    refine lv_icmp_le (tgt := 26) hx hb dX5_feel_20 (by decide) (fun c_20 => ?_) (fun c_20 => ?_)
    · have c_20 : x2 ≤ 3 := c_20
      refine lv_aload_n hx hb dX5_feel_26 rfl (lv_at hl 0 rfl) ?_
      refine va_get (v := .ref h) (C := RX5) (T := TX5) (N := 6) (ci := 5) hx hb hts hinX5 hown hK hP 13 rfl rfl 0 (by decide) (hts (.fieldLink RX5 10 "AxleKeeper" "now" "LAxleKeeper$Line;") (by decide +kernel)) (fun _ h9 => h9) rfl dX5_feel_27 ?_
      refine va_get (v := .ref (a 6)) (C := RX3) (T := TX3) (N := 15) (ci := 3) hx hb hts hinX3 hown hK hP 0 rfl rfl 6 (by decide) (hts (.fieldLink RX5 142 "AxleKeeper$Line" "faulty" "[I") (by decide +kernel)) (fun _ h9 => h9) rfl dX5_feel_30 ?_
      refine lv_iload_n hx hb dX5_feel_33 rfl (lv_at hl 1 rfl) ?_
      refine va_iald hx hb hK hP 4 0 rfl rfl (n := 7) (by assumption) dX5_feel_34 ?_
      refine lv_iconst (v := 1) hx hb dX5_feel_35 (by decide) ?_
      refine lv_icmp_eq (tgt := 52) hx hb dX5_feel_36 (by decide) (fun c_36 => ?_) (fun c_36 => ?_)
      · have c_36 : (f 6 (ix x1)) = 1 := c_36
        refine lv_ldc (v := (-1000000003)) hx hb hown (hts (.constant RX5 167 (-1000000003)) (by decide +kernel)) dX5_feel_52 ?_
        have hρ : kX5_feel f g x1 x2 = ((-1000000003), f, g) := (if_neg c_8).trans ((if_neg c_15).trans ((if_pos c_20).trans ((if_pos c_36))))
        exact e_wi hx hb hr hlk hK hP hD hS dX5_feel_54 (congrArg Prod.fst hρ).symm (congrArg (fun z => (LW cI h a z.2.1 ++ (KR cI cZ cQ h b z.2.2 ++ X))) hρ).symm
      have c_36 : ¬ ((f 6 (ix x1)) = 1) := c_36
      refine lv_aload_n hx hb dX5_feel_39 rfl (lv_at hl 0 rfl) ?_
      refine va_get (v := .ref h) (C := RX5) (T := TX5) (N := 6) (ci := 5) hx hb hts hinX5 hown hK hP 13 rfl rfl 0 (by decide) (hts (.fieldLink RX5 10 "AxleKeeper" "now" "LAxleKeeper$Line;") (by decide +kernel)) (fun _ h9 => h9) rfl dX5_feel_40 ?_
      refine va_get (v := .ref (a 3)) (C := RX3) (T := TX3) (N := 15) (ci := 3) hx hb hts hinX3 hown hK hP 0 rfl rfl 3 (by decide) (hts (.fieldLink RX5 127 "AxleKeeper$Line" "state" "[I") (by decide +kernel)) (fun _ h9 => h9) rfl dX5_feel_43 ?_
      refine lv_iload_n hx hb dX5_feel_46 rfl (lv_at hl 1 rfl) ?_
      refine va_iald hx hb hK hP 1 0 rfl rfl (n := 7) (by assumption) dX5_feel_47 ?_
      refine lv_iload_n hx hb dX5_feel_48 rfl (lv_at hl 2 rfl) ?_
      refine lv_icmp_ne (tgt := 55) hx hb dX5_feel_49 (by decide) (fun c_49 => ?_) (fun c_49 => ?_)
      · have c_49 : ¬ ((f 3 (ix x1)) = x2) := c_49
        refine lv_aload_n hx hb dX5_feel_55 rfl (lv_at hl 0 rfl) ?_
        refine va_get (v := .ref (b 2)) (C := RX5) (T := TX5) (N := 6) (ci := 5) hx hb hts hinX5 hown hK hP 13 rfl rfl 1 (by decide) (hts (.fieldLink RX5 19 "AxleKeeper" "past" "LAxleKeeper$Past;") (by decide +kernel)) (fun _ h9 => h9) rfl dX5_feel_56 ?_
        refine lv_aload_n hx hb dX5_feel_59 rfl (lv_at hl 0 rfl) ?_
        refine va_get (v := .ref h) (C := RX5) (T := TX5) (N := 6) (ci := 5) hx hb hts hinX5 hown hK hP 13 rfl rfl 0 (by decide) (hts (.fieldLink RX5 10 "AxleKeeper" "now" "LAxleKeeper$Line;") (by decide +kernel)) (fun _ h9 => h9) rfl dX5_feel_60 ?_
        refine k_wv (As := [.ref h]) (rest := []) (bytes := cX4_add) (C := RX4) S (okX4_add l D cI cZ cQ h a b X f g _ (by assumption)) gX5_feel_X4_add rfl ⟨rfl, rfl⟩ ndX4_add ⟨Nat.le_of_ble_eq_true rfl, Nat.le_of_ble_eq_true rfl⟩ hK hP hD hS hA 15 rfl rfl rfl hl rfl (Nat.le_of_ble_eq_true rfl) dX5_feel_63 ⟨Nat.zero_le _, Nat.zero_le _⟩ (fun H locs hP hD hS => ?_)
        have hP : va_P D vwCl (LW cI h a f ++ (KR cI cZ cQ h b (kX4_add f g) ++ X)) H := hP
        have hD : va_D A (LW cI h a f ++ (KR cI cZ cQ h b (kX4_add f g) ++ X)) := hD
        refine lv_aload_n hx hb dX5_feel_66 rfl (lv_at hl 0 rfl) ?_
        refine va_get (v := .ref h) (C := RX5) (T := TX5) (N := 6) (ci := 5) hx hb hts hinX5 hown hK hP 13 rfl rfl 0 (by decide) (hts (.fieldLink RX5 10 "AxleKeeper" "now" "LAxleKeeper$Line;") (by decide +kernel)) (fun _ h9 => h9) rfl dX5_feel_67 ?_
        refine lv_iload_n hx hb dX5_feel_70 rfl (lv_at hl 1 rfl) ?_
        refine lv_iload_n hx hb dX5_feel_71 rfl (lv_at hl 2 rfl) ?_
        refine k_wt (As := [.int x1, .int x2]) (rest := []) (bytes := cX3_stepTo) (C := RX3) S (okX3_stepTo l D cI cZ cQ h a (KR cI cZ cQ h b (kX4_add f g) ++ X) f x1 x2 _ t (by assumption)) gX5_feel_X3_stepTo rfl ⟨rfl, rfl⟩ ndX3_stepTo ⟨Nat.le_of_ble_eq_true rfl, Nat.le_of_ble_eq_true rfl⟩ hK hP hD hS hA hPT 0 rfl rfl rfl hl rfl (Nat.le_of_ble_eq_true rfl) dX5_feel_72 ⟨Nat.zero_le _, Nat.zero_le _⟩ (fun H locs hP hD hS => ?_)
        have hP : va_P D vwCl (LW cI h a (kX3_stepTo f x1 x2).2 ++ (KR cI cZ cQ h b (kX4_add f g) ++ X)) H := hP
        have hD : va_D A (LW cI h a (kX3_stepTo f x1 x2).2 ++ (KR cI cZ cQ h b (kX4_add f g) ++ X)) := hD
        have hρ : kX5_feel f g x1 x2 = ((kX3_stepTo f x1 x2).1, (kX3_stepTo f x1 x2).2, (kX4_add f g)) := (if_neg c_8).trans ((if_neg c_15).trans ((if_pos c_20).trans ((if_neg c_36).trans ((if_neg c_49)))))
        exact e_wi hx hb hr hlk hK hP hD hS dX5_feel_75 (congrArg Prod.fst hρ).symm (congrArg (fun z => (LW cI h a z.2.1 ++ (KR cI cZ cQ h b z.2.2 ++ X))) hρ).symm
      have c_49 : (f 3 (ix x1)) = x2 := c_49
      refine lv_ldc (v := (-1000000003)) hx hb hown (hts (.constant RX5 167 (-1000000003)) (by decide +kernel)) dX5_feel_52 ?_
      have hρ : kX5_feel f g x1 x2 = ((-1000000003), f, g) := (if_neg c_8).trans ((if_neg c_15).trans ((if_pos c_20).trans ((if_neg c_36).trans ((if_pos c_49)))))
      exact e_wi hx hb hr hlk hK hP hD hS dX5_feel_54 (congrArg Prod.fst hρ).symm (congrArg (fun z => (LW cI h a z.2.1 ++ (KR cI cZ cQ h b z.2.2 ++ X))) hρ).symm
    have c_20 : ¬ (x2 ≤ 3) := c_20
    refine lv_ldc (v := (-1000000002)) hx hb hown (hts (.constant RX5 97 (-1000000002)) (by decide +kernel)) dX5_feel_23 ?_
    have hρ : kX5_feel f g x1 x2 = ((-1000000002), f, g) := (if_neg c_8).trans ((if_neg c_15).trans ((if_neg c_20)))
    exact e_wi hx hb hr hlk hK hP hD hS dX5_feel_25 (congrArg Prod.fst hρ).symm (congrArg (fun z => (LW cI h a z.2.1 ++ (KR cI cZ cQ h b z.2.2 ++ X))) hρ).symm
  have c_8 : (kX3_hasHead f x1) = 0 := c_8
  refine lv_ldc (v := (-1000000001)) hx hb hown (hts (.constant RX5 102 (-1000000001)) (by decide +kernel)) dX5_feel_11 ?_
  have hρ : kX5_feel f g x1 x2 = ((-1000000001), f, g) := (if_pos c_8)
  exact e_wi hx hb hr hlk hK hP hD hS dX5_feel_13 (congrArg Prod.fst hρ).symm (congrArg (fun z => (LW cI h a z.2.1 ++ (KR cI cZ cQ h b z.2.2 ++ X))) hρ).symm
theorem ndX5_go : yX5_go.cls = RX5 ∧ yX5_go.cls ≠ "java/lang/invoke/MethodHandle" ∧ yX5_go.cls ≠ "java/lang/invoke/VarHandle" ∧ (parseMethodDescriptor yX5_go.desc).map (fun d => d.parameters.length) = some 3 := by decide +kernel
set_option maxHeartbeats 4000000 in
set_option maxRecDepth 100000 in
theorem okX5_go (l : Launch) (D : va_G) (cI cZ cQ : ClassId) (h : Nat) (a b : Nat → Nat) (X : va_W) (f g : Nat → Nat → Int32) (x1 x2 x3 : Int32) (sz : Nat) (hok : okL f) (hn : vp_in (g 2 0) 16) : Met l yX5_go wsX5_go ({ frames := 4, cells := 0, slots := 0, locals := 90 }) (PW [.ref (b 0), .int x1, .int x2, .int x3] sz D (TY cI cZ cQ) (LW cI h a f ++ (KR cI cZ cQ h b g ++ X))) (QI (kX5_go f g x1 x2 x3).1 D (TY cI cZ cQ) (LW cI h a (kX5_go f g x1 x2 x3).2.1 ++ (KR cI cZ cQ h b (kX5_go f g x1 x2 x3).2.2 ++ X)) (va_A (LW cI h a f ++ (KR cI cZ cQ h b g ++ X)) sz)) 0 0 (va_A (LW cI h a f ++ (KR cI cZ cQ h b g ++ X)) sz) := by
  refine m_wr (cc := cX5_go) (maxL := 5) (ret := (some .int)) (by decide) rfl (Nat.le_of_ble_eq_true rfl) (lv0 := [(0, .ref (b 0)), (1, .int x1), (2, .int x2), (3, .int x3)]) rfl ?_
  intro p e s m below meth c ls A hAe S hr hlk hP hK hD hS hA hl
  rw [← hAe]
  have S : CallFix p m c cX5_go 5 s ([.ref (b 0), .int x1, .int x2, .int x3] : List Value).toArray wsX5_go RX5 := S
  have hx := S.1
  have hb := S.2.1
  have hown : s.vm.findClass RX5 = some m.cls := S.2.2.2.1
  have hts := S.2.2.2.2
  have hinX5 : ∀ w ∈ wsX50, w ∈ wsX5_go := by decide +kernel
  refine lv_aload_n hx hb dX5_go_0 rfl (lv_at hl 0 rfl) ?_
  refine lv_iload_n hx hb dX5_go_1 rfl (lv_at hl 1 rfl) ?_
  refine lv_iload_n hx hb dX5_go_2 rfl (lv_at hl 2 rfl) ?_
  refine lv_iload_n hx hb dX5_go_3 rfl (lv_at hl 3 rfl) ?_
  refine k_rd (As := [.int x1, .int x2, .int x3]) (rest := []) (bytes := cX5_refusalToMove) (C := RX5) S (okX5_refusalToMove l D cI cZ cQ h a b X f g x1 x2 x3 (by assumption)) gX5_go_X5_refusalToMove rfl ⟨rfl, rfl⟩ ndX5_refusalToMove ⟨Nat.le_of_ble_eq_true rfl, Nat.le_of_ble_eq_true rfl⟩ hK hP 13 rfl rfl rfl hl rfl (Nat.le_of_ble_eq_true rfl) dX5_go_4 ⟨Nat.zero_le _, Nat.zero_le _⟩ ?_
  refine lv_istore (lv' := [(4, .int (kX5_refusalToMove f g x1 x2 x3)), (0, .ref (b 0)), (1, .int x1), (2, .int x2), (3, .int x3)]) hx hb dX5_go_7 hl (by decide) rfl (fun ls hl => ?_)
  refine lv_iload hx hb dX5_go_9 (lv_at hl 0 rfl) ?_
  refine lv_if_eq (tgt := 17) hx hb dX5_go_11 (by decide) (fun c_11 => ?_) (fun c_11 => ?_)
  · have c_11 : (kX5_refusalToMove f g x1 x2 x3) = 0 := c_11
    have h7 : vp_in x1 7 := rf_in hok c_11
    refine lv_aload_n hx hb dX5_go_17 rfl (lv_at hl 1 rfl) ?_
    refine va_get (v := .ref h) (C := RX5) (T := TX5) (N := 6) (ci := 5) hx hb hts hinX5 hown hK hP 13 rfl rfl 0 (by decide) (hts (.fieldLink RX5 10 "AxleKeeper" "now" "LAxleKeeper$Line;") (by decide +kernel)) (fun _ h9 => h9) rfl dX5_go_18 ?_
    refine lv_iload_n hx hb dX5_go_21 rfl (lv_at hl 2 rfl) ?_
    refine k_rd (As := [.int x1]) (rest := []) (bytes := cX3_feelsAll) (C := RX3) S (okX3_feelsAll l D cI cZ cQ h a (KR cI cZ cQ h b g ++ X) f x1 (by assumption)) gX5_go_X3_feelsAll rfl ⟨rfl, rfl⟩ ndX3_feelsAll ⟨Nat.le_of_ble_eq_true rfl, Nat.le_of_ble_eq_true rfl⟩ hK hP 0 rfl rfl rfl hl rfl (Nat.le_of_ble_eq_true rfl) dX5_go_22 ⟨Nat.zero_le _, Nat.zero_le _⟩ ?_
    refine lv_if_ne (tgt := 31) hx hb dX5_go_25 (by decide) (fun c_25 => ?_) (fun c_25 => ?_)
    · have c_25 : ¬ ((kX3_feelsAll f x1) = 0) := c_25
      refine lv_aload_n hx hb dX5_go_31 rfl (lv_at hl 1 rfl) ?_
      refine va_get (v := .ref (b 2)) (C := RX5) (T := TX5) (N := 6) (ci := 5) hx hb hts hinX5 hown hK hP 13 rfl rfl 1 (by decide) (hts (.fieldLink RX5 19 "AxleKeeper" "past" "LAxleKeeper$Past;") (by decide +kernel)) (fun _ h9 => h9) rfl dX5_go_32 ?_
      refine lv_aload_n hx hb dX5_go_35 rfl (lv_at hl 1 rfl) ?_
      refine va_get (v := .ref h) (C := RX5) (T := TX5) (N := 6) (ci := 5) hx hb hts hinX5 hown hK hP 13 rfl rfl 0 (by decide) (hts (.fieldLink RX5 10 "AxleKeeper" "now" "LAxleKeeper$Line;") (by decide +kernel)) (fun _ h9 => h9) rfl dX5_go_36 ?_
      refine k_wv (As := [.ref h]) (rest := []) (bytes := cX4_add) (C := RX4) S (okX4_add l D cI cZ cQ h a b X f g _ (by assumption)) gX5_go_X4_add rfl ⟨rfl, rfl⟩ ndX4_add ⟨Nat.le_of_ble_eq_true rfl, Nat.le_of_ble_eq_true rfl⟩ hK hP hD hS hA 15 rfl rfl rfl hl rfl (Nat.le_of_ble_eq_true rfl) dX5_go_39 ⟨Nat.zero_le _, Nat.zero_le _⟩ (fun H locs hP hD hS => ?_)
      have hP : va_P D vwCl (LW cI h a f ++ (KR cI cZ cQ h b (kX4_add f g) ++ X)) H := hP
      have hD : va_D A (LW cI h a f ++ (KR cI cZ cQ h b (kX4_add f g) ++ X)) := hD
      refine lv_aload_n hx hb dX5_go_42 rfl (lv_at hl 1 rfl) ?_
      refine va_get (v := .ref h) (C := RX5) (T := TX5) (N := 6) (ci := 5) hx hb hts hinX5 hown hK hP 13 rfl rfl 0 (by decide) (hts (.fieldLink RX5 10 "AxleKeeper" "now" "LAxleKeeper$Line;") (by decide +kernel)) (fun _ h9 => h9) rfl dX5_go_43 ?_
      refine lv_iload_n hx hb dX5_go_46 rfl (lv_at hl 2 rfl) ?_
      refine lv_iload_n hx hb dX5_go_47 rfl (lv_at hl 3 rfl) ?_
      refine lv_iload_n hx hb dX5_go_48 rfl (lv_at hl 4 rfl) ?_
      refine lv_iconst (v := 1) hx hb dX5_go_49 (by decide) ?_
      refine k_wi (As := [.int x1, .int x2, .int x3, .int 1]) (rest := []) (bytes := cX3_carry) (C := RX3) S (okX3_carry l D cI cZ cQ h a (KR cI cZ cQ h b (kX4_add f g) ++ X) f x1 x2 x3 1 _ (by assumption) (by assumption)) gX5_go_X3_carry rfl ⟨rfl, rfl⟩ ndX3_carry ⟨Nat.le_of_ble_eq_true rfl, Nat.le_of_ble_eq_true rfl⟩ hK hP hD hS hA 0 rfl rfl rfl hl rfl (Nat.le_of_ble_eq_true rfl) dX5_go_50 ⟨Nat.zero_le _, Nat.zero_le _⟩ (fun H locs hP hD hS => ?_)
      have hP : va_P D vwCl (LW cI h a (kX3_carry f x1 x2 x3 1).2 ++ (KR cI cZ cQ h b (kX4_add f g) ++ X)) H := hP
      have hD : va_D A (LW cI h a (kX3_carry f x1 x2 x3 1).2 ++ (KR cI cZ cQ h b (kX4_add f g) ++ X)) := hD
      have hρ : kX5_go f g x1 x2 x3 = ((kX3_carry f x1 x2 x3 1).1, (kX3_carry f x1 x2 x3 1).2, (kX4_add f g)) := (if_pos c_11).trans ((if_neg c_25))
      exact e_wi hx hb hr hlk hK hP hD hS dX5_go_53 (congrArg Prod.fst hρ).symm (congrArg (fun z => (LW cI h a z.2.1 ++ (KR cI cZ cQ h b z.2.2 ++ X))) hρ).symm
    have c_25 : (kX3_feelsAll f x1) = 0 := c_25
    refine lv_ldc (v := (-1000000003)) hx hb hown (hts (.constant RX5 167 (-1000000003)) (by decide +kernel)) dX5_go_28 ?_
    have hρ : kX5_go f g x1 x2 x3 = ((-1000000003), f, g) := (if_pos c_11).trans ((if_pos c_25))
    exact e_wi hx hb hr hlk hK hP hD hS dX5_go_30 (congrArg Prod.fst hρ).symm (congrArg (fun z => (LW cI h a z.2.1 ++ (KR cI cZ cQ h b z.2.2 ++ X))) hρ).symm
  have c_11 : ¬ ((kX5_refusalToMove f g x1 x2 x3) = 0) := c_11
  refine lv_iload hx hb dX5_go_14 (lv_at hl 0 rfl) ?_
  have hρ : kX5_go f g x1 x2 x3 = ((kX5_refusalToMove f g x1 x2 x3), f, g) := (if_neg c_11)
  exact e_wi hx hb hr hlk hK hP hD hS dX5_go_16 (congrArg Prod.fst hρ).symm (congrArg (fun z => (LW cI h a z.2.1 ++ (KR cI cZ cQ h b z.2.2 ++ X))) hρ).symm
theorem ndX5_miss : yX5_miss.cls = RX5 ∧ yX5_miss.cls ≠ "java/lang/invoke/MethodHandle" ∧ yX5_miss.cls ≠ "java/lang/invoke/VarHandle" ∧ (parseMethodDescriptor yX5_miss.desc).map (fun d => d.parameters.length) = some 3 := by decide +kernel
set_option maxHeartbeats 4000000 in
set_option maxRecDepth 100000 in
theorem okX5_miss (l : Launch) (D : va_G) (cI cZ cQ : ClassId) (h : Nat) (a b : Nat → Nat) (X : va_W) (f g : Nat → Nat → Int32) (x1 x2 x3 : Int32) (sz : Nat) (hok : okL f) (hn : vp_in (g 2 0) 16) : Met l yX5_miss wsX5_miss ({ frames := 4, cells := 0, slots := 0, locals := 90 }) (PW [.ref (b 0), .int x1, .int x2, .int x3] sz D (TY cI cZ cQ) (LW cI h a f ++ (KR cI cZ cQ h b g ++ X))) (QI (kX5_miss f g x1 x2 x3).1 D (TY cI cZ cQ) (LW cI h a (kX5_miss f g x1 x2 x3).2.1 ++ (KR cI cZ cQ h b (kX5_miss f g x1 x2 x3).2.2 ++ X)) (va_A (LW cI h a f ++ (KR cI cZ cQ h b g ++ X)) sz)) 0 0 (va_A (LW cI h a f ++ (KR cI cZ cQ h b g ++ X)) sz) := by
  refine m_wr (cc := cX5_miss) (maxL := 5) (ret := (some .int)) (by decide) rfl (Nat.le_of_ble_eq_true rfl) (lv0 := [(0, .ref (b 0)), (1, .int x1), (2, .int x2), (3, .int x3)]) rfl ?_
  intro p e s m below meth c ls A hAe S hr hlk hP hK hD hS hA hl
  rw [← hAe]
  have S : CallFix p m c cX5_miss 5 s ([.ref (b 0), .int x1, .int x2, .int x3] : List Value).toArray wsX5_miss RX5 := S
  have hx := S.1
  have hb := S.2.1
  have hown : s.vm.findClass RX5 = some m.cls := S.2.2.2.1
  have hts := S.2.2.2.2
  have hinX5 : ∀ w ∈ wsX50, w ∈ wsX5_miss := by decide +kernel
  refine lv_aload_n hx hb dX5_miss_0 rfl (lv_at hl 0 rfl) ?_
  refine lv_iload_n hx hb dX5_miss_1 rfl (lv_at hl 1 rfl) ?_
  refine lv_iload_n hx hb dX5_miss_2 rfl (lv_at hl 2 rfl) ?_
  refine lv_iload_n hx hb dX5_miss_3 rfl (lv_at hl 3 rfl) ?_
  refine k_rd (As := [.int x1, .int x2, .int x3]) (rest := []) (bytes := cX5_refusalToMove) (C := RX5) S (okX5_refusalToMove l D cI cZ cQ h a b X f g x1 x2 x3 (by assumption)) gX5_miss_X5_refusalToMove rfl ⟨rfl, rfl⟩ ndX5_refusalToMove ⟨Nat.le_of_ble_eq_true rfl, Nat.le_of_ble_eq_true rfl⟩ hK hP 13 rfl rfl rfl hl rfl (Nat.le_of_ble_eq_true rfl) dX5_miss_4 ⟨Nat.zero_le _, Nat.zero_le _⟩ ?_
  refine lv_istore (lv' := [(4, .int (kX5_refusalToMove f g x1 x2 x3)), (0, .ref (b 0)), (1, .int x1), (2, .int x2), (3, .int x3)]) hx hb dX5_miss_7 hl (by decide) rfl (fun ls hl => ?_)
  refine lv_iload hx hb dX5_miss_9 (lv_at hl 0 rfl) ?_
  refine lv_if_eq (tgt := 17) hx hb dX5_miss_11 (by decide) (fun c_11 => ?_) (fun c_11 => ?_)
  · have c_11 : (kX5_refusalToMove f g x1 x2 x3) = 0 := c_11
    have h7 : vp_in x1 7 := rf_in hok c_11
    refine lv_aload_n hx hb dX5_miss_17 rfl (lv_at hl 1 rfl) ?_
    refine va_get (v := .ref (b 2)) (C := RX5) (T := TX5) (N := 6) (ci := 5) hx hb hts hinX5 hown hK hP 13 rfl rfl 1 (by decide) (hts (.fieldLink RX5 19 "AxleKeeper" "past" "LAxleKeeper$Past;") (by decide +kernel)) (fun _ h9 => h9) rfl dX5_miss_18 ?_
    refine lv_aload_n hx hb dX5_miss_21 rfl (lv_at hl 1 rfl) ?_
    refine va_get (v := .ref h) (C := RX5) (T := TX5) (N := 6) (ci := 5) hx hb hts hinX5 hown hK hP 13 rfl rfl 0 (by decide) (hts (.fieldLink RX5 10 "AxleKeeper" "now" "LAxleKeeper$Line;") (by decide +kernel)) (fun _ h9 => h9) rfl dX5_miss_22 ?_
    refine k_wv (As := [.ref h]) (rest := []) (bytes := cX4_add) (C := RX4) S (okX4_add l D cI cZ cQ h a b X f g _ (by assumption)) gX5_miss_X4_add rfl ⟨rfl, rfl⟩ ndX4_add ⟨Nat.le_of_ble_eq_true rfl, Nat.le_of_ble_eq_true rfl⟩ hK hP hD hS hA 15 rfl rfl rfl hl rfl (Nat.le_of_ble_eq_true rfl) dX5_miss_25 ⟨Nat.zero_le _, Nat.zero_le _⟩ (fun H locs hP hD hS => ?_)
    have hP : va_P D vwCl (LW cI h a f ++ (KR cI cZ cQ h b (kX4_add f g) ++ X)) H := hP
    have hD : va_D A (LW cI h a f ++ (KR cI cZ cQ h b (kX4_add f g) ++ X)) := hD
    refine lv_aload_n hx hb dX5_miss_28 rfl (lv_at hl 1 rfl) ?_
    refine va_get (v := .ref h) (C := RX5) (T := TX5) (N := 6) (ci := 5) hx hb hts hinX5 hown hK hP 13 rfl rfl 0 (by decide) (hts (.fieldLink RX5 10 "AxleKeeper" "now" "LAxleKeeper$Line;") (by decide +kernel)) (fun _ h9 => h9) rfl dX5_miss_29 ?_
    refine lv_iload_n hx hb dX5_miss_32 rfl (lv_at hl 2 rfl) ?_
    refine lv_iload_n hx hb dX5_miss_33 rfl (lv_at hl 3 rfl) ?_
    refine lv_iload_n hx hb dX5_miss_34 rfl (lv_at hl 4 rfl) ?_
    refine lv_iconst (v := 0) hx hb dX5_miss_35 (by decide) ?_
    refine k_wi (As := [.int x1, .int x2, .int x3, .int 0]) (rest := []) (bytes := cX3_carry) (C := RX3) S (okX3_carry l D cI cZ cQ h a (KR cI cZ cQ h b (kX4_add f g) ++ X) f x1 x2 x3 0 _ (by assumption) (by assumption)) gX5_miss_X3_carry rfl ⟨rfl, rfl⟩ ndX3_carry ⟨Nat.le_of_ble_eq_true rfl, Nat.le_of_ble_eq_true rfl⟩ hK hP hD hS hA 0 rfl rfl rfl hl rfl (Nat.le_of_ble_eq_true rfl) dX5_miss_36 ⟨Nat.zero_le _, Nat.zero_le _⟩ (fun H locs hP hD hS => ?_)
    have hP : va_P D vwCl (LW cI h a (kX3_carry f x1 x2 x3 0).2 ++ (KR cI cZ cQ h b (kX4_add f g) ++ X)) H := hP
    have hD : va_D A (LW cI h a (kX3_carry f x1 x2 x3 0).2 ++ (KR cI cZ cQ h b (kX4_add f g) ++ X)) := hD
    have hρ : kX5_miss f g x1 x2 x3 = ((kX3_carry f x1 x2 x3 0).1, (kX3_carry f x1 x2 x3 0).2, (kX4_add f g)) := (if_pos c_11)
    exact e_wi hx hb hr hlk hK hP hD hS dX5_miss_39 (congrArg Prod.fst hρ).symm (congrArg (fun z => (LW cI h a z.2.1 ++ (KR cI cZ cQ h b z.2.2 ++ X))) hρ).symm
  have c_11 : ¬ ((kX5_refusalToMove f g x1 x2 x3) = 0) := c_11
  refine lv_iload hx hb dX5_miss_14 (lv_at hl 0 rfl) ?_
  have hρ : kX5_miss f g x1 x2 x3 = ((kX5_refusalToMove f g x1 x2 x3), f, g) := (if_neg c_11)
  exact e_wi hx hb hr hlk hK hP hD hS dX5_miss_16 (congrArg Prod.fst hρ).symm (congrArg (fun z => (LW cI h a z.2.1 ++ (KR cI cZ cQ h b z.2.2 ++ X))) hρ).symm
theorem ndX5_tick : yX5_tick.cls = RX5 ∧ yX5_tick.cls ≠ "java/lang/invoke/MethodHandle" ∧ yX5_tick.cls ≠ "java/lang/invoke/VarHandle" ∧ (parseMethodDescriptor yX5_tick.desc).map (fun d => d.parameters.length) = some 1 := by decide +kernel
set_option maxHeartbeats 4000000 in
set_option maxRecDepth 100000 in
theorem okX5_tick (l : Launch) (D : va_G) (cI cZ cQ : ClassId) (h : Nat) (a b : Nat → Nat) (X : va_W) (f g : Nat → Nat → Int32) (x1 : Int32) (sz : Nat) (hok : okL f) (hn : vp_in (g 2 0) 16) : Met l yX5_tick wsX5_tick ({ frames := 5, cells := 0, slots := 0, locals := 112 }) (PW [.ref (b 0), .int x1] sz D (TY cI cZ cQ) (LW cI h a f ++ (KR cI cZ cQ h b g ++ X))) (QI (kX5_tick f g x1).1 D (TY cI cZ cQ) (LW cI h a (kX5_tick f g x1).2.1 ++ (KR cI cZ cQ h b (kX5_tick f g x1).2.2 ++ X)) (va_A (LW cI h a f ++ (KR cI cZ cQ h b g ++ X)) sz)) 0 0 (va_A (LW cI h a f ++ (KR cI cZ cQ h b g ++ X)) sz) := by
  refine m_wr (cc := cX5_tick) (maxL := 2) (ret := (some .int)) (by decide) rfl (Nat.le_of_ble_eq_true rfl) (lv0 := [(0, .ref (b 0)), (1, .int x1)]) rfl ?_
  intro p e s m below meth c ls A hAe S hr hlk hP hK hD hS hA hl
  rw [← hAe]
  have S : CallFix p m c cX5_tick 2 s ([.ref (b 0), .int x1] : List Value).toArray wsX5_tick RX5 := S
  have hx := S.1
  have hb := S.2.1
  have hown : s.vm.findClass RX5 = some m.cls := S.2.2.2.1
  have hts := S.2.2.2.2
  have hinX5 : ∀ w ∈ wsX50, w ∈ wsX5_tick := by decide +kernel
  refine lv_aload_n hx hb dX5_tick_0 rfl (lv_at hl 0 rfl) ?_
  refine va_get (v := .ref h) (C := RX5) (T := TX5) (N := 6) (ci := 5) hx hb hts hinX5 hown hK hP 13 rfl rfl 0 (by decide) (hts (.fieldLink RX5 10 "AxleKeeper" "now" "LAxleKeeper$Line;") (by decide +kernel)) (fun _ h9 => h9) rfl dX5_tick_1 ?_
  refine lv_iload_n hx hb dX5_tick_4 rfl (lv_at hl 1 rfl) ?_
  refine k_rd (As := [.int x1]) (rest := []) (bytes := cX3_hasHeads) (C := RX3) S (okX3_hasHeads l D cI cZ cQ h a (KR cI cZ cQ h b g ++ X) f x1) gX5_tick_X3_hasHeads rfl ⟨rfl, rfl⟩ ndX3_hasHeads ⟨Nat.le_of_ble_eq_true rfl, Nat.le_of_ble_eq_true rfl⟩ hK hP 0 rfl rfl rfl hl rfl (Nat.le_of_ble_eq_true rfl) dX5_tick_5 ⟨Nat.zero_le _, Nat.zero_le _⟩ ?_
  refine lv_if_ne (tgt := 14) hx hb dX5_tick_8 (by decide) (fun c_8 => ?_) (fun c_8 => ?_)
  · have c_8 : ¬ ((kX3_hasHeads f x1) = 0) := c_8
    refine lv_aload_n hx hb dX5_tick_14 rfl (lv_at hl 0 rfl) ?_
    refine va_get (v := .ref (b 2)) (C := RX5) (T := TX5) (N := 6) (ci := 5) hx hb hts hinX5 hown hK hP 13 rfl rfl 1 (by decide) (hts (.fieldLink RX5 19 "AxleKeeper" "past" "LAxleKeeper$Past;") (by decide +kernel)) (fun _ h9 => h9) rfl dX5_tick_15 ?_
    refine lv_aload_n hx hb dX5_tick_18 rfl (lv_at hl 0 rfl) ?_
    refine va_get (v := .ref h) (C := RX5) (T := TX5) (N := 6) (ci := 5) hx hb hts hinX5 hown hK hP 13 rfl rfl 0 (by decide) (hts (.fieldLink RX5 10 "AxleKeeper" "now" "LAxleKeeper$Line;") (by decide +kernel)) (fun _ h9 => h9) rfl dX5_tick_19 ?_
    refine k_wv (As := [.ref h]) (rest := []) (bytes := cX4_add) (C := RX4) S (okX4_add l D cI cZ cQ h a b X f g _ (by assumption)) gX5_tick_X4_add rfl ⟨rfl, rfl⟩ ndX4_add ⟨Nat.le_of_ble_eq_true rfl, Nat.le_of_ble_eq_true rfl⟩ hK hP hD hS hA 15 rfl rfl rfl hl rfl (Nat.le_of_ble_eq_true rfl) dX5_tick_22 ⟨Nat.zero_le _, Nat.zero_le _⟩ (fun H locs hP hD hS => ?_)
    have hP : va_P D vwCl (LW cI h a f ++ (KR cI cZ cQ h b (kX4_add f g) ++ X)) H := hP
    have hD : va_D A (LW cI h a f ++ (KR cI cZ cQ h b (kX4_add f g) ++ X)) := hD
    refine lv_aload_n hx hb dX5_tick_25 rfl (lv_at hl 0 rfl) ?_
    refine va_get (v := .ref h) (C := RX5) (T := TX5) (N := 6) (ci := 5) hx hb hts hinX5 hown hK hP 13 rfl rfl 0 (by decide) (hts (.fieldLink RX5 10 "AxleKeeper" "now" "LAxleKeeper$Line;") (by decide +kernel)) (fun _ h9 => h9) rfl dX5_tick_26 ?_
    refine lv_iload_n hx hb dX5_tick_29 rfl (lv_at hl 1 rfl) ?_
    refine k_wv (As := [.int x1]) (rest := []) (bytes := cX3_pass) (C := RX3) S (okX3_pass l D cI cZ cQ h a (KR cI cZ cQ h b (kX4_add f g) ++ X) f x1 _ (by assumption)) gX5_tick_X3_pass rfl ⟨rfl, rfl⟩ ndX3_pass ⟨Nat.le_of_ble_eq_true rfl, Nat.le_of_ble_eq_true rfl⟩ hK hP hD hS hA 0 rfl rfl rfl hl rfl (Nat.le_of_ble_eq_true rfl) dX5_tick_30 ⟨Nat.zero_le _, Nat.zero_le _⟩ (fun H locs hP hD hS => ?_)
    have hP : va_P D vwCl (LW cI h a (kX3_pass f x1) ++ (KR cI cZ cQ h b (kX4_add f g) ++ X)) H := hP
    have hD : va_D A (LW cI h a (kX3_pass f x1) ++ (KR cI cZ cQ h b (kX4_add f g) ++ X)) := hD
    refine lv_aload_n hx hb dX5_tick_33 rfl (lv_at hl 0 rfl) ?_
    refine va_get (v := .ref h) (C := RX5) (T := TX5) (N := 6) (ci := 5) hx hb hts hinX5 hown hK hP 13 rfl rfl 0 (by decide) (hts (.fieldLink RX5 10 "AxleKeeper" "now" "LAxleKeeper$Line;") (by decide +kernel)) (fun _ h9 => h9) rfl dX5_tick_34 ?_
    refine lv_iconst (v := 0) hx hb dX5_tick_37 (by decide) ?_
    refine k_rd (As := [.int 0]) (rest := []) (bytes := cX3_called) (C := RX3) S (okX3_called l D cI cZ cQ h a (KR cI cZ cQ h b (kX4_add f g) ++ X) (kX3_pass f x1) 0 (ok_pass hok)) gX5_tick_X3_called rfl ⟨rfl, rfl⟩ ndX3_called ⟨Nat.le_of_ble_eq_true rfl, Nat.le_of_ble_eq_true rfl⟩ hK hP 0 rfl rfl rfl hl rfl (Nat.le_of_ble_eq_true rfl) dX5_tick_38 ⟨Nat.zero_le _, Nat.zero_le _⟩ ?_
    have hρ : kX5_tick f g x1 = ((kX3_called (kX3_pass f x1) 0), (kX3_pass f x1), (kX4_add f g)) := (if_neg c_8)
    exact e_wi hx hb hr hlk hK hP hD hS dX5_tick_41 (congrArg Prod.fst hρ).symm (congrArg (fun z => (LW cI h a z.2.1 ++ (KR cI cZ cQ h b z.2.2 ++ X))) hρ).symm
  have c_8 : (kX3_hasHeads f x1) = 0 := c_8
  refine lv_ldc (v := (-1000000001)) hx hb hown (hts (.constant RX5 102 (-1000000001)) (by decide +kernel)) dX5_tick_11 ?_
  have hρ : kX5_tick f g x1 = ((-1000000001), f, g) := (if_pos c_8)
  exact e_wi hx hb hr hlk hK hP hD hS dX5_tick_13 (congrArg Prod.fst hρ).symm (congrArg (fun z => (LW cI h a z.2.1 ++ (KR cI cZ cQ h b z.2.2 ++ X))) hρ).symm
theorem ndX5_reset : yX5_reset.cls = RX5 ∧ yX5_reset.cls ≠ "java/lang/invoke/MethodHandle" ∧ yX5_reset.cls ≠ "java/lang/invoke/VarHandle" ∧ (parseMethodDescriptor yX5_reset.desc).map (fun d => d.parameters.length) = some 1 := by decide +kernel
set_option maxHeartbeats 4000000 in
set_option maxRecDepth 100000 in
theorem okX5_reset (l : Launch) (D : va_G) (cI cZ cQ : ClassId) (h : Nat) (a b : Nat → Nat) (X : va_W) (f g : Nat → Nat → Int32) (x1 : Int32) (sz : Nat) (hok : okL f) (hn : vp_in (g 2 0) 16) : Met l yX5_reset wsX5_reset ({ frames := 4, cells := 0, slots := 0, locals := 83 }) (PW [.ref (b 0), .int x1] sz D (TY cI cZ cQ) (LW cI h a f ++ (KR cI cZ cQ h b g ++ X))) (QI (kX5_reset f g x1).1 D (TY cI cZ cQ) (LW cI h a (kX5_reset f g x1).2.1 ++ (KR cI cZ cQ h b (kX5_reset f g x1).2.2 ++ X)) (va_A (LW cI h a f ++ (KR cI cZ cQ h b g ++ X)) sz)) 0 0 (va_A (LW cI h a f ++ (KR cI cZ cQ h b g ++ X)) sz) := by
  refine m_wr (cc := cX5_reset) (maxL := 3) (ret := (some .int)) (by decide) rfl (Nat.le_of_ble_eq_true rfl) (lv0 := [(0, .ref (b 0)), (1, .int x1)]) rfl ?_
  intro p e s m below meth c ls A hAe S hr hlk hP hK hD hS hA hl
  rw [← hAe]
  have S : CallFix p m c cX5_reset 3 s ([.ref (b 0), .int x1] : List Value).toArray wsX5_reset RX5 := S
  have hx := S.1
  have hb := S.2.1
  have hown : s.vm.findClass RX5 = some m.cls := S.2.2.2.1
  have hts := S.2.2.2.2
  have hinX3 : ∀ w ∈ wsX30, w ∈ wsX5_reset := by decide +kernel
  have hinX5 : ∀ w ∈ wsX50, w ∈ wsX5_reset := by decide +kernel
  refine lv_aload_n hx hb dX5_reset_0 rfl (lv_at hl 0 rfl) ?_
  refine va_get (v := .ref h) (C := RX5) (T := TX5) (N := 6) (ci := 5) hx hb hts hinX5 hown hK hP 13 rfl rfl 0 (by decide) (hts (.fieldLink RX5 10 "AxleKeeper" "now" "LAxleKeeper$Line;") (by decide +kernel)) (fun _ h9 => h9) rfl dX5_reset_1 ?_
  refine lv_iload_n hx hb dX5_reset_4 rfl (lv_at hl 1 rfl) ?_
  refine k_rd (As := [.int x1]) (rest := []) (bytes := cX3_hasSection) (C := RX3) S (okX3_hasSection l D cI cZ cQ h a (KR cI cZ cQ h b g ++ X) f x1) gX5_reset_X3_hasSection rfl ⟨rfl, rfl⟩ ndX3_hasSection ⟨Nat.le_of_ble_eq_true rfl, Nat.le_of_ble_eq_true rfl⟩ hK hP 0 rfl rfl rfl hl rfl (Nat.le_of_ble_eq_true rfl) dX5_reset_5 ⟨Nat.zero_le _, Nat.zero_le _⟩ ?_
  refine lv_if_ne (tgt := 14) hx hb dX5_reset_8 (by decide) (fun c_8 => ?_) (fun c_8 => ?_)
  · have c_8 : ¬ ((kX3_hasSection f x1) = 0) := c_8
    have h6 : vp_in x1 6 := hs_in hok c_8
    refine lv_aload_n hx hb dX5_reset_14 rfl (lv_at hl 0 rfl) ?_
    refine va_get (v := .ref h) (C := RX5) (T := TX5) (N := 6) (ci := 5) hx hb hts hinX5 hown hK hP 13 rfl rfl 0 (by decide) (hts (.fieldLink RX5 10 "AxleKeeper" "now" "LAxleKeeper$Line;") (by decide +kernel)) (fun _ h9 => h9) rfl dX5_reset_15 ?_
    refine va_get (v := .ref (a 12)) (C := RX3) (T := TX3) (N := 15) (ci := 3) hx hb hts hinX3 hown hK hP 0 rfl rfl 12 (by decide) (hts (.fieldLink RX5 103 "AxleKeeper$Line" "call" "[I") (by decide +kernel)) (fun _ h9 => h9) rfl dX5_reset_18 ?_
    refine lv_iload_n hx hb dX5_reset_21 rfl (lv_at hl 1 rfl) ?_
    refine va_iald hx hb hK hP 10 0 rfl rfl (n := 6) (by assumption) dX5_reset_22 ?_
    refine lv_iconst (v := 2) hx hb dX5_reset_23 (by decide) ?_
    refine lv_icmp_eq (tgt := 30) hx hb dX5_reset_24 (by decide) (fun c_24 => ?_) (fun c_24 => ?_)
    · have c_24 : (f 12 (ix x1)) = 2 := c_24
      refine lv_aload_n hx hb dX5_reset_30 rfl (lv_at hl 0 rfl) ?_
      refine va_get (v := .ref (b 2)) (C := RX5) (T := TX5) (N := 6) (ci := 5) hx hb hts hinX5 hown hK hP 13 rfl rfl 1 (by decide) (hts (.fieldLink RX5 19 "AxleKeeper" "past" "LAxleKeeper$Past;") (by decide +kernel)) (fun _ h9 => h9) rfl dX5_reset_31 ?_
      refine lv_aload_n hx hb dX5_reset_34 rfl (lv_at hl 0 rfl) ?_
      refine va_get (v := .ref h) (C := RX5) (T := TX5) (N := 6) (ci := 5) hx hb hts hinX5 hown hK hP 13 rfl rfl 0 (by decide) (hts (.fieldLink RX5 10 "AxleKeeper" "now" "LAxleKeeper$Line;") (by decide +kernel)) (fun _ h9 => h9) rfl dX5_reset_35 ?_
      refine k_wv (As := [.ref h]) (rest := []) (bytes := cX4_add) (C := RX4) S (okX4_add l D cI cZ cQ h a b X f g _ (by assumption)) gX5_reset_X4_add rfl ⟨rfl, rfl⟩ ndX4_add ⟨Nat.le_of_ble_eq_true rfl, Nat.le_of_ble_eq_true rfl⟩ hK hP hD hS hA 15 rfl rfl rfl hl rfl (Nat.le_of_ble_eq_true rfl) dX5_reset_38 ⟨Nat.zero_le _, Nat.zero_le _⟩ (fun H locs hP hD hS => ?_)
      have hP : va_P D vwCl (LW cI h a f ++ (KR cI cZ cQ h b (kX4_add f g) ++ X)) H := hP
      have hD : va_D A (LW cI h a f ++ (KR cI cZ cQ h b (kX4_add f g) ++ X)) := hD
      refine lv_aload_n hx hb dX5_reset_41 rfl (lv_at hl 0 rfl) ?_
      refine va_get (v := .ref h) (C := RX5) (T := TX5) (N := 6) (ci := 5) hx hb hts hinX5 hown hK hP 13 rfl rfl 0 (by decide) (hts (.fieldLink RX5 10 "AxleKeeper" "now" "LAxleKeeper$Line;") (by decide +kernel)) (fun _ h9 => h9) rfl dX5_reset_42 ?_
      refine va_get (v := .ref (a 11)) (C := RX3) (T := TX3) (N := 15) (ci := 3) hx hb hts hinX3 hown hK hP 0 rfl rfl 11 (by decide) (hts (.fieldLink RX5 106 "AxleKeeper$Line" "sum" "[I") (by decide +kernel)) (fun _ h9 => h9) rfl dX5_reset_45 ?_
      refine lv_iload_n hx hb dX5_reset_48 rfl (lv_at hl 1 rfl) ?_
      refine va_iald hx hb hK hP 9 0 rfl rfl (n := 6) (by assumption) dX5_reset_49 ?_
      refine lv_istore_n (lv' := [(2, .int (f 11 (ix x1))), (0, .ref (b 0)), (1, .int x1)]) hx hb dX5_reset_50 rfl hl (by decide) rfl (fun ls hl => ?_)
      refine lv_aload_n hx hb dX5_reset_51 rfl (lv_at hl 1 rfl) ?_
      refine va_get (v := .ref h) (C := RX5) (T := TX5) (N := 6) (ci := 5) hx hb hts hinX5 hown hK hP 13 rfl rfl 0 (by decide) (hts (.fieldLink RX5 10 "AxleKeeper" "now" "LAxleKeeper$Line;") (by decide +kernel)) (fun _ h9 => h9) rfl dX5_reset_52 ?_
      refine lv_iload_n hx hb dX5_reset_55 rfl (lv_at hl 2 rfl) ?_
      refine k_wv (As := [.int x1]) (rest := []) (bytes := cX3_awaitSweep) (C := RX3) S (okX3_awaitSweep l D cI cZ cQ h a (KR cI cZ cQ h b (kX4_add f g) ++ X) f x1 _ (by assumption)) gX5_reset_X3_awaitSweep rfl ⟨rfl, rfl⟩ ndX3_awaitSweep ⟨Nat.le_of_ble_eq_true rfl, Nat.le_of_ble_eq_true rfl⟩ hK hP hD hS hA 0 rfl rfl rfl hl rfl (Nat.le_of_ble_eq_true rfl) dX5_reset_56 ⟨Nat.zero_le _, Nat.zero_le _⟩ (fun H locs hP hD hS => ?_)
      have hP : va_P D vwCl (LW cI h a (kX3_awaitSweep f x1) ++ (KR cI cZ cQ h b (kX4_add f g) ++ X)) H := hP
      have hD : va_D A (LW cI h a (kX3_awaitSweep f x1) ++ (KR cI cZ cQ h b (kX4_add f g) ++ X)) := hD
      refine lv_iload_n hx hb dX5_reset_59 rfl (lv_at hl 0 rfl) ?_
      refine lv_sipush (v := 1000) hx hb dX5_reset_60 (by decide) ?_
      refine lv_iadd hx hb dX5_reset_63 ?_
      have hρ : kX5_reset f g x1 = (((f 11 (ix x1)) + 1000), (kX3_awaitSweep f x1), (kX4_add f g)) := (if_neg c_8).trans ((if_pos c_24))
      exact e_wi hx hb hr hlk hK hP hD hS dX5_reset_64 (congrArg Prod.fst hρ).symm (congrArg (fun z => (LW cI h a z.2.1 ++ (KR cI cZ cQ h b z.2.2 ++ X))) hρ).symm
    have c_24 : ¬ ((f 12 (ix x1)) = 2) := c_24
    refine lv_ldc (v := (-1000000003)) hx hb hown (hts (.constant RX5 167 (-1000000003)) (by decide +kernel)) dX5_reset_27 ?_
    have hρ : kX5_reset f g x1 = ((-1000000003), f, g) := (if_neg c_8).trans ((if_neg c_24))
    exact e_wi hx hb hr hlk hK hP hD hS dX5_reset_29 (congrArg Prod.fst hρ).symm (congrArg (fun z => (LW cI h a z.2.1 ++ (KR cI cZ cQ h b z.2.2 ++ X))) hρ).symm
  have c_8 : (kX3_hasSection f x1) = 0 := c_8
  refine lv_ldc (v := (-1000000001)) hx hb hown (hts (.constant RX5 102 (-1000000001)) (by decide +kernel)) dX5_reset_11 ?_
  have hρ : kX5_reset f g x1 = ((-1000000001), f, g) := (if_pos c_8)
  exact e_wi hx hb hr hlk hK hP hD hS dX5_reset_13 (congrArg Prod.fst hρ).symm (congrArg (fun z => (LW cI h a z.2.1 ++ (KR cI cZ cQ h b z.2.2 ++ X))) hρ).symm
theorem ndX5_repair : yX5_repair.cls = RX5 ∧ yX5_repair.cls ≠ "java/lang/invoke/MethodHandle" ∧ yX5_repair.cls ≠ "java/lang/invoke/VarHandle" ∧ (parseMethodDescriptor yX5_repair.desc).map (fun d => d.parameters.length) = some 1 := by decide +kernel
set_option maxHeartbeats 4000000 in
set_option maxRecDepth 100000 in
theorem okX5_repair (l : Launch) (D : va_G) (cI cZ cQ : ClassId) (h : Nat) (a b : Nat → Nat) (X : va_W) (f g : Nat → Nat → Int32) (x1 : Int32) (sz : Nat) (hok : okL f) (hn : vp_in (g 2 0) 16) : Met l yX5_repair wsX5_repair ({ frames := 4, cells := 0, slots := 0, locals := 83 }) (PW [.ref (b 0), .int x1] sz D (TY cI cZ cQ) (LW cI h a f ++ (KR cI cZ cQ h b g ++ X))) (QI (kX5_repair f g x1).1 D (TY cI cZ cQ) (LW cI h a (kX5_repair f g x1).2.1 ++ (KR cI cZ cQ h b (kX5_repair f g x1).2.2 ++ X)) (va_A (LW cI h a f ++ (KR cI cZ cQ h b g ++ X)) sz)) 0 0 (va_A (LW cI h a f ++ (KR cI cZ cQ h b g ++ X)) sz) := by
  refine m_wr (cc := cX5_repair) (maxL := 3) (ret := (some .int)) (by decide) rfl (Nat.le_of_ble_eq_true rfl) (lv0 := [(0, .ref (b 0)), (1, .int x1)]) rfl ?_
  intro p e s m below meth c ls A hAe S hr hlk hP hK hD hS hA hl
  rw [← hAe]
  have S : CallFix p m c cX5_repair 3 s ([.ref (b 0), .int x1] : List Value).toArray wsX5_repair RX5 := S
  have hx := S.1
  have hb := S.2.1
  have hown : s.vm.findClass RX5 = some m.cls := S.2.2.2.1
  have hts := S.2.2.2.2
  have hinX3 : ∀ w ∈ wsX30, w ∈ wsX5_repair := by decide +kernel
  have hinX5 : ∀ w ∈ wsX50, w ∈ wsX5_repair := by decide +kernel
  refine lv_aload_n hx hb dX5_repair_0 rfl (lv_at hl 0 rfl) ?_
  refine va_get (v := .ref h) (C := RX5) (T := TX5) (N := 6) (ci := 5) hx hb hts hinX5 hown hK hP 13 rfl rfl 0 (by decide) (hts (.fieldLink RX5 10 "AxleKeeper" "now" "LAxleKeeper$Line;") (by decide +kernel)) (fun _ h9 => h9) rfl dX5_repair_1 ?_
  refine lv_iload_n hx hb dX5_repair_4 rfl (lv_at hl 1 rfl) ?_
  refine k_rd (As := [.int x1]) (rest := []) (bytes := cX3_hasHead) (C := RX3) S (okX3_hasHead l D cI cZ cQ h a (KR cI cZ cQ h b g ++ X) f x1) gX5_repair_X3_hasHead rfl ⟨rfl, rfl⟩ ndX3_hasHead ⟨Nat.le_of_ble_eq_true rfl, Nat.le_of_ble_eq_true rfl⟩ hK hP 0 rfl rfl rfl hl rfl (Nat.le_of_ble_eq_true rfl) dX5_repair_5 ⟨Nat.zero_le _, Nat.zero_le _⟩ ?_
  refine lv_if_ne (tgt := 14) hx hb dX5_repair_8 (by decide) (fun c_8 => ?_) (fun c_8 => ?_)
  · have c_8 : ¬ ((kX3_hasHead f x1) = 0) := c_8
    have h7 : vp_in x1 7 := hh_in hok c_8
    refine lv_aload_n hx hb dX5_repair_14 rfl (lv_at hl 0 rfl) ?_
    refine va_get (v := .ref h) (C := RX5) (T := TX5) (N := 6) (ci := 5) hx hb hts hinX5 hown hK hP 13 rfl rfl 0 (by decide) (hts (.fieldLink RX5 10 "AxleKeeper" "now" "LAxleKeeper$Line;") (by decide +kernel)) (fun _ h9 => h9) rfl dX5_repair_15 ?_
    refine va_get (v := .ref (a 6)) (C := RX3) (T := TX3) (N := 15) (ci := 3) hx hb hts hinX3 hown hK hP 0 rfl rfl 6 (by decide) (hts (.fieldLink RX5 142 "AxleKeeper$Line" "faulty" "[I") (by decide +kernel)) (fun _ h9 => h9) rfl dX5_repair_18 ?_
    refine lv_iload_n hx hb dX5_repair_21 rfl (lv_at hl 1 rfl) ?_
    refine va_iald hx hb hK hP 4 0 rfl rfl (n := 7) (by assumption) dX5_repair_22 ?_
    refine lv_if_ne (tgt := 29) hx hb dX5_repair_23 (by decide) (fun c_23 => ?_) (fun c_23 => ?_)
    · have c_23 : ¬ ((f 6 (ix x1)) = 0) := c_23
      refine lv_aload_n hx hb dX5_repair_29 rfl (lv_at hl 0 rfl) ?_
      refine va_get (v := .ref (b 2)) (C := RX5) (T := TX5) (N := 6) (ci := 5) hx hb hts hinX5 hown hK hP 13 rfl rfl 1 (by decide) (hts (.fieldLink RX5 19 "AxleKeeper" "past" "LAxleKeeper$Past;") (by decide +kernel)) (fun _ h9 => h9) rfl dX5_repair_30 ?_
      refine lv_aload_n hx hb dX5_repair_33 rfl (lv_at hl 0 rfl) ?_
      refine va_get (v := .ref h) (C := RX5) (T := TX5) (N := 6) (ci := 5) hx hb hts hinX5 hown hK hP 13 rfl rfl 0 (by decide) (hts (.fieldLink RX5 10 "AxleKeeper" "now" "LAxleKeeper$Line;") (by decide +kernel)) (fun _ h9 => h9) rfl dX5_repair_34 ?_
      refine k_wv (As := [.ref h]) (rest := []) (bytes := cX4_add) (C := RX4) S (okX4_add l D cI cZ cQ h a b X f g _ (by assumption)) gX5_repair_X4_add rfl ⟨rfl, rfl⟩ ndX4_add ⟨Nat.le_of_ble_eq_true rfl, Nat.le_of_ble_eq_true rfl⟩ hK hP hD hS hA 15 rfl rfl rfl hl rfl (Nat.le_of_ble_eq_true rfl) dX5_repair_37 ⟨Nat.zero_le _, Nat.zero_le _⟩ (fun H locs hP hD hS => ?_)
      have hP : va_P D vwCl (LW cI h a f ++ (KR cI cZ cQ h b (kX4_add f g) ++ X)) H := hP
      have hD : va_D A (LW cI h a f ++ (KR cI cZ cQ h b (kX4_add f g) ++ X)) := hD
      refine lv_aload_n hx hb dX5_repair_40 rfl (lv_at hl 0 rfl) ?_
      refine va_get (v := .ref h) (C := RX5) (T := TX5) (N := 6) (ci := 5) hx hb hts hinX5 hown hK hP 13 rfl rfl 0 (by decide) (hts (.fieldLink RX5 10 "AxleKeeper" "now" "LAxleKeeper$Line;") (by decide +kernel)) (fun _ h9 => h9) rfl dX5_repair_41 ?_
      refine va_get (v := .ref (a 3)) (C := RX3) (T := TX3) (N := 15) (ci := 3) hx hb hts hinX3 hown hK hP 0 rfl rfl 3 (by decide) (hts (.fieldLink RX5 127 "AxleKeeper$Line" "state" "[I") (by decide +kernel)) (fun _ h9 => h9) rfl dX5_repair_44 ?_
      refine lv_iload_n hx hb dX5_repair_47 rfl (lv_at hl 1 rfl) ?_
      refine va_iald hx hb hK hP 1 0 rfl rfl (n := 7) (by assumption) dX5_repair_48 ?_
      refine lv_istore_n (lv' := [(2, .int (f 3 (ix x1))), (0, .ref (b 0)), (1, .int x1)]) hx hb dX5_repair_49 rfl hl (by decide) rfl (fun ls hl => ?_)
      refine lv_aload_n hx hb dX5_repair_50 rfl (lv_at hl 1 rfl) ?_
      refine va_get (v := .ref h) (C := RX5) (T := TX5) (N := 6) (ci := 5) hx hb hts hinX5 hown hK hP 13 rfl rfl 0 (by decide) (hts (.fieldLink RX5 10 "AxleKeeper" "now" "LAxleKeeper$Line;") (by decide +kernel)) (fun _ h9 => h9) rfl dX5_repair_51 ?_
      refine lv_iload_n hx hb dX5_repair_54 rfl (lv_at hl 2 rfl) ?_
      refine k_wv (As := [.int x1]) (rest := []) (bytes := cX3_mend) (C := RX3) S (okX3_mend l D cI cZ cQ h a (KR cI cZ cQ h b (kX4_add f g) ++ X) f x1 _ (by assumption)) gX5_repair_X3_mend rfl ⟨rfl, rfl⟩ ndX3_mend ⟨Nat.le_of_ble_eq_true rfl, Nat.le_of_ble_eq_true rfl⟩ hK hP hD hS hA 0 rfl rfl rfl hl rfl (Nat.le_of_ble_eq_true rfl) dX5_repair_55 ⟨Nat.zero_le _, Nat.zero_le _⟩ (fun H locs hP hD hS => ?_)
      have hP : va_P D vwCl (LW cI h a (kX3_mend f x1) ++ (KR cI cZ cQ h b (kX4_add f g) ++ X)) H := hP
      have hD : va_D A (LW cI h a (kX3_mend f x1) ++ (KR cI cZ cQ h b (kX4_add f g) ++ X)) := hD
      refine lv_iload_n hx hb dX5_repair_58 rfl (lv_at hl 0 rfl) ?_
      refine lv_if_ne (tgt := 66) hx hb dX5_repair_59 (by decide) (fun c_59 => ?_) (fun c_59 => ?_)
      · have c_59 : ¬ ((f 3 (ix x1)) = 0) := c_59
        refine lv_iconst (v := 0) hx hb dX5_repair_66 (by decide) ?_
        have hρ : kX5_repair f g x1 = (0, (kX3_mend f x1), (kX4_add f g)) := (if_neg c_8).trans ((if_neg c_23).trans ((if_neg c_59)))
        exact e_wi hx hb hr hlk hK hP hD hS dX5_repair_67 (congrArg Prod.fst hρ).symm (congrArg (fun z => (LW cI h a z.2.1 ++ (KR cI cZ cQ h b z.2.2 ++ X))) hρ).symm
      have c_59 : (f 3 (ix x1)) = 0 := c_59
      refine lv_iconst (v := 1) hx hb dX5_repair_62 (by decide) ?_
      refine lv_goto (tgt := 67) hx hb dX5_repair_63 (by decide) ?_
      have hρ : kX5_repair f g x1 = (1, (kX3_mend f x1), (kX4_add f g)) := (if_neg c_8).trans ((if_neg c_23).trans ((if_pos c_59)))
      exact e_wi hx hb hr hlk hK hP hD hS dX5_repair_67 (congrArg Prod.fst hρ).symm (congrArg (fun z => (LW cI h a z.2.1 ++ (KR cI cZ cQ h b z.2.2 ++ X))) hρ).symm
    have c_23 : (f 6 (ix x1)) = 0 := c_23
    refine lv_ldc (v := (-1000000003)) hx hb hown (hts (.constant RX5 167 (-1000000003)) (by decide +kernel)) dX5_repair_26 ?_
    have hρ : kX5_repair f g x1 = ((-1000000003), f, g) := (if_neg c_8).trans ((if_pos c_23))
    exact e_wi hx hb hr hlk hK hP hD hS dX5_repair_28 (congrArg Prod.fst hρ).symm (congrArg (fun z => (LW cI h a z.2.1 ++ (KR cI cZ cQ h b z.2.2 ++ X))) hρ).symm
  have c_8 : (kX3_hasHead f x1) = 0 := c_8
  refine lv_ldc (v := (-1000000001)) hx hb hown (hts (.constant RX5 102 (-1000000001)) (by decide +kernel)) dX5_repair_11 ?_
  have hρ : kX5_repair f g x1 = ((-1000000001), f, g) := (if_pos c_8)
  exact e_wi hx hb hr hlk hK hP hD hS dX5_repair_13 (congrArg Prod.fst hρ).symm (congrArg (fun z => (LW cI h a z.2.1 ++ (KR cI cZ cQ h b z.2.2 ++ X))) hρ).symm
theorem ndX5_undo : yX5_undo.cls = RX5 ∧ yX5_undo.cls ≠ "java/lang/invoke/MethodHandle" ∧ yX5_undo.cls ≠ "java/lang/invoke/VarHandle" ∧ (parseMethodDescriptor yX5_undo.desc).map (fun d => d.parameters.length) = some 1 := by decide +kernel
set_option maxHeartbeats 4000000 in
set_option maxRecDepth 100000 in
theorem okX5_undo (l : Launch) (D : va_G) (cI cZ cQ : ClassId) (h : Nat) (a b : Nat → Nat) (X : va_W) (f g : Nat → Nat → Int32) (x1 : Int32) (sz : Nat) (hn : vp_in (g 2 0) 16) (hsz : vp_in (g 3 0) 17) : Met l yX5_undo wsX5_undo ({ frames := 4, cells := 0, slots := 0, locals := 84 }) (PW [.ref (b 0), .int x1] sz D (TY cI cZ cQ) (LW cI h a f ++ (KR cI cZ cQ h b g ++ X))) (QI (kX5_undo f g x1).1 D (TY cI cZ cQ) (LW cI h a (kX5_undo f g x1).2.1 ++ (KR cI cZ cQ h b (kX5_undo f g x1).2.2 ++ X)) (va_A (LW cI h a f ++ (KR cI cZ cQ h b g ++ X)) sz)) 0 0 (va_A (LW cI h a f ++ (KR cI cZ cQ h b g ++ X)) sz) := by
  refine m_wr (cc := cX5_undo) (maxL := 2) (ret := (some .int)) (by decide) rfl (Nat.le_of_ble_eq_true rfl) (lv0 := [(0, .ref (b 0)), (1, .int x1)]) rfl ?_
  intro p e s m below meth c ls A hAe S hr hlk hP hK hD hS hA hl
  rw [← hAe]
  have S : CallFix p m c cX5_undo 2 s ([.ref (b 0), .int x1] : List Value).toArray wsX5_undo RX5 := S
  have hx := S.1
  have hb := S.2.1
  have hown : s.vm.findClass RX5 = some m.cls := S.2.2.2.1
  have hts := S.2.2.2.2
  have hinX4 : ∀ w ∈ wsX40, w ∈ wsX5_undo := by decide +kernel
  have hinX5 : ∀ w ∈ wsX50, w ∈ wsX5_undo := by decide +kernel
  refine lv_iload_n hx hb dX5_undo_0 rfl (lv_at hl 1 rfl) ?_
  refine lv_iconst (v := 1) hx hb dX5_undo_1 (by decide) ?_
  refine lv_icmp_lt (tgt := 11) hx hb dX5_undo_2 (by decide) (fun c_2 => ?_) (fun c_2 => ?_)
  · have c_2 : x1 < 1 := c_2
    refine lv_ldc (v := (-1000000002)) hx hb hown (hts (.constant RX5 97 (-1000000002)) (by decide +kernel)) dX5_undo_11 ?_
    have hρ : kX5_undo f g x1 = ((-1000000002), f, g) := (if_pos c_2)
    exact e_wi hx hb hr hlk hK hP hD hS dX5_undo_13 (congrArg Prod.fst hρ).symm (congrArg (fun z => (LW cI h a z.2.1 ++ (KR cI cZ cQ h b z.2.2 ++ X))) hρ).symm
  have c_2 : ¬ (x1 < 1) := c_2
  refine lv_iload_n hx hb dX5_undo_5 rfl (lv_at hl 1 rfl) ?_
  refine lv_bipush (v := 16) hx hb dX5_undo_6 (by decide) ?_
  refine lv_icmp_le (tgt := 14) hx hb dX5_undo_8 (by decide) (fun c_8 => ?_) (fun c_8 => ?_)
  · have c_8 : x1 ≤ 16 := c_8
    refine lv_iload_n hx hb dX5_undo_14 rfl (lv_at hl 1 rfl) ?_
    refine lv_aload_n hx hb dX5_undo_15 rfl (lv_at hl 0 rfl) ?_
    refine va_get (v := .ref (b 2)) (C := RX5) (T := TX5) (N := 6) (ci := 5) hx hb hts hinX5 hown hK hP 13 rfl rfl 1 (by decide) (hts (.fieldLink RX5 19 "AxleKeeper" "past" "LAxleKeeper$Past;") (by decide +kernel)) (fun _ h9 => h9) rfl dX5_undo_16 ?_
    refine va_get (v := .int (g 3 0)) (C := RX4) (T := TX4) (N := 3) (ci := 4) hx hb hts hinX4 hown hK hP 15 rfl rfl 2 (by decide) (hts (.fieldLink RX5 96 "AxleKeeper$Past" "size" "I") (by decide +kernel)) (fun _ h9 => h9) rfl dX5_undo_19 ?_
    refine lv_icmp_le (tgt := 28) hx hb dX5_undo_22 (by decide) (fun c_22 => ?_) (fun c_22 => ?_)
    · have c_22 : x1 ≤ (g 3 0) := c_22
      refine lv_aload_n hx hb dX5_undo_28 rfl (lv_at hl 0 rfl) ?_
      refine va_get (v := .ref (b 2)) (C := RX5) (T := TX5) (N := 6) (ci := 5) hx hb hts hinX5 hown hK hP 13 rfl rfl 1 (by decide) (hts (.fieldLink RX5 19 "AxleKeeper" "past" "LAxleKeeper$Past;") (by decide +kernel)) (fun _ h9 => h9) rfl dX5_undo_29 ?_
      refine lv_iload_n hx hb dX5_undo_32 rfl (lv_at hl 1 rfl) ?_
      refine lv_aload_n hx hb dX5_undo_33 rfl (lv_at hl 0 rfl) ?_
      refine va_get (v := .ref h) (C := RX5) (T := TX5) (N := 6) (ci := 5) hx hb hts hinX5 hown hK hP 13 rfl rfl 0 (by decide) (hts (.fieldLink RX5 10 "AxleKeeper" "now" "LAxleKeeper$Line;") (by decide +kernel)) (fun _ h9 => h9) rfl dX5_undo_34 ?_
      refine k_wv (As := [.int x1, .ref h]) (rest := []) (bytes := cX4_takeBack) (C := RX4) S (okX4_takeBack l D cI cZ cQ h a b X f g x1 _ (by assumption) (by assumption)) gX5_undo_X4_takeBack rfl ⟨rfl, rfl⟩ ndX4_takeBack ⟨Nat.le_of_ble_eq_true rfl, Nat.le_of_ble_eq_true rfl⟩ hK hP hD hS hA 15 rfl rfl rfl hl rfl (Nat.le_of_ble_eq_true rfl) dX5_undo_37 ⟨Nat.zero_le _, Nat.zero_le _⟩ (fun H locs hP hD hS => ?_)
      have hP : va_P D vwCl (LW cI h a (kX4_takeBack f g x1).1 ++ (KR cI cZ cQ h b (kX4_takeBack f g x1).2 ++ X)) H := hP
      have hD : va_D A (LW cI h a (kX4_takeBack f g x1).1 ++ (KR cI cZ cQ h b (kX4_takeBack f g x1).2 ++ X)) := hD
      refine lv_aload_n hx hb dX5_undo_40 rfl (lv_at hl 0 rfl) ?_
      refine va_get (v := .ref (b 2)) (C := RX5) (T := TX5) (N := 6) (ci := 5) hx hb hts hinX5 hown hK hP 13 rfl rfl 1 (by decide) (hts (.fieldLink RX5 19 "AxleKeeper" "past" "LAxleKeeper$Past;") (by decide +kernel)) (fun _ h9 => h9) rfl dX5_undo_41 ?_
      refine va_get (v := .int ((kX4_takeBack f g x1).2 3 0)) (C := RX4) (T := TX4) (N := 3) (ci := 4) hx hb hts hinX4 hown hK hP 15 rfl rfl 2 (by decide) (hts (.fieldLink RX5 96 "AxleKeeper$Past" "size" "I") (by decide +kernel)) (fun _ h9 => h9) rfl dX5_undo_44 ?_
      have hρ : kX5_undo f g x1 = (((kX4_takeBack f g x1).2 3 0), (kX4_takeBack f g x1).1, (kX4_takeBack f g x1).2) := (if_neg c_2).trans ((if_pos c_8).trans ((if_pos c_22)))
      exact e_wi hx hb hr hlk hK hP hD hS dX5_undo_47 (congrArg Prod.fst hρ).symm (congrArg (fun z => (LW cI h a z.2.1 ++ (KR cI cZ cQ h b z.2.2 ++ X))) hρ).symm
    have c_22 : ¬ (x1 ≤ (g 3 0)) := c_22
    refine lv_ldc (v := (-1000000003)) hx hb hown (hts (.constant RX5 167 (-1000000003)) (by decide +kernel)) dX5_undo_25 ?_
    have hρ : kX5_undo f g x1 = ((-1000000003), f, g) := (if_neg c_2).trans ((if_pos c_8).trans ((if_neg c_22)))
    exact e_wi hx hb hr hlk hK hP hD hS dX5_undo_27 (congrArg Prod.fst hρ).symm (congrArg (fun z => (LW cI h a z.2.1 ++ (KR cI cZ cQ h b z.2.2 ++ X))) hρ).symm
  have c_8 : ¬ (x1 ≤ 16) := c_8
  refine lv_ldc (v := (-1000000002)) hx hb hown (hts (.constant RX5 97 (-1000000002)) (by decide +kernel)) dX5_undo_11 ?_
  have hρ : kX5_undo f g x1 = ((-1000000002), f, g) := (if_neg c_2).trans ((if_neg c_8))
  exact e_wi hx hb hr hlk hK hP hD hS dX5_undo_13 (congrArg Prod.fst hρ).symm (congrArg (fun z => (LW cI h a z.2.1 ++ (KR cI cZ cQ h b z.2.2 ++ X))) hρ).symm
theorem ndX5_would : yX5_would.cls = RX5 ∧ yX5_would.cls ≠ "java/lang/invoke/MethodHandle" ∧ yX5_would.cls ≠ "java/lang/invoke/VarHandle" ∧ (parseMethodDescriptor yX5_would.desc).map (fun d => d.parameters.length) = some 1 := by decide +kernel
set_option maxHeartbeats 4000000 in
set_option maxRecDepth 100000 in
theorem okX5_would (l : Launch) (D : va_G) (cI cZ cQ : ClassId) (h : Nat) (a b : Nat → Nat) (X : va_W) (f g : Nat → Nat → Int32) (x1 : Int32) (sz : Nat) (hok : okL f) : Met l yX5_would wsX5_would ({ frames := 5, cells := 0, slots := 0, locals := 112 }) (PW [.ref (b 0), .int x1] sz D (TY cI cZ cQ) (LW cI h a f ++ (KR cI cZ cQ h b g ++ X))) (QI (kX5_would f g x1).1 D (TY cI cZ cQ) (LW cI h a (kX5_would f g x1).2.1 ++ (KR cI cZ cQ h b (kX5_would f g x1).2.2 ++ X)) (va_A (LW cI h a f ++ (KR cI cZ cQ h b g ++ X)) sz)) 0 0 (va_A (LW cI h a f ++ (KR cI cZ cQ h b g ++ X)) sz) := by
  refine m_wr (cc := cX5_would) (maxL := 3) (ret := (some .int)) (by decide) rfl (Nat.le_of_ble_eq_true rfl) (lv0 := [(0, .ref (b 0)), (1, .int x1)]) rfl ?_
  intro p e s m below meth c ls A hAe S hr hlk hP hK hD hS hA hl
  rw [← hAe]
  have S : CallFix p m c cX5_would 3 s ([.ref (b 0), .int x1] : List Value).toArray wsX5_would RX5 := S
  have hx := S.1
  have hb := S.2.1
  have hown : s.vm.findClass RX5 = some m.cls := S.2.2.2.1
  have hts := S.2.2.2.2
  have hinX5 : ∀ w ∈ wsX50, w ∈ wsX5_would := by decide +kernel
  refine lv_aload_n hx hb dX5_would_0 rfl (lv_at hl 0 rfl) ?_
  refine va_get (v := .ref h) (C := RX5) (T := TX5) (N := 6) (ci := 5) hx hb hts hinX5 hown hK hP 13 rfl rfl 0 (by decide) (hts (.fieldLink RX5 10 "AxleKeeper" "now" "LAxleKeeper$Line;") (by decide +kernel)) (fun _ h9 => h9) rfl dX5_would_1 ?_
  refine lv_iload_n hx hb dX5_would_4 rfl (lv_at hl 1 rfl) ?_
  refine k_rd (As := [.int x1]) (rest := []) (bytes := cX3_hasHeads) (C := RX3) S (okX3_hasHeads l D cI cZ cQ h a (KR cI cZ cQ h b g ++ X) f x1) gX5_would_X3_hasHeads rfl ⟨rfl, rfl⟩ ndX3_hasHeads ⟨Nat.le_of_ble_eq_true rfl, Nat.le_of_ble_eq_true rfl⟩ hK hP 0 rfl rfl rfl hl rfl (Nat.le_of_ble_eq_true rfl) dX5_would_5 ⟨Nat.zero_le _, Nat.zero_le _⟩ ?_
  refine lv_if_ne (tgt := 14) hx hb dX5_would_8 (by decide) (fun c_8 => ?_) (fun c_8 => ?_)
  · have c_8 : ¬ ((kX3_hasHeads f x1) = 0) := c_8
    refine lv_aload_n hx hb dX5_would_14 rfl (lv_at hl 0 rfl) ?_
    refine va_get (v := .ref h) (C := RX5) (T := TX5) (N := 6) (ci := 5) hx hb hts hinX5 hown hK hP 13 rfl rfl 0 (by decide) (hts (.fieldLink RX5 10 "AxleKeeper" "now" "LAxleKeeper$Line;") (by decide +kernel)) (fun _ h9 => h9) rfl dX5_would_15 ?_
    refine lv_aload_n hx hb dX5_would_18 rfl (lv_at hl 0 rfl) ?_
    refine va_get (v := .ref (b 1)) (C := RX5) (T := TX5) (N := 6) (ci := 5) hx hb hts hinX5 hown hK hP 13 rfl rfl 5 (by decide) (hts (.fieldLink RX5 44 "AxleKeeper" "asIs" "[I") (by decide +kernel)) (fun _ h9 => h9) rfl dX5_would_19 ?_
    refine k_wv (As := [.ref (b 1)]) (rest := []) (bytes := cX3_save) (C := RX3) S (okX3_saveK l D cI cZ cQ h a b X f g 1 _ (Or.inl rfl)) gX5_would_X3_save rfl ⟨rfl, rfl⟩ ndX3_save ⟨Nat.le_of_ble_eq_true rfl, Nat.le_of_ble_eq_true rfl⟩ hK hP hD hS hA 0 rfl rfl rfl hl rfl (Nat.le_of_ble_eq_true rfl) dX5_would_22 ⟨Nat.zero_le _, Nat.zero_le _⟩ (fun H locs hP hD hS => ?_)
    refine lv_aload_n hx hb dX5_would_25 rfl (lv_at hl 0 rfl) ?_
    refine va_get (v := .ref h) (C := RX5) (T := TX5) (N := 6) (ci := 5) hx hb hts hinX5 hown hK hP 13 rfl rfl 0 (by decide) (hts (.fieldLink RX5 10 "AxleKeeper" "now" "LAxleKeeper$Line;") (by decide +kernel)) (fun _ h9 => h9) rfl dX5_would_26 ?_
    refine lv_iload_n hx hb dX5_would_29 rfl (lv_at hl 1 rfl) ?_
    refine k_wv (As := [.int x1]) (rest := []) (bytes := cX3_pass) (C := RX3) S (okX3_pass l D cI cZ cQ h a (KR cI cZ cQ h b (rp g 1 (pkL f (g 1))) ++ X) f x1 _ (by assumption)) gX5_would_X3_pass rfl ⟨rfl, rfl⟩ ndX3_pass ⟨Nat.le_of_ble_eq_true rfl, Nat.le_of_ble_eq_true rfl⟩ hK hP hD hS hA 0 rfl rfl rfl hl rfl (Nat.le_of_ble_eq_true rfl) dX5_would_30 ⟨Nat.zero_le _, Nat.zero_le _⟩ (fun H locs hP hD hS => ?_)
    have hP : va_P D vwCl (LW cI h a (kX3_pass f x1) ++ (KR cI cZ cQ h b (rp g 1 (pkL f (g 1))) ++ X)) H := hP
    have hD : va_D A (LW cI h a (kX3_pass f x1) ++ (KR cI cZ cQ h b (rp g 1 (pkL f (g 1))) ++ X)) := hD
    refine lv_aload_n hx hb dX5_would_33 rfl (lv_at hl 0 rfl) ?_
    refine va_get (v := .ref h) (C := RX5) (T := TX5) (N := 6) (ci := 5) hx hb hts hinX5 hown hK hP 13 rfl rfl 0 (by decide) (hts (.fieldLink RX5 10 "AxleKeeper" "now" "LAxleKeeper$Line;") (by decide +kernel)) (fun _ h9 => h9) rfl dX5_would_34 ?_
    refine lv_iconst (v := 0) hx hb dX5_would_37 (by decide) ?_
    refine k_rd (As := [.int 0]) (rest := []) (bytes := cX3_called) (C := RX3) S (okX3_called l D cI cZ cQ h a (KR cI cZ cQ h b (rp g 1 (pkL f (g 1))) ++ X) (kX3_pass f x1) 0 (ok_pass hok)) gX5_would_X3_called rfl ⟨rfl, rfl⟩ ndX3_called ⟨Nat.le_of_ble_eq_true rfl, Nat.le_of_ble_eq_true rfl⟩ hK hP 0 rfl rfl rfl hl rfl (Nat.le_of_ble_eq_true rfl) dX5_would_38 ⟨Nat.zero_le _, Nat.zero_le _⟩ ?_
    refine lv_istore_n (lv' := [(2, .int (kX3_called (kX3_pass f x1) 0)), (0, .ref (b 0)), (1, .int x1)]) hx hb dX5_would_41 rfl hl (by decide) rfl (fun ls hl => ?_)
    refine lv_aload_n hx hb dX5_would_42 rfl (lv_at hl 1 rfl) ?_
    refine va_get (v := .ref h) (C := RX5) (T := TX5) (N := 6) (ci := 5) hx hb hts hinX5 hown hK hP 13 rfl rfl 0 (by decide) (hts (.fieldLink RX5 10 "AxleKeeper" "now" "LAxleKeeper$Line;") (by decide +kernel)) (fun _ h9 => h9) rfl dX5_would_43 ?_
    refine lv_aload_n hx hb dX5_would_46 rfl (lv_at hl 1 rfl) ?_
    refine va_get (v := .ref (b 1)) (C := RX5) (T := TX5) (N := 6) (ci := 5) hx hb hts hinX5 hown hK hP 13 rfl rfl 5 (by decide) (hts (.fieldLink RX5 44 "AxleKeeper" "asIs" "[I") (by decide +kernel)) (fun _ h9 => h9) rfl dX5_would_47 ?_
    refine k_wv (As := [.ref (b 1)]) (rest := []) (bytes := cX3_load) (C := RX3) S (okX3_loadK l D cI cZ cQ h a b X (kX3_pass f x1) (rp g 1 (pkL f (g 1))) 1 _ (Or.inl rfl)) gX5_would_X3_load rfl ⟨rfl, rfl⟩ ndX3_load ⟨Nat.le_of_ble_eq_true rfl, Nat.le_of_ble_eq_true rfl⟩ hK hP hD hS hA 0 rfl rfl rfl hl rfl (Nat.le_of_ble_eq_true rfl) dX5_would_50 ⟨Nat.zero_le _, Nat.zero_le _⟩ (fun H locs hP hD hS => ?_)
    refine lv_iload_n hx hb dX5_would_53 rfl (lv_at hl 0 rfl) ?_
    have hρ : kX5_would f g x1 = ((kX3_called (kX3_pass f x1) 0), (unL (kX3_pass f x1) ((rp g 1 (pkL f (g 1))) 1)), (rp g 1 (pkL f (g 1)))) := (if_neg c_8)
    exact e_wi hx hb hr hlk hK hP hD hS dX5_would_54 (congrArg Prod.fst hρ).symm (congrArg (fun z => (LW cI h a z.2.1 ++ (KR cI cZ cQ h b z.2.2 ++ X))) hρ).symm
  have c_8 : (kX3_hasHeads f x1) = 0 := c_8
  refine lv_ldc (v := (-1000000001)) hx hb hown (hts (.constant RX5 102 (-1000000001)) (by decide +kernel)) dX5_would_11 ?_
  have hρ : kX5_would f g x1 = ((-1000000001), f, g) := (if_pos c_8)
  exact e_wi hx hb hr hlk hK hP hD hS dX5_would_13 (congrArg Prod.fst hρ).symm (congrArg (fun z => (LW cI h a z.2.1 ++ (KR cI cZ cQ h b z.2.2 ++ X))) hρ).symm
theorem ndX5_write : yX5_write.cls = RX5 ∧ yX5_write.cls ≠ "java/lang/invoke/MethodHandle" ∧ yX5_write.cls ≠ "java/lang/invoke/VarHandle" ∧ (parseMethodDescriptor yX5_write.desc).map (fun d => d.parameters.length) = some 2 := by decide +kernel
set_option maxHeartbeats 4000000 in
set_option maxRecDepth 100000 in
theorem okX5_write (l : Launch) (D : va_G) (cI cZ cQ : ClassId) (h : Nat) (a b : Nat → Nat) (X : va_W) (f g : Nat → Nat → Int32) (x1 x2 : Int32) (sz : Nat) (hok : okL f) : Met l yX5_write wsX5_write ({ frames := 1, cells := 0, slots := 0, locals := 22 }) (PW [.ref (b 0), .int x1, .int x2] sz D (TY cI cZ cQ) (LW cI h a f ++ (KR cI cZ cQ h b g ++ X))) (QI (kX5_write f g x1 x2).1 D (TY cI cZ cQ) (LW cI h a f ++ (KR cI cZ cQ h b (kX5_write f g x1 x2).2 ++ X)) (va_A (LW cI h a f ++ (KR cI cZ cQ h b g ++ X)) sz)) 0 0 (va_A (LW cI h a f ++ (KR cI cZ cQ h b g ++ X)) sz) := by
  refine m_wr (cc := cX5_write) (maxL := 3) (ret := (some .int)) (by decide) rfl (Nat.le_of_ble_eq_true rfl) (lv0 := [(0, .ref (b 0)), (1, .int x1), (2, .int x2)]) rfl ?_
  intro p e s m below meth c ls A hAe S hr hlk hP hK hD hS hA hl
  rw [← hAe]
  have S : CallFix p m c cX5_write 3 s ([.ref (b 0), .int x1, .int x2] : List Value).toArray wsX5_write RX5 := S
  have hx := S.1
  have hb := S.2.1
  have hown : s.vm.findClass RX5 = some m.cls := S.2.2.2.1
  have hts := S.2.2.2.2
  have hinX0 : ∀ w ∈ wsX00, w ∈ wsX5_write := by decide +kernel
  have hinX5 : ∀ w ∈ wsX50, w ∈ wsX5_write := by decide +kernel
  refine lv_aload_n hx hb dX5_write_0 rfl (lv_at hl 0 rfl) ?_
  refine va_get (v := .ref h) (C := RX5) (T := TX5) (N := 6) (ci := 5) hx hb hts hinX5 hown hK hP 13 rfl rfl 0 (by decide) (hts (.fieldLink RX5 10 "AxleKeeper" "now" "LAxleKeeper$Line;") (by decide +kernel)) (fun _ h9 => h9) rfl dX5_write_1 ?_
  refine lv_iload_n hx hb dX5_write_4 rfl (lv_at hl 1 rfl) ?_
  refine k_rd (As := [.int x1]) (rest := []) (bytes := cX3_hasSection) (C := RX3) S (okX3_hasSection l D cI cZ cQ h a (KR cI cZ cQ h b g ++ X) f x1) gX5_write_X3_hasSection rfl ⟨rfl, rfl⟩ ndX3_hasSection ⟨Nat.le_of_ble_eq_true rfl, Nat.le_of_ble_eq_true rfl⟩ hK hP 0 rfl rfl rfl hl rfl (Nat.le_of_ble_eq_true rfl) dX5_write_5 ⟨Nat.zero_le _, Nat.zero_le _⟩ ?_
  refine lv_if_ne (tgt := 14) hx hb dX5_write_8 (by decide) (fun c_8 => ?_) (fun c_8 => ?_)
  · have c_8 : ¬ ((kX3_hasSection f x1) = 0) := c_8
    refine lv_iload_n hx hb dX5_write_14 rfl (lv_at hl 2 rfl) ?_
    refine lv_if_lt (tgt := 23) hx hb dX5_write_15 (by decide) (fun c_15 => ?_) (fun c_15 => ?_)
    · have c_15 : x2 < 0 := c_15
      refine lv_ldc (v := (-1000000002)) hx hb hown (hts (.constant RX5 97 (-1000000002)) (by decide +kernel)) dX5_write_23 ?_
      have hρ : kX5_write f g x1 x2 = ((-1000000002), g) := (if_neg c_8).trans ((if_pos c_15))
      exact e_wi hx hb hr hlk hK hP hD hS dX5_write_25 (congrArg Prod.fst hρ).symm (congrArg (fun z => (LW cI h a f ++ (KR cI cZ cQ h b z.2 ++ X))) hρ).symm
    have c_15 : ¬ (x2 < 0) := c_15
    refine lv_iload_n hx hb dX5_write_18 rfl (lv_at hl 2 rfl) ?_
    refine lv_iconst (v := 3) hx hb dX5_write_19 (by decide) ?_
    refine lv_icmp_le (tgt := 26) hx hb dX5_write_20 (by decide) (fun c_20 => ?_) (fun c_20 => ?_)
    · have c_20 : x2 ≤ 3 := c_20
      refine lv_aload_n hx hb dX5_write_26 rfl (lv_at hl 0 rfl) ?_
      refine va_get (v := .ref (b 4)) (C := RX5) (T := TX5) (N := 6) (ci := 5) hx hb hts hinX5 hown hK hP 13 rfl rfl 2 (by decide) (hts (.fieldLink RX5 26 "AxleKeeper" "book" "LAxleKeeper$Book;") (by decide +kernel)) (fun _ h9 => h9) rfl dX5_write_27 ?_
      refine va_get (v := .int (g 4 0)) (C := RX0) (T := TX0) (N := 3) (ci := 0) hx hb hts hinX0 hown hK hP 17 rfl rfl 2 (by decide) (hts (.fieldLink RX5 89 "AxleKeeper$Book" "size" "I") (by decide +kernel)) (fun _ h9 => h9) rfl dX5_write_30 ?_
      refine lv_bipush (v := 20) hx hb dX5_write_33 (by decide) ?_
      refine lv_icmp_lt (tgt := 41) hx hb dX5_write_35 (by decide) (fun c_35 => ?_) (fun c_35 => ?_)
      · have c_35 : (g 4 0) < 20 := c_35
        refine lv_aload_n hx hb dX5_write_41 rfl (lv_at hl 0 rfl) ?_
        refine va_get (v := .ref (b 4)) (C := RX5) (T := TX5) (N := 6) (ci := 5) hx hb hts hinX5 hown hK hP 13 rfl rfl 2 (by decide) (hts (.fieldLink RX5 26 "AxleKeeper" "book" "LAxleKeeper$Book;") (by decide +kernel)) (fun _ h9 => h9) rfl dX5_write_42 ?_
        refine lv_iload_n hx hb dX5_write_45 rfl (lv_at hl 1 rfl) ?_
        refine lv_iload_n hx hb dX5_write_46 rfl (lv_at hl 2 rfl) ?_
        refine k_wv (As := [.int x1, .int x2]) (rest := []) (bytes := cX0_add) (C := RX0) S (okX0_add l D cI cZ cQ h a b X f g x1 x2 _) gX5_write_X0_add rfl ⟨rfl, rfl⟩ ndX0_add ⟨Nat.le_of_ble_eq_true rfl, Nat.le_of_ble_eq_true rfl⟩ hK hP hD hS hA 17 rfl rfl rfl hl rfl (Nat.le_of_ble_eq_true rfl) dX5_write_47 ⟨Nat.zero_le _, Nat.zero_le _⟩ (fun H locs hP hD hS => ?_)
        have hP : va_P D vwCl (LW cI h a f ++ (KR cI cZ cQ h b (kX0_add f g x1 x2) ++ X)) H := hP
        have hD : va_D A (LW cI h a f ++ (KR cI cZ cQ h b (kX0_add f g x1 x2) ++ X)) := hD
        refine lv_aload_n hx hb dX5_write_50 rfl (lv_at hl 0 rfl) ?_
        refine va_get (v := .ref (b 4)) (C := RX5) (T := TX5) (N := 6) (ci := 5) hx hb hts hinX5 hown hK hP 13 rfl rfl 2 (by decide) (hts (.fieldLink RX5 26 "AxleKeeper" "book" "LAxleKeeper$Book;") (by decide +kernel)) (fun _ h9 => h9) rfl dX5_write_51 ?_
        refine va_get (v := .int ((kX0_add f g x1 x2) 4 0)) (C := RX0) (T := TX0) (N := 3) (ci := 0) hx hb hts hinX0 hown hK hP 17 rfl rfl 2 (by decide) (hts (.fieldLink RX5 89 "AxleKeeper$Book" "size" "I") (by decide +kernel)) (fun _ h9 => h9) rfl dX5_write_54 ?_
        have hρ : kX5_write f g x1 x2 = (((kX0_add f g x1 x2) 4 0), (kX0_add f g x1 x2)) := (if_neg c_8).trans ((if_neg c_15).trans ((if_pos c_20).trans ((if_pos c_35))))
        exact e_wi hx hb hr hlk hK hP hD hS dX5_write_57 (congrArg Prod.fst hρ).symm (congrArg (fun z => (LW cI h a f ++ (KR cI cZ cQ h b z.2 ++ X))) hρ).symm
      have c_35 : ¬ ((g 4 0) < 20) := c_35
      refine lv_ldc (v := (-1000000004)) hx hb hown (hts (.constant RX5 217 (-1000000004)) (by decide +kernel)) dX5_write_38 ?_
      have hρ : kX5_write f g x1 x2 = ((-1000000004), g) := (if_neg c_8).trans ((if_neg c_15).trans ((if_pos c_20).trans ((if_neg c_35))))
      exact e_wi hx hb hr hlk hK hP hD hS dX5_write_40 (congrArg Prod.fst hρ).symm (congrArg (fun z => (LW cI h a f ++ (KR cI cZ cQ h b z.2 ++ X))) hρ).symm
    have c_20 : ¬ (x2 ≤ 3) := c_20
    refine lv_ldc (v := (-1000000002)) hx hb hown (hts (.constant RX5 97 (-1000000002)) (by decide +kernel)) dX5_write_23 ?_
    have hρ : kX5_write f g x1 x2 = ((-1000000002), g) := (if_neg c_8).trans ((if_neg c_15).trans ((if_neg c_20)))
    exact e_wi hx hb hr hlk hK hP hD hS dX5_write_25 (congrArg Prod.fst hρ).symm (congrArg (fun z => (LW cI h a f ++ (KR cI cZ cQ h b z.2 ++ X))) hρ).symm
  have c_8 : (kX3_hasSection f x1) = 0 := c_8
  refine lv_ldc (v := (-1000000001)) hx hb hown (hts (.constant RX5 102 (-1000000001)) (by decide +kernel)) dX5_write_11 ?_
  have hρ : kX5_write f g x1 x2 = ((-1000000001), g) := (if_pos c_8)
  exact e_wi hx hb hr hlk hK hP hD hS dX5_write_13 (congrArg Prod.fst hρ).symm (congrArg (fun z => (LW cI h a f ++ (KR cI cZ cQ h b z.2 ++ X))) hρ).symm
theorem ndX5_tear : yX5_tear.cls = RX5 ∧ yX5_tear.cls ≠ "java/lang/invoke/MethodHandle" ∧ yX5_tear.cls ≠ "java/lang/invoke/VarHandle" ∧ (parseMethodDescriptor yX5_tear.desc).map (fun d => d.parameters.length) = some 0 := by decide +kernel
set_option maxHeartbeats 4000000 in
set_option maxRecDepth 100000 in
theorem okX5_tear (l : Launch) (D : va_G) (cI cZ cQ : ClassId) (h : Nat) (a b : Nat → Nat) (X : va_W) (f g : Nat → Nat → Int32) (sz : Nat) : Met l yX5_tear wsX5_tear ({ frames := 0, cells := 0, slots := 0, locals := 0 }) (PW [.ref (b 0)] sz D (TY cI cZ cQ) (LW cI h a f ++ (KR cI cZ cQ h b g ++ X))) (QI (kX5_tear f g).1 D (TY cI cZ cQ) (LW cI h a f ++ (KR cI cZ cQ h b (kX5_tear f g).2 ++ X)) (va_A (LW cI h a f ++ (KR cI cZ cQ h b g ++ X)) sz)) 0 0 (va_A (LW cI h a f ++ (KR cI cZ cQ h b g ++ X)) sz) := by
  refine m_wr (cc := cX5_tear) (maxL := 2) (ret := (some .int)) (by decide) rfl (Nat.le_of_ble_eq_true rfl) (lv0 := [(0, .ref (b 0))]) rfl ?_
  intro p e s m below meth c ls A hAe S hr hlk hP hK hD hS hA hl
  rw [← hAe]
  have S : CallFix p m c cX5_tear 2 s ([.ref (b 0)] : List Value).toArray wsX5_tear RX5 := S
  have hx := S.1
  have hb := S.2.1
  have hown : s.vm.findClass RX5 = some m.cls := S.2.2.2.1
  have hts := S.2.2.2.2
  have hinX0 : ∀ w ∈ wsX00, w ∈ wsX5_tear := by decide +kernel
  have hinX5 : ∀ w ∈ wsX50, w ∈ wsX5_tear := by decide +kernel
  refine lv_aload_n hx hb dX5_tear_0 rfl (lv_at hl 0 rfl) ?_
  refine va_get (v := .ref (b 4)) (C := RX5) (T := TX5) (N := 6) (ci := 5) hx hb hts hinX5 hown hK hP 13 rfl rfl 2 (by decide) (hts (.fieldLink RX5 26 "AxleKeeper" "book" "LAxleKeeper$Book;") (by decide +kernel)) (fun _ h9 => h9) rfl dX5_tear_1 ?_
  refine va_get (v := .int (g 4 0)) (C := RX0) (T := TX0) (N := 3) (ci := 0) hx hb hts hinX0 hown hK hP 17 rfl rfl 2 (by decide) (hts (.fieldLink RX5 89 "AxleKeeper$Book" "size" "I") (by decide +kernel)) (fun _ h9 => h9) rfl dX5_tear_4 ?_
  refine lv_istore_n (lv' := [(1, .int (g 4 0)), (0, .ref (b 0))]) hx hb dX5_tear_7 rfl hl (by decide) rfl (fun ls hl => ?_)
  refine lv_aload_n hx hb dX5_tear_8 rfl (lv_at hl 1 rfl) ?_
  refine va_get (v := .ref (b 4)) (C := RX5) (T := TX5) (N := 6) (ci := 5) hx hb hts hinX5 hown hK hP 13 rfl rfl 2 (by decide) (hts (.fieldLink RX5 26 "AxleKeeper" "book" "LAxleKeeper$Book;") (by decide +kernel)) (fun _ h9 => h9) rfl dX5_tear_9 ?_
  refine lv_iconst (v := 0) hx hb dX5_tear_12 (by decide) ?_
  refine pf_K4 (x := 0) S hinX0 hK hP hD hS (hts (.fieldLink RX5 89 "AxleKeeper$Book" "size" "I") (by decide +kernel)) dX5_tear_13 (fun H locs hP hD hS => ?_)
  refine lv_iload_n hx hb dX5_tear_16 rfl (lv_at hl 0 rfl) ?_
  have hρ : kX5_tear f g = ((g 4 0), (up2 g 4 0 0)) := rfl
  exact e_wi hx hb hr hlk hK hP hD hS dX5_tear_17 (congrArg Prod.fst hρ).symm (congrArg (fun z => (LW cI h a f ++ (KR cI cZ cQ h b z.2 ++ X))) hρ).symm
theorem ndX5_seed : yX5_seed.cls = RX5 ∧ yX5_seed.cls ≠ "java/lang/invoke/MethodHandle" ∧ yX5_seed.cls ≠ "java/lang/invoke/VarHandle" ∧ (parseMethodDescriptor yX5_seed.desc).map (fun d => d.parameters.length) = some 1 := by decide +kernel
set_option maxHeartbeats 4000000 in
set_option maxRecDepth 100000 in
theorem okX5_seed (l : Launch) (D : va_G) (cI cZ cQ : ClassId) (h : Nat) (a b : Nat → Nat) (X : va_W) (f g : Nat → Nat → Int32) (x1 : Int32) (sz : Nat) : Met l yX5_seed wsX5_seed ({ frames := 0, cells := 0, slots := 0, locals := 0 }) (PW [.ref (b 0), .int x1] sz D (TY cI cZ cQ) (LW cI h a f ++ (KR cI cZ cQ h b g ++ X))) (QI (kX5_seed f g x1).1 D (TY cI cZ cQ) (LW cI h a f ++ (KR cI cZ cQ h b (kX5_seed f g x1).2 ++ X)) (va_A (LW cI h a f ++ (KR cI cZ cQ h b g ++ X)) sz)) 0 0 (va_A (LW cI h a f ++ (KR cI cZ cQ h b g ++ X)) sz) := by
  refine m_wr (cc := cX5_seed) (maxL := 3) (ret := (some .int)) (by decide) rfl (Nat.le_of_ble_eq_true rfl) (lv0 := [(0, .ref (b 0)), (1, .int x1)]) rfl ?_
  intro p e s m below meth c ls A hAe S hr hlk hP hK hD hS hA hl
  rw [← hAe]
  have S : CallFix p m c cX5_seed 3 s ([.ref (b 0), .int x1] : List Value).toArray wsX5_seed RX5 := S
  have hx := S.1
  have hb := S.2.1
  have hown : s.vm.findClass RX5 = some m.cls := S.2.2.2.1
  have hts := S.2.2.2.2
  have hinX1 : ∀ w ∈ wsX10, w ∈ wsX5_seed := by decide +kernel
  have hinX5 : ∀ w ∈ wsX50, w ∈ wsX5_seed := by decide +kernel
  refine lv_iload_n hx hb dX5_seed_0 rfl (lv_at hl 1 rfl) ?_
  refine lv_if_ge (tgt := 7) hx hb dX5_seed_1 (by decide) (fun c_1 => ?_) (fun c_1 => ?_)
  · have c_1 : 0 ≤ x1 := c_1
    refine lv_aload_n hx hb dX5_seed_7 rfl (lv_at hl 0 rfl) ?_
    refine va_get (v := .ref (b 7)) (C := RX5) (T := TX5) (N := 6) (ci := 5) hx hb hts hinX5 hown hK hP 13 rfl rfl 3 (by decide) (hts (.fieldLink RX5 33 "AxleKeeper" "draws" "LAxleKeeper$Draws;") (by decide +kernel)) (fun _ h9 => h9) rfl dX5_seed_8 ?_
    refine va_get (v := .int (g 7 0)) (C := RX1) (T := TX1) (N := 1) (ci := 1) hx hb hts hinX1 hown hK hP 20 rfl rfl 0 (by decide) (hts (.fieldLink RX5 221 "AxleKeeper$Draws" "latest" "I") (by decide +kernel)) (fun _ h9 => h9) rfl dX5_seed_11 ?_
    refine lv_istore_n (lv' := [(2, .int (g 7 0)), (0, .ref (b 0)), (1, .int x1)]) hx hb dX5_seed_14 rfl hl (by decide) rfl (fun ls hl => ?_)
    refine lv_aload_n hx hb dX5_seed_15 rfl (lv_at hl 1 rfl) ?_
    refine va_get (v := .ref (b 7)) (C := RX5) (T := TX5) (N := 6) (ci := 5) hx hb hts hinX5 hown hK hP 13 rfl rfl 3 (by decide) (hts (.fieldLink RX5 33 "AxleKeeper" "draws" "LAxleKeeper$Draws;") (by decide +kernel)) (fun _ h9 => h9) rfl dX5_seed_16 ?_
    refine lv_iload_n hx hb dX5_seed_19 rfl (lv_at hl 2 rfl) ?_
    refine pf_K7 (x := x1) S hinX1 hK hP hD hS (hts (.fieldLink RX5 221 "AxleKeeper$Draws" "latest" "I") (by decide +kernel)) dX5_seed_20 (fun H locs hP hD hS => ?_)
    refine lv_iload_n hx hb dX5_seed_23 rfl (lv_at hl 0 rfl) ?_
    have hρ : kX5_seed f g x1 = ((g 7 0), (up2 g 7 0 x1)) := (if_pos c_1)
    exact e_wi hx hb hr hlk hK hP hD hS dX5_seed_24 (congrArg Prod.fst hρ).symm (congrArg (fun z => (LW cI h a f ++ (KR cI cZ cQ h b z.2 ++ X))) hρ).symm
  have c_1 : ¬ (0 ≤ x1) := c_1
  refine lv_ldc (v := (-1000000002)) hx hb hown (hts (.constant RX5 97 (-1000000002)) (by decide +kernel)) dX5_seed_4 ?_
  have hρ : kX5_seed f g x1 = ((-1000000002), g) := (if_neg c_1)
  exact e_wi hx hb hr hlk hK hP hD hS dX5_seed_6 (congrArg Prod.fst hρ).symm (congrArg (fun z => (LW cI h a f ++ (KR cI cZ cQ h b z.2 ++ X))) hρ).symm
theorem ndX5_keep : yX5_keep.cls = RX5 ∧ yX5_keep.cls ≠ "java/lang/invoke/MethodHandle" ∧ yX5_keep.cls ≠ "java/lang/invoke/VarHandle" ∧ (parseMethodDescriptor yX5_keep.desc).map (fun d => d.parameters.length) = some 1 := by decide +kernel
set_option maxHeartbeats 4000000 in
set_option maxRecDepth 100000 in
theorem okX5_keep (l : Launch) (D : va_G) (cI cZ cQ : ClassId) (h : Nat) (a b : Nat → Nat) (X : va_W) (f g : Nat → Nat → Int32) (x1 : Int32) (sz : Nat) : Met l yX5_keep wsX5_keep ({ frames := 4, cells := 0, slots := 0, locals := 85 }) (PW [.ref (b 0), .int x1] sz D (TY cI cZ cQ) (LW cI h a f ++ (KR cI cZ cQ h b g ++ X))) (QI (kX5_keep f g x1).1 D (TY cI cZ cQ) (LW cI h a f ++ (KR cI cZ cQ h b (kX5_keep f g x1).2 ++ X)) (va_A (LW cI h a f ++ (KR cI cZ cQ h b g ++ X)) sz)) 0 0 (va_A (LW cI h a f ++ (KR cI cZ cQ h b g ++ X)) sz) := by
  refine m_wr (cc := cX5_keep) (maxL := 2) (ret := (some .int)) (by decide) rfl (Nat.le_of_ble_eq_true rfl) (lv0 := [(0, .ref (b 0)), (1, .int x1)]) rfl ?_
  intro p e s m below meth c ls A hAe S hr hlk hP hK hD hS hA hl
  rw [← hAe]
  have S : CallFix p m c cX5_keep 2 s ([.ref (b 0), .int x1] : List Value).toArray wsX5_keep RX5 := S
  have hx := S.1
  have hb := S.2.1
  have hown : s.vm.findClass RX5 = some m.cls := S.2.2.2.1
  have hts := S.2.2.2.2
  have hinX4 : ∀ w ∈ wsX40, w ∈ wsX5_keep := by decide +kernel
  have hinX5 : ∀ w ∈ wsX50, w ∈ wsX5_keep := by decide +kernel
  refine lv_aload_n hx hb dX5_keep_0 rfl (lv_at hl 0 rfl) ?_
  refine va_get (v := .ref (b 8)) (C := RX5) (T := TX5) (N := 6) (ci := 5) hx hb hts hinX5 hown hK hP 13 rfl rfl 4 (by decide) (hts (.fieldLink RX5 40 "AxleKeeper" "images" "LAxleKeeper$Images;") (by decide +kernel)) (fun _ h9 => h9) rfl dX5_keep_1 ?_
  refine lv_iload_n hx hb dX5_keep_4 rfl (lv_at hl 1 rfl) ?_
  refine k_rd (As := [.int x1]) (rest := []) (bytes := cX2_hasPlace) (C := RX2) S (okX2_hasPlace l D cI cZ cQ h a b X f g x1) gX5_keep_X2_hasPlace rfl ⟨rfl, rfl⟩ ndX2_hasPlace ⟨Nat.le_of_ble_eq_true rfl, Nat.le_of_ble_eq_true rfl⟩ hK hP 21 rfl rfl rfl hl rfl (Nat.le_of_ble_eq_true rfl) dX5_keep_5 ⟨Nat.zero_le _, Nat.zero_le _⟩ ?_
  refine lv_if_ne (tgt := 14) hx hb dX5_keep_8 (by decide) (fun c_8 => ?_) (fun c_8 => ?_)
  · have c_8 : ¬ ((kX2_hasPlace f g x1) = 0) := c_8
    have h2 : vp_in x1 2 := hp_in c_8
    refine lv_aload_n hx hb dX5_keep_14 rfl (lv_at hl 0 rfl) ?_
    refine va_get (v := .ref (b 8)) (C := RX5) (T := TX5) (N := 6) (ci := 5) hx hb hts hinX5 hown hK hP 13 rfl rfl 4 (by decide) (hts (.fieldLink RX5 40 "AxleKeeper" "images" "LAxleKeeper$Images;") (by decide +kernel)) (fun _ h9 => h9) rfl dX5_keep_15 ?_
    refine lv_iload_n hx hb dX5_keep_18 rfl (lv_at hl 1 rfl) ?_
    refine lv_aload_n hx hb dX5_keep_19 rfl (lv_at hl 0 rfl) ?_
    refine va_get (v := .ref h) (C := RX5) (T := TX5) (N := 6) (ci := 5) hx hb hts hinX5 hown hK hP 13 rfl rfl 0 (by decide) (hts (.fieldLink RX5 10 "AxleKeeper" "now" "LAxleKeeper$Line;") (by decide +kernel)) (fun _ h9 => h9) rfl dX5_keep_20 ?_
    refine lv_aload_n hx hb dX5_keep_23 rfl (lv_at hl 0 rfl) ?_
    refine va_get (v := .ref (b 7)) (C := RX5) (T := TX5) (N := 6) (ci := 5) hx hb hts hinX5 hown hK hP 13 rfl rfl 3 (by decide) (hts (.fieldLink RX5 33 "AxleKeeper" "draws" "LAxleKeeper$Draws;") (by decide +kernel)) (fun _ h9 => h9) rfl dX5_keep_24 ?_
    refine k_wv (As := [.int x1, .ref h, .ref (b 7)]) (rest := []) (bytes := cX2_take) (C := RX2) S (okX2_take l D cI cZ cQ h a b X f g x1 _ (by assumption)) gX5_keep_X2_take rfl ⟨rfl, rfl⟩ ndX2_take ⟨Nat.le_of_ble_eq_true rfl, Nat.le_of_ble_eq_true rfl⟩ hK hP hD hS hA 21 rfl rfl rfl hl rfl (Nat.le_of_ble_eq_true rfl) dX5_keep_27 ⟨Nat.zero_le _, Nat.zero_le _⟩ (fun H locs hP hD hS => ?_)
    have hP : va_P D vwCl (LW cI h a f ++ (KR cI cZ cQ h b (kX2_take f g x1) ++ X)) H := hP
    have hD : va_D A (LW cI h a f ++ (KR cI cZ cQ h b (kX2_take f g x1) ++ X)) := hD
    refine lv_aload_n hx hb dX5_keep_30 rfl (lv_at hl 0 rfl) ?_
    refine va_get (v := .ref (b 2)) (C := RX5) (T := TX5) (N := 6) (ci := 5) hx hb hts hinX5 hown hK hP 13 rfl rfl 1 (by decide) (hts (.fieldLink RX5 19 "AxleKeeper" "past" "LAxleKeeper$Past;") (by decide +kernel)) (fun _ h9 => h9) rfl dX5_keep_31 ?_
    refine lv_iconst (v := 0) hx hb dX5_keep_34 (by decide) ?_
    refine pf_K3 (x := 0) S hinX4 hK hP hD hS (hts (.fieldLink RX5 96 "AxleKeeper$Past" "size" "I") (by decide +kernel)) dX5_keep_35 (fun H locs hP hD hS => ?_)
    refine lv_iconst (v := 1) hx hb dX5_keep_38 (by decide) ?_
    have hρ : kX5_keep f g x1 = (1, (up2 (kX2_take f g x1) 3 0 0)) := (if_neg c_8)
    exact e_wi hx hb hr hlk hK hP hD hS dX5_keep_39 (congrArg Prod.fst hρ).symm (congrArg (fun z => (LW cI h a f ++ (KR cI cZ cQ h b z.2 ++ X))) hρ).symm
  have c_8 : (kX2_hasPlace f g x1) = 0 := c_8
  refine lv_ldc (v := (-1000000001)) hx hb hown (hts (.constant RX5 102 (-1000000001)) (by decide +kernel)) dX5_keep_11 ?_
  have hρ : kX5_keep f g x1 = ((-1000000001), g) := (if_pos c_8)
  exact e_wi hx hb hr hlk hK hP hD hS dX5_keep_13 (congrArg Prod.fst hρ).symm (congrArg (fun z => (LW cI h a f ++ (KR cI cZ cQ h b z.2 ++ X))) hρ).symm
theorem ndX5_goBack : yX5_goBack.cls = RX5 ∧ yX5_goBack.cls ≠ "java/lang/invoke/MethodHandle" ∧ yX5_goBack.cls ≠ "java/lang/invoke/VarHandle" ∧ (parseMethodDescriptor yX5_goBack.desc).map (fun d => d.parameters.length) = some 1 := by decide +kernel
set_option maxHeartbeats 4000000 in
set_option maxRecDepth 100000 in
theorem okX5_goBack (l : Launch) (D : va_G) (cI cZ cQ : ClassId) (h : Nat) (a b : Nat → Nat) (X : va_W) (f g : Nat → Nat → Int32) (x1 : Int32) (sz : Nat) : Met l yX5_goBack wsX5_goBack ({ frames := 4, cells := 0, slots := 0, locals := 85 }) (PW [.ref (b 0), .int x1] sz D (TY cI cZ cQ) (LW cI h a f ++ (KR cI cZ cQ h b g ++ X))) (QI (kX5_goBack f g x1).1 D (TY cI cZ cQ) (LW cI h a (kX5_goBack f g x1).2.1 ++ (KR cI cZ cQ h b (kX5_goBack f g x1).2.2 ++ X)) (va_A (LW cI h a f ++ (KR cI cZ cQ h b g ++ X)) sz)) 0 0 (va_A (LW cI h a f ++ (KR cI cZ cQ h b g ++ X)) sz) := by
  refine m_wr (cc := cX5_goBack) (maxL := 2) (ret := (some .int)) (by decide) rfl (Nat.le_of_ble_eq_true rfl) (lv0 := [(0, .ref (b 0)), (1, .int x1)]) rfl ?_
  intro p e s m below meth c ls A hAe S hr hlk hP hK hD hS hA hl
  rw [← hAe]
  have S : CallFix p m c cX5_goBack 2 s ([.ref (b 0), .int x1] : List Value).toArray wsX5_goBack RX5 := S
  have hx := S.1
  have hb := S.2.1
  have hown : s.vm.findClass RX5 = some m.cls := S.2.2.2.1
  have hts := S.2.2.2.2
  have hinX2 : ∀ w ∈ wsX20, w ∈ wsX5_goBack := by decide +kernel
  have hinX4 : ∀ w ∈ wsX40, w ∈ wsX5_goBack := by decide +kernel
  have hinX5 : ∀ w ∈ wsX50, w ∈ wsX5_goBack := by decide +kernel
  refine lv_aload_n hx hb dX5_goBack_0 rfl (lv_at hl 0 rfl) ?_
  refine va_get (v := .ref (b 8)) (C := RX5) (T := TX5) (N := 6) (ci := 5) hx hb hts hinX5 hown hK hP 13 rfl rfl 4 (by decide) (hts (.fieldLink RX5 40 "AxleKeeper" "images" "LAxleKeeper$Images;") (by decide +kernel)) (fun _ h9 => h9) rfl dX5_goBack_1 ?_
  refine lv_iload_n hx hb dX5_goBack_4 rfl (lv_at hl 1 rfl) ?_
  refine k_rd (As := [.int x1]) (rest := []) (bytes := cX2_hasPlace) (C := RX2) S (okX2_hasPlace l D cI cZ cQ h a b X f g x1) gX5_goBack_X2_hasPlace rfl ⟨rfl, rfl⟩ ndX2_hasPlace ⟨Nat.le_of_ble_eq_true rfl, Nat.le_of_ble_eq_true rfl⟩ hK hP 21 rfl rfl rfl hl rfl (Nat.le_of_ble_eq_true rfl) dX5_goBack_5 ⟨Nat.zero_le _, Nat.zero_le _⟩ ?_
  refine lv_if_ne (tgt := 14) hx hb dX5_goBack_8 (by decide) (fun c_8 => ?_) (fun c_8 => ?_)
  · have c_8 : ¬ ((kX2_hasPlace f g x1) = 0) := c_8
    have h2 : vp_in x1 2 := hp_in c_8
    refine lv_aload_n hx hb dX5_goBack_14 rfl (lv_at hl 0 rfl) ?_
    refine va_get (v := .ref (b 8)) (C := RX5) (T := TX5) (N := 6) (ci := 5) hx hb hts hinX5 hown hK hP 13 rfl rfl 4 (by decide) (hts (.fieldLink RX5 40 "AxleKeeper" "images" "LAxleKeeper$Images;") (by decide +kernel)) (fun _ h9 => h9) rfl dX5_goBack_15 ?_
    refine va_get (v := .ref (b 11)) (C := RX2) (T := TX2) (N := 3) (ci := 2) hx hb hts hinX2 hown hK hP 21 rfl rfl 2 (by decide) (hts (.fieldLink RX5 231 "AxleKeeper$Images" "kept" "[Z") (by decide +kernel)) (fun _ h9 => h9) rfl dX5_goBack_18 ?_
    refine lv_iload_n hx hb dX5_goBack_21 rfl (lv_at hl 1 rfl) ?_
    refine va_zald hx hb hK hP 24 1 rfl rfl (n := 2) (by assumption) dX5_goBack_22 ?_
    refine lv_if_ne (tgt := 29) hx hb dX5_goBack_23 (by decide) (fun c_23 => ?_) (fun c_23 => ?_)
    · have c_23 : ¬ ((g 11 (ix x1)) = 0) := c_23
      refine lv_aload_n hx hb dX5_goBack_29 rfl (lv_at hl 0 rfl) ?_
      refine va_get (v := .ref (b 8)) (C := RX5) (T := TX5) (N := 6) (ci := 5) hx hb hts hinX5 hown hK hP 13 rfl rfl 4 (by decide) (hts (.fieldLink RX5 40 "AxleKeeper" "images" "LAxleKeeper$Images;") (by decide +kernel)) (fun _ h9 => h9) rfl dX5_goBack_30 ?_
      refine lv_iload_n hx hb dX5_goBack_33 rfl (lv_at hl 1 rfl) ?_
      refine lv_aload_n hx hb dX5_goBack_34 rfl (lv_at hl 0 rfl) ?_
      refine va_get (v := .ref h) (C := RX5) (T := TX5) (N := 6) (ci := 5) hx hb hts hinX5 hown hK hP 13 rfl rfl 0 (by decide) (hts (.fieldLink RX5 10 "AxleKeeper" "now" "LAxleKeeper$Line;") (by decide +kernel)) (fun _ h9 => h9) rfl dX5_goBack_35 ?_
      refine lv_aload_n hx hb dX5_goBack_38 rfl (lv_at hl 0 rfl) ?_
      refine va_get (v := .ref (b 7)) (C := RX5) (T := TX5) (N := 6) (ci := 5) hx hb hts hinX5 hown hK hP 13 rfl rfl 3 (by decide) (hts (.fieldLink RX5 33 "AxleKeeper" "draws" "LAxleKeeper$Draws;") (by decide +kernel)) (fun _ h9 => h9) rfl dX5_goBack_39 ?_
      refine k_wv (As := [.int x1, .ref h, .ref (b 7)]) (rest := []) (bytes := cX2_giveBack) (C := RX2) S (okX2_giveBack l D cI cZ cQ h a b X f g x1 _ (by assumption)) gX5_goBack_X2_giveBack rfl ⟨rfl, rfl⟩ ndX2_giveBack ⟨Nat.le_of_ble_eq_true rfl, Nat.le_of_ble_eq_true rfl⟩ hK hP hD hS hA 21 rfl rfl rfl hl rfl (Nat.le_of_ble_eq_true rfl) dX5_goBack_42 ⟨Nat.zero_le _, Nat.zero_le _⟩ (fun H locs hP hD hS => ?_)
      have hP : va_P D vwCl (LW cI h a (kX2_giveBack f g x1).1 ++ (KR cI cZ cQ h b (kX2_giveBack f g x1).2 ++ X)) H := hP
      have hD : va_D A (LW cI h a (kX2_giveBack f g x1).1 ++ (KR cI cZ cQ h b (kX2_giveBack f g x1).2 ++ X)) := hD
      refine lv_aload_n hx hb dX5_goBack_45 rfl (lv_at hl 0 rfl) ?_
      refine va_get (v := .ref (b 2)) (C := RX5) (T := TX5) (N := 6) (ci := 5) hx hb hts hinX5 hown hK hP 13 rfl rfl 1 (by decide) (hts (.fieldLink RX5 19 "AxleKeeper" "past" "LAxleKeeper$Past;") (by decide +kernel)) (fun _ h9 => h9) rfl dX5_goBack_46 ?_
      refine lv_iconst (v := 0) hx hb dX5_goBack_49 (by decide) ?_
      refine pf_K3 (x := 0) S hinX4 hK hP hD hS (hts (.fieldLink RX5 96 "AxleKeeper$Past" "size" "I") (by decide +kernel)) dX5_goBack_50 (fun H locs hP hD hS => ?_)
      refine lv_iconst (v := 1) hx hb dX5_goBack_53 (by decide) ?_
      have hρ : kX5_goBack f g x1 = (1, (kX2_giveBack f g x1).1, (up2 (kX2_giveBack f g x1).2 3 0 0)) := (if_neg c_8).trans ((if_neg c_23))
      exact e_wi hx hb hr hlk hK hP hD hS dX5_goBack_54 (congrArg Prod.fst hρ).symm (congrArg (fun z => (LW cI h a z.2.1 ++ (KR cI cZ cQ h b z.2.2 ++ X))) hρ).symm
    have c_23 : (g 11 (ix x1)) = 0 := c_23
    refine lv_ldc (v := (-1000000003)) hx hb hown (hts (.constant RX5 167 (-1000000003)) (by decide +kernel)) dX5_goBack_26 ?_
    have hρ : kX5_goBack f g x1 = ((-1000000003), f, g) := (if_neg c_8).trans ((if_pos c_23))
    exact e_wi hx hb hr hlk hK hP hD hS dX5_goBack_28 (congrArg Prod.fst hρ).symm (congrArg (fun z => (LW cI h a z.2.1 ++ (KR cI cZ cQ h b z.2.2 ++ X))) hρ).symm
  have c_8 : (kX2_hasPlace f g x1) = 0 := c_8
  refine lv_ldc (v := (-1000000001)) hx hb hown (hts (.constant RX5 102 (-1000000001)) (by decide +kernel)) dX5_goBack_11 ?_
  have hρ : kX5_goBack f g x1 = ((-1000000001), f, g) := (if_pos c_8)
  exact e_wi hx hb hr hlk hK hP hD hS dX5_goBack_13 (congrArg Prod.fst hρ).symm (congrArg (fun z => (LW cI h a z.2.1 ++ (KR cI cZ cQ h b z.2.2 ++ X))) hρ).symm
