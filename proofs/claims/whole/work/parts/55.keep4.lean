theorem ndX5_driftOnce : yX5_driftOnce.cls = RX5 ∧ yX5_driftOnce.cls ≠ "java/lang/invoke/MethodHandle" ∧ yX5_driftOnce.cls ≠ "java/lang/invoke/VarHandle" ∧ (parseMethodDescriptor yX5_driftOnce.desc).map (fun d => d.parameters.length) = some 0 := by decide +kernel
set_option maxHeartbeats 4000000 in
set_option maxRecDepth 100000 in
theorem lpX5_driftOnce_64 {p : Program} {e : Env} {s : State} {m : MethodId} {below : List Frame} {meth : Method} {c : Code} (l : Launch) (D : va_G) (cI cZ cQ : ClassId) (h : Nat) (a b : Nat → Nat) (X : va_W) (A : Nat → Prop) (hA : ∀ q, s.heap.size ≤ q → A q) (S : CallFix p m c cX5_driftOnce 6 s ([.ref (b 0)] : List Value).toArray wsX5_driftOnce RX5) (hr : meth.sig.returnType = none) (hlk : meth.locks = false) (hK : va_K D vwCl (TY cI cZ cQ) s)  (v1 v2 v3 v4 v5 : Int32) (f g : Nat → Nat → Int32) (H : Heap) (locs : List Loc) (hok : okL f) (hv1 : vp_in v1 7) (hP : va_P D vwCl (LW cI h a f ++ (KR cI cZ cQ h b g ++ X)) H) (hD : va_D A (LW cI h a f ++ (KR cI cZ cQ h b g ++ X))) (hS : va_S A s.heap H locs) {ls : Array Slot} (hl : lv_has ls 6 [(0, .ref (b 0)), (1, .int v1), (2, .int v2), (3, .int v3), (4, .int v4), (5, .int v5)]) (ρ : (Nat → Nat → Int32) × (Nat → Nat → Int32)) (hρ0 : ρ = kX5_driftOnce_64  f g v1 v2 v3 v4 v5) : W p l e { frames := 5, cells := 0, slots := 0, locals := 112 } s m ([.ref (b 0)] : List Value).toArray below meth c H locs 0 0 (MQ below (QV D (TY cI cZ cQ) (LW cI h a ρ.1 ++ (KR cI cZ cQ h b ρ.2 ++ X)) A) ([.ref (b 0)] : List Value).toArray s 0 0 A) (F0 m 64 ls []) := by
  have hx := S.1
  have hb := S.2.1
  have hown : s.vm.findClass RX5 = some m.cls := S.2.2.2.1
  have hts := S.2.2.2.2
  have hinX5 : ∀ w ∈ wsX50, w ∈ wsX5_driftOnce := by decide +kernel
  refine lv_aload_n hx hb dX5_driftOnce_64 rfl (lv_at hl 0 rfl) ?_
  refine va_get (v := .ref h) (C := RX5) (T := TX5) (N := 6) (ci := 5) hx hb hts hinX5 hown hK hP 13 rfl rfl 0 (by decide) (hts (.fieldLink RX5 10 "AxleKeeper" "now" "LAxleKeeper$Line;") (by decide +kernel)) (fun _ h9 => h9) rfl dX5_driftOnce_65 ?_
  refine lv_iload_n hx hb dX5_driftOnce_68 rfl (lv_at hl 1 rfl) ?_
  refine lv_iload_n hx hb dX5_driftOnce_69 rfl (lv_at hl 2 rfl) ?_
  refine lv_iload_n hx hb dX5_driftOnce_70 rfl (lv_at hl 3 rfl) ?_
  refine k_rd (As := [.int v1, .int v2, .int v3]) (rest := []) (bytes := cX3_canCarry) (C := RX3) S (okX3_canCarry l D cI cZ cQ h a (KR cI cZ cQ h b g ++ X) f v1 v2 v3 (by assumption)) gX5_driftOnce_X3_canCarry rfl ⟨rfl, rfl⟩ ndX3_canCarry ⟨Nat.le_of_ble_eq_true rfl, Nat.le_of_ble_eq_true rfl⟩ hK hP 0 rfl rfl rfl hl rfl (Nat.le_of_ble_eq_true rfl) dX5_driftOnce_71 ⟨Nat.zero_le _, Nat.zero_le _⟩ ?_
  refine lv_if_eq (tgt := 109) hx hb dX5_driftOnce_74 (by decide) (fun c_74 => ?_) (fun c_74 => ?_)
  · have c_74 : (kX3_canCarry f v1 v2 v3) = 0 := c_74
    refine lv_aload_n hx hb dX5_driftOnce_109 rfl (lv_at hl 0 rfl) ?_
    refine va_get (v := .ref h) (C := RX5) (T := TX5) (N := 6) (ci := 5) hx hb hts hinX5 hown hK hP 13 rfl rfl 0 (by decide) (hts (.fieldLink RX5 10 "AxleKeeper" "now" "LAxleKeeper$Line;") (by decide +kernel)) (fun _ h9 => h9) rfl dX5_driftOnce_110 ?_
    refine lv_iload hx hb dX5_driftOnce_113 (lv_at hl 4 rfl) ?_
    refine lv_iconst (v := 4) hx hb dX5_driftOnce_115 (by decide) ?_
    refine lv_icmp_ge (tgt := 124) hx hb dX5_driftOnce_116 (by decide) (fun c_116 => ?_) (fun c_116 => ?_)
    · have c_116 : 4 ≤ v4 := c_116
      refine lv_iconst (v := 0) hx hb dX5_driftOnce_124 (by decide) ?_
      refine k_wv (As := [.int 0]) (rest := []) (bytes := cX3_pass) (C := RX3) S (okX3_pass l D cI cZ cQ h a (KR cI cZ cQ h b g ++ X) f 0 _ hok) gX5_driftOnce_X3_pass rfl ⟨rfl, rfl⟩ ndX3_pass ⟨Nat.le_of_ble_eq_true rfl, Nat.le_of_ble_eq_true rfl⟩ hK hP hD hS hA 0 rfl rfl rfl hl rfl (Nat.le_of_ble_eq_true rfl) dX5_driftOnce_125 ⟨Nat.zero_le _, Nat.zero_le _⟩ (fun H locs hP hD hS => ?_)
      have hP : va_P D vwCl (LW cI h a (kX3_pass f 0) ++ (KR cI cZ cQ h b g ++ X)) H := hP
      have hD : va_D A (LW cI h a (kX3_pass f 0) ++ (KR cI cZ cQ h b g ++ X)) := hD
      have hρ : kX5_driftOnce_64  f g v1 v2 v3 v4 v5 = ((kX3_pass f 0), g) := (if_pos c_74).trans ((if_pos c_116))
      have hρ := hρ0.trans hρ
      exact e_wv hx hb hr hlk hK hP hD hS dX5_driftOnce_128 (congrArg (fun z => (LW cI h a z.1 ++ (KR cI cZ cQ h b z.2 ++ X))) hρ).symm
    have c_116 : ¬ (4 ≤ v4) := c_116
    refine lv_iload hx hb dX5_driftOnce_119 (lv_at hl 5 rfl) ?_
    refine lv_goto (tgt := 125) hx hb dX5_driftOnce_121 (by decide) ?_
    refine k_wv (As := [.int v5]) (rest := []) (bytes := cX3_pass) (C := RX3) S (okX3_pass l D cI cZ cQ h a (KR cI cZ cQ h b g ++ X) f v5 _ hok) gX5_driftOnce_X3_pass rfl ⟨rfl, rfl⟩ ndX3_pass ⟨Nat.le_of_ble_eq_true rfl, Nat.le_of_ble_eq_true rfl⟩ hK hP hD hS hA 0 rfl rfl rfl hl rfl (Nat.le_of_ble_eq_true rfl) dX5_driftOnce_125 ⟨Nat.zero_le _, Nat.zero_le _⟩ (fun H locs hP hD hS => ?_)
    have hP : va_P D vwCl (LW cI h a (kX3_pass f v5) ++ (KR cI cZ cQ h b g ++ X)) H := hP
    have hD : va_D A (LW cI h a (kX3_pass f v5) ++ (KR cI cZ cQ h b g ++ X)) := hD
    have hρ : kX5_driftOnce_64  f g v1 v2 v3 v4 v5 = ((kX3_pass f v5), g) := (if_pos c_74).trans ((if_neg c_116))
    have hρ := hρ0.trans hρ
    exact e_wv hx hb hr hlk hK hP hD hS dX5_driftOnce_128 (congrArg (fun z => (LW cI h a z.1 ++ (KR cI cZ cQ h b z.2 ++ X))) hρ).symm
  have c_74 : ¬ ((kX3_canCarry f v1 v2 v3) = 0) := c_74
  refine lv_aload_n hx hb dX5_driftOnce_77 rfl (lv_at hl 0 rfl) ?_
  refine va_get (v := .ref h) (C := RX5) (T := TX5) (N := 6) (ci := 5) hx hb hts hinX5 hown hK hP 13 rfl rfl 0 (by decide) (hts (.fieldLink RX5 10 "AxleKeeper" "now" "LAxleKeeper$Line;") (by decide +kernel)) (fun _ h9 => h9) rfl dX5_driftOnce_78 ?_
  refine lv_iload_n hx hb dX5_driftOnce_81 rfl (lv_at hl 1 rfl) ?_
  refine lv_iload_n hx hb dX5_driftOnce_82 rfl (lv_at hl 2 rfl) ?_
  refine lv_iload_n hx hb dX5_driftOnce_83 rfl (lv_at hl 3 rfl) ?_
  refine lv_iload hx hb dX5_driftOnce_84 (lv_at hl 4 rfl) ?_
  refine lv_if_eq (tgt := 104) hx hb dX5_driftOnce_86 (by decide) (fun c_86 => ?_) (fun c_86 => ?_)
  · have c_86 : v4 = 0 := c_86
    refine lv_iconst (v := 0) hx hb dX5_driftOnce_104 (by decide) ?_
    refine k_wi (As := [.int v1, .int v2, .int v3, .int 0]) (rest := []) (bytes := cX3_carry) (C := RX3) S (okX3_carry l D cI cZ cQ h a (KR cI cZ cQ h b g ++ X) f v1 v2 v3 0 _ (by assumption) (by assumption)) gX5_driftOnce_X3_carry rfl ⟨rfl, rfl⟩ ndX3_carry ⟨Nat.le_of_ble_eq_true rfl, Nat.le_of_ble_eq_true rfl⟩ hK hP hD hS hA 0 rfl rfl rfl hl rfl (Nat.le_of_ble_eq_true rfl) dX5_driftOnce_105 ⟨Nat.zero_le _, Nat.zero_le _⟩ (fun H locs hP hD hS => ?_)
    have hP : va_P D vwCl (LW cI h a (kX3_carry f v1 v2 v3 0).2 ++ (KR cI cZ cQ h b g ++ X)) H := hP
    have hD : va_D A (LW cI h a (kX3_carry f v1 v2 v3 0).2 ++ (KR cI cZ cQ h b g ++ X)) := hD
    refine lv_pop hx hb dX5_driftOnce_108 rfl ?_
    refine lv_aload_n hx hb dX5_driftOnce_109 rfl (lv_at hl 0 rfl) ?_
    refine va_get (v := .ref h) (C := RX5) (T := TX5) (N := 6) (ci := 5) hx hb hts hinX5 hown hK hP 13 rfl rfl 0 (by decide) (hts (.fieldLink RX5 10 "AxleKeeper" "now" "LAxleKeeper$Line;") (by decide +kernel)) (fun _ h9 => h9) rfl dX5_driftOnce_110 ?_
    refine lv_iload hx hb dX5_driftOnce_113 (lv_at hl 4 rfl) ?_
    refine lv_iconst (v := 4) hx hb dX5_driftOnce_115 (by decide) ?_
    refine lv_icmp_ge (tgt := 124) hx hb dX5_driftOnce_116 (by decide) (fun c_116 => ?_) (fun c_116 => ?_)
    · have c_116 : 4 ≤ v4 := c_116
      refine lv_iconst (v := 0) hx hb dX5_driftOnce_124 (by decide) ?_
      refine k_wv (As := [.int 0]) (rest := []) (bytes := cX3_pass) (C := RX3) S (okX3_pass l D cI cZ cQ h a (KR cI cZ cQ h b g ++ X) ((kX3_carry f v1 v2 v3 0).2) 0 _ (ok_carry hok)) gX5_driftOnce_X3_pass rfl ⟨rfl, rfl⟩ ndX3_pass ⟨Nat.le_of_ble_eq_true rfl, Nat.le_of_ble_eq_true rfl⟩ hK hP hD hS hA 0 rfl rfl rfl hl rfl (Nat.le_of_ble_eq_true rfl) dX5_driftOnce_125 ⟨Nat.zero_le _, Nat.zero_le _⟩ (fun H locs hP hD hS => ?_)
      have hP : va_P D vwCl (LW cI h a (kX3_pass (kX3_carry f v1 v2 v3 0).2 0) ++ (KR cI cZ cQ h b g ++ X)) H := hP
      have hD : va_D A (LW cI h a (kX3_pass (kX3_carry f v1 v2 v3 0).2 0) ++ (KR cI cZ cQ h b g ++ X)) := hD
      have hρ : kX5_driftOnce_64  f g v1 v2 v3 v4 v5 = ((kX3_pass (kX3_carry f v1 v2 v3 0).2 0), g) := (if_neg c_74).trans ((if_pos c_86).trans ((if_pos c_116)))
      have hρ := hρ0.trans hρ
      exact e_wv hx hb hr hlk hK hP hD hS dX5_driftOnce_128 (congrArg (fun z => (LW cI h a z.1 ++ (KR cI cZ cQ h b z.2 ++ X))) hρ).symm
    have c_116 : ¬ (4 ≤ v4) := c_116
    refine lv_iload hx hb dX5_driftOnce_119 (lv_at hl 5 rfl) ?_
    refine lv_goto (tgt := 125) hx hb dX5_driftOnce_121 (by decide) ?_
    refine k_wv (As := [.int v5]) (rest := []) (bytes := cX3_pass) (C := RX3) S (okX3_pass l D cI cZ cQ h a (KR cI cZ cQ h b g ++ X) ((kX3_carry f v1 v2 v3 0).2) v5 _ (ok_carry hok)) gX5_driftOnce_X3_pass rfl ⟨rfl, rfl⟩ ndX3_pass ⟨Nat.le_of_ble_eq_true rfl, Nat.le_of_ble_eq_true rfl⟩ hK hP hD hS hA 0 rfl rfl rfl hl rfl (Nat.le_of_ble_eq_true rfl) dX5_driftOnce_125 ⟨Nat.zero_le _, Nat.zero_le _⟩ (fun H locs hP hD hS => ?_)
    have hP : va_P D vwCl (LW cI h a (kX3_pass (kX3_carry f v1 v2 v3 0).2 v5) ++ (KR cI cZ cQ h b g ++ X)) H := hP
    have hD : va_D A (LW cI h a (kX3_pass (kX3_carry f v1 v2 v3 0).2 v5) ++ (KR cI cZ cQ h b g ++ X)) := hD
    have hρ : kX5_driftOnce_64  f g v1 v2 v3 v4 v5 = ((kX3_pass (kX3_carry f v1 v2 v3 0).2 v5), g) := (if_neg c_74).trans ((if_pos c_86).trans ((if_neg c_116)))
    have hρ := hρ0.trans hρ
    exact e_wv hx hb hr hlk hK hP hD hS dX5_driftOnce_128 (congrArg (fun z => (LW cI h a z.1 ++ (KR cI cZ cQ h b z.2 ++ X))) hρ).symm
  have c_86 : ¬ (v4 = 0) := c_86
  refine lv_aload_n hx hb dX5_driftOnce_89 rfl (lv_at hl 0 rfl) ?_
  refine va_get (v := .ref h) (C := RX5) (T := TX5) (N := 6) (ci := 5) hx hb hts hinX5 hown hK hP 13 rfl rfl 0 (by decide) (hts (.fieldLink RX5 10 "AxleKeeper" "now" "LAxleKeeper$Line;") (by decide +kernel)) (fun _ h9 => h9) rfl dX5_driftOnce_90 ?_
  refine lv_iload_n hx hb dX5_driftOnce_93 rfl (lv_at hl 1 rfl) ?_
  refine k_rd (As := [.int v1]) (rest := [.int v3, .int v2, .int v1, .ref h]) (bytes := cX3_feelsAll) (C := RX3) S (okX3_feelsAll l D cI cZ cQ h a (KR cI cZ cQ h b g ++ X) f v1 (by assumption)) gX5_driftOnce_X3_feelsAll rfl ⟨rfl, rfl⟩ ndX3_feelsAll ⟨Nat.le_of_ble_eq_true rfl, Nat.le_of_ble_eq_true rfl⟩ hK hP 0 rfl rfl rfl hl rfl (Nat.le_of_ble_eq_true rfl) dX5_driftOnce_94 ⟨Nat.zero_le _, Nat.zero_le _⟩ ?_
  refine lv_if_eq (tgt := 104) hx hb dX5_driftOnce_97 (by decide) (fun c_97 => ?_) (fun c_97 => ?_)
  · have c_97 : (kX3_feelsAll f v1) = 0 := c_97
    refine lv_iconst (v := 0) hx hb dX5_driftOnce_104 (by decide) ?_
    refine k_wi (As := [.int v1, .int v2, .int v3, .int 0]) (rest := []) (bytes := cX3_carry) (C := RX3) S (okX3_carry l D cI cZ cQ h a (KR cI cZ cQ h b g ++ X) f v1 v2 v3 0 _ (by assumption) (by assumption)) gX5_driftOnce_X3_carry rfl ⟨rfl, rfl⟩ ndX3_carry ⟨Nat.le_of_ble_eq_true rfl, Nat.le_of_ble_eq_true rfl⟩ hK hP hD hS hA 0 rfl rfl rfl hl rfl (Nat.le_of_ble_eq_true rfl) dX5_driftOnce_105 ⟨Nat.zero_le _, Nat.zero_le _⟩ (fun H locs hP hD hS => ?_)
    have hP : va_P D vwCl (LW cI h a (kX3_carry f v1 v2 v3 0).2 ++ (KR cI cZ cQ h b g ++ X)) H := hP
    have hD : va_D A (LW cI h a (kX3_carry f v1 v2 v3 0).2 ++ (KR cI cZ cQ h b g ++ X)) := hD
    refine lv_pop hx hb dX5_driftOnce_108 rfl ?_
    refine lv_aload_n hx hb dX5_driftOnce_109 rfl (lv_at hl 0 rfl) ?_
    refine va_get (v := .ref h) (C := RX5) (T := TX5) (N := 6) (ci := 5) hx hb hts hinX5 hown hK hP 13 rfl rfl 0 (by decide) (hts (.fieldLink RX5 10 "AxleKeeper" "now" "LAxleKeeper$Line;") (by decide +kernel)) (fun _ h9 => h9) rfl dX5_driftOnce_110 ?_
    refine lv_iload hx hb dX5_driftOnce_113 (lv_at hl 4 rfl) ?_
    refine lv_iconst (v := 4) hx hb dX5_driftOnce_115 (by decide) ?_
    refine lv_icmp_ge (tgt := 124) hx hb dX5_driftOnce_116 (by decide) (fun c_116 => ?_) (fun c_116 => ?_)
    · have c_116 : 4 ≤ v4 := c_116
      refine lv_iconst (v := 0) hx hb dX5_driftOnce_124 (by decide) ?_
      refine k_wv (As := [.int 0]) (rest := []) (bytes := cX3_pass) (C := RX3) S (okX3_pass l D cI cZ cQ h a (KR cI cZ cQ h b g ++ X) ((kX3_carry f v1 v2 v3 0).2) 0 _ (ok_carry hok)) gX5_driftOnce_X3_pass rfl ⟨rfl, rfl⟩ ndX3_pass ⟨Nat.le_of_ble_eq_true rfl, Nat.le_of_ble_eq_true rfl⟩ hK hP hD hS hA 0 rfl rfl rfl hl rfl (Nat.le_of_ble_eq_true rfl) dX5_driftOnce_125 ⟨Nat.zero_le _, Nat.zero_le _⟩ (fun H locs hP hD hS => ?_)
      have hP : va_P D vwCl (LW cI h a (kX3_pass (kX3_carry f v1 v2 v3 0).2 0) ++ (KR cI cZ cQ h b g ++ X)) H := hP
      have hD : va_D A (LW cI h a (kX3_pass (kX3_carry f v1 v2 v3 0).2 0) ++ (KR cI cZ cQ h b g ++ X)) := hD
      have hρ : kX5_driftOnce_64  f g v1 v2 v3 v4 v5 = ((kX3_pass (kX3_carry f v1 v2 v3 0).2 0), g) := (if_neg c_74).trans ((if_neg c_86).trans ((if_pos c_97).trans ((if_pos c_116))))
      have hρ := hρ0.trans hρ
      exact e_wv hx hb hr hlk hK hP hD hS dX5_driftOnce_128 (congrArg (fun z => (LW cI h a z.1 ++ (KR cI cZ cQ h b z.2 ++ X))) hρ).symm
    have c_116 : ¬ (4 ≤ v4) := c_116
    refine lv_iload hx hb dX5_driftOnce_119 (lv_at hl 5 rfl) ?_
    refine lv_goto (tgt := 125) hx hb dX5_driftOnce_121 (by decide) ?_
    refine k_wv (As := [.int v5]) (rest := []) (bytes := cX3_pass) (C := RX3) S (okX3_pass l D cI cZ cQ h a (KR cI cZ cQ h b g ++ X) ((kX3_carry f v1 v2 v3 0).2) v5 _ (ok_carry hok)) gX5_driftOnce_X3_pass rfl ⟨rfl, rfl⟩ ndX3_pass ⟨Nat.le_of_ble_eq_true rfl, Nat.le_of_ble_eq_true rfl⟩ hK hP hD hS hA 0 rfl rfl rfl hl rfl (Nat.le_of_ble_eq_true rfl) dX5_driftOnce_125 ⟨Nat.zero_le _, Nat.zero_le _⟩ (fun H locs hP hD hS => ?_)
    have hP : va_P D vwCl (LW cI h a (kX3_pass (kX3_carry f v1 v2 v3 0).2 v5) ++ (KR cI cZ cQ h b g ++ X)) H := hP
    have hD : va_D A (LW cI h a (kX3_pass (kX3_carry f v1 v2 v3 0).2 v5) ++ (KR cI cZ cQ h b g ++ X)) := hD
    have hρ : kX5_driftOnce_64  f g v1 v2 v3 v4 v5 = ((kX3_pass (kX3_carry f v1 v2 v3 0).2 v5), g) := (if_neg c_74).trans ((if_neg c_86).trans ((if_pos c_97).trans ((if_neg c_116))))
    have hρ := hρ0.trans hρ
    exact e_wv hx hb hr hlk hK hP hD hS dX5_driftOnce_128 (congrArg (fun z => (LW cI h a z.1 ++ (KR cI cZ cQ h b z.2 ++ X))) hρ).symm
  have c_97 : ¬ ((kX3_feelsAll f v1) = 0) := c_97
  refine lv_iconst (v := 1) hx hb dX5_driftOnce_100 (by decide) ?_
  refine lv_goto (tgt := 105) hx hb dX5_driftOnce_101 (by decide) ?_
  refine k_wi (As := [.int v1, .int v2, .int v3, .int 1]) (rest := []) (bytes := cX3_carry) (C := RX3) S (okX3_carry l D cI cZ cQ h a (KR cI cZ cQ h b g ++ X) f v1 v2 v3 1 _ (by assumption) (by assumption)) gX5_driftOnce_X3_carry rfl ⟨rfl, rfl⟩ ndX3_carry ⟨Nat.le_of_ble_eq_true rfl, Nat.le_of_ble_eq_true rfl⟩ hK hP hD hS hA 0 rfl rfl rfl hl rfl (Nat.le_of_ble_eq_true rfl) dX5_driftOnce_105 ⟨Nat.zero_le _, Nat.zero_le _⟩ (fun H locs hP hD hS => ?_)
  have hP : va_P D vwCl (LW cI h a (kX3_carry f v1 v2 v3 1).2 ++ (KR cI cZ cQ h b g ++ X)) H := hP
  have hD : va_D A (LW cI h a (kX3_carry f v1 v2 v3 1).2 ++ (KR cI cZ cQ h b g ++ X)) := hD
  refine lv_pop hx hb dX5_driftOnce_108 rfl ?_
  refine lv_aload_n hx hb dX5_driftOnce_109 rfl (lv_at hl 0 rfl) ?_
  refine va_get (v := .ref h) (C := RX5) (T := TX5) (N := 6) (ci := 5) hx hb hts hinX5 hown hK hP 13 rfl rfl 0 (by decide) (hts (.fieldLink RX5 10 "AxleKeeper" "now" "LAxleKeeper$Line;") (by decide +kernel)) (fun _ h9 => h9) rfl dX5_driftOnce_110 ?_
  refine lv_iload hx hb dX5_driftOnce_113 (lv_at hl 4 rfl) ?_
  refine lv_iconst (v := 4) hx hb dX5_driftOnce_115 (by decide) ?_
  refine lv_icmp_ge (tgt := 124) hx hb dX5_driftOnce_116 (by decide) (fun c_116 => ?_) (fun c_116 => ?_)
  · have c_116 : 4 ≤ v4 := c_116
    refine lv_iconst (v := 0) hx hb dX5_driftOnce_124 (by decide) ?_
    refine k_wv (As := [.int 0]) (rest := []) (bytes := cX3_pass) (C := RX3) S (okX3_pass l D cI cZ cQ h a (KR cI cZ cQ h b g ++ X) ((kX3_carry f v1 v2 v3 1).2) 0 _ (ok_carry hok)) gX5_driftOnce_X3_pass rfl ⟨rfl, rfl⟩ ndX3_pass ⟨Nat.le_of_ble_eq_true rfl, Nat.le_of_ble_eq_true rfl⟩ hK hP hD hS hA 0 rfl rfl rfl hl rfl (Nat.le_of_ble_eq_true rfl) dX5_driftOnce_125 ⟨Nat.zero_le _, Nat.zero_le _⟩ (fun H locs hP hD hS => ?_)
    have hP : va_P D vwCl (LW cI h a (kX3_pass (kX3_carry f v1 v2 v3 1).2 0) ++ (KR cI cZ cQ h b g ++ X)) H := hP
    have hD : va_D A (LW cI h a (kX3_pass (kX3_carry f v1 v2 v3 1).2 0) ++ (KR cI cZ cQ h b g ++ X)) := hD
    have hρ : kX5_driftOnce_64  f g v1 v2 v3 v4 v5 = ((kX3_pass (kX3_carry f v1 v2 v3 1).2 0), g) := (if_neg c_74).trans ((if_neg c_86).trans ((if_neg c_97).trans ((if_pos c_116))))
    have hρ := hρ0.trans hρ
    exact e_wv hx hb hr hlk hK hP hD hS dX5_driftOnce_128 (congrArg (fun z => (LW cI h a z.1 ++ (KR cI cZ cQ h b z.2 ++ X))) hρ).symm
  have c_116 : ¬ (4 ≤ v4) := c_116
  refine lv_iload hx hb dX5_driftOnce_119 (lv_at hl 5 rfl) ?_
  refine lv_goto (tgt := 125) hx hb dX5_driftOnce_121 (by decide) ?_
  refine k_wv (As := [.int v5]) (rest := []) (bytes := cX3_pass) (C := RX3) S (okX3_pass l D cI cZ cQ h a (KR cI cZ cQ h b g ++ X) ((kX3_carry f v1 v2 v3 1).2) v5 _ (ok_carry hok)) gX5_driftOnce_X3_pass rfl ⟨rfl, rfl⟩ ndX3_pass ⟨Nat.le_of_ble_eq_true rfl, Nat.le_of_ble_eq_true rfl⟩ hK hP hD hS hA 0 rfl rfl rfl hl rfl (Nat.le_of_ble_eq_true rfl) dX5_driftOnce_125 ⟨Nat.zero_le _, Nat.zero_le _⟩ (fun H locs hP hD hS => ?_)
  have hP : va_P D vwCl (LW cI h a (kX3_pass (kX3_carry f v1 v2 v3 1).2 v5) ++ (KR cI cZ cQ h b g ++ X)) H := hP
  have hD : va_D A (LW cI h a (kX3_pass (kX3_carry f v1 v2 v3 1).2 v5) ++ (KR cI cZ cQ h b g ++ X)) := hD
  have hρ : kX5_driftOnce_64  f g v1 v2 v3 v4 v5 = ((kX3_pass (kX3_carry f v1 v2 v3 1).2 v5), g) := (if_neg c_74).trans ((if_neg c_86).trans ((if_neg c_97).trans ((if_neg c_116))))
  have hρ := hρ0.trans hρ
  exact e_wv hx hb hr hlk hK hP hD hS dX5_driftOnce_128 (congrArg (fun z => (LW cI h a z.1 ++ (KR cI cZ cQ h b z.2 ++ X))) hρ).symm
set_option maxHeartbeats 4000000 in
set_option maxRecDepth 100000 in
theorem okX5_driftOnce (l : Launch) (D : va_G) (cI cZ cQ : ClassId) (h : Nat) (a b : Nat → Nat) (X : va_W) (f g : Nat → Nat → Int32) (sz : Nat) (hok : okL f) : Met l yX5_driftOnce wsX5_driftOnce ({ frames := 5, cells := 0, slots := 0, locals := 112 }) (PW [.ref (b 0)] sz D (TY cI cZ cQ) (LW cI h a f ++ (KR cI cZ cQ h b g ++ X))) (QV D (TY cI cZ cQ) (LW cI h a (kX5_driftOnce f g).1 ++ (KR cI cZ cQ h b (kX5_driftOnce f g).2 ++ X)) (va_A (LW cI h a f ++ (KR cI cZ cQ h b g ++ X)) sz)) 0 0 (va_A (LW cI h a f ++ (KR cI cZ cQ h b g ++ X)) sz) := by
  refine m_wr (cc := cX5_driftOnce) (maxL := 6) (ret := none) (by decide) rfl (Nat.le_of_ble_eq_true rfl) (lv0 := [(0, .ref (b 0))]) rfl ?_
  intro p e s m below meth c ls A hAe S hr hlk hP hK hD hS hA hl
  rw [← hAe]
  have S : CallFix p m c cX5_driftOnce 6 s ([.ref (b 0)] : List Value).toArray wsX5_driftOnce RX5 := S
  have hx := S.1
  have hb := S.2.1
  have hown : s.vm.findClass RX5 = some m.cls := S.2.2.2.1
  have hts := S.2.2.2.2
  have hinX5 : ∀ w ∈ wsX50, w ∈ wsX5_driftOnce := by decide +kernel
  refine lv_aload_n hx hb dX5_driftOnce_0 rfl (lv_at hl 0 rfl) ?_
  refine va_get (v := .ref (b 7)) (C := RX5) (T := TX5) (N := 6) (ci := 5) hx hb hts hinX5 hown hK hP 13 rfl rfl 3 (by decide) (hts (.fieldLink RX5 33 "AxleKeeper" "draws" "LAxleKeeper$Draws;") (by decide +kernel)) (fun _ h9 => h9) rfl dX5_driftOnce_1 ?_
  refine lv_aload_n hx hb dX5_driftOnce_4 rfl (lv_at hl 0 rfl) ?_
  refine va_get (v := .ref h) (C := RX5) (T := TX5) (N := 6) (ci := 5) hx hb hts hinX5 hown hK hP 13 rfl rfl 0 (by decide) (hts (.fieldLink RX5 10 "AxleKeeper" "now" "LAxleKeeper$Line;") (by decide +kernel)) (fun _ h9 => h9) rfl dX5_driftOnce_5 ?_
  refine k_rd (As := []) (rest := [.ref (b 7)]) (bytes := cX3_heads) (C := RX3) S (okX3_heads l D cI cZ cQ h a (KR cI cZ cQ h b g ++ X) f ) gX5_driftOnce_X3_heads rfl ⟨rfl, rfl⟩ ndX3_heads ⟨Nat.le_of_ble_eq_true rfl, Nat.le_of_ble_eq_true rfl⟩ hK hP 0 rfl rfl rfl hl rfl (Nat.le_of_ble_eq_true rfl) dX5_driftOnce_8 ⟨Nat.zero_le _, Nat.zero_le _⟩ ?_
  refine k_wi (As := [.int (kX3_heads f)]) (rest := []) (bytes := cX1_next) (C := RX1) S (okX1_next l D cI cZ cQ h a b X f g (kX3_heads f) _) gX5_driftOnce_X1_next rfl ⟨rfl, rfl⟩ ndX1_next ⟨Nat.le_of_ble_eq_true rfl, Nat.le_of_ble_eq_true rfl⟩ hK hP hD hS hA 20 rfl rfl rfl hl rfl (Nat.le_of_ble_eq_true rfl) dX5_driftOnce_11 ⟨Nat.zero_le _, Nat.zero_le _⟩ (fun H locs hP hD hS => ?_)
  have hP : va_P D vwCl (LW cI h a f ++ (KR cI cZ cQ h b (kX1_next f g (kX3_heads f)).2 ++ X)) H := hP
  have hD : va_D A (LW cI h a f ++ (KR cI cZ cQ h b (kX1_next f g (kX3_heads f)).2 ++ X)) := hD
  refine lv_istore_n (lv' := [(1, .int ((kX1_next f g (kX3_heads f)).1)), (0, .ref (b 0))]) hx hb dX5_driftOnce_14 rfl hl (by decide) rfl (fun ls hl => ?_)
  refine lv_aload_n hx hb dX5_driftOnce_15 rfl (lv_at hl 1 rfl) ?_
  refine va_get (v := .ref (b 7)) (C := RX5) (T := TX5) (N := 6) (ci := 5) hx hb hts hinX5 hown hK hP 13 rfl rfl 3 (by decide) (hts (.fieldLink RX5 33 "AxleKeeper" "draws" "LAxleKeeper$Draws;") (by decide +kernel)) (fun _ h9 => h9) rfl dX5_driftOnce_16 ?_
  refine lv_iconst (v := 2) hx hb dX5_driftOnce_19 (by decide) ?_
  refine k_wi (As := [.int 2]) (rest := []) (bytes := cX1_next) (C := RX1) S (okX1_next l D cI cZ cQ h a b X f ((kX1_next f g (kX3_heads f)).2) 2 _) gX5_driftOnce_X1_next rfl ⟨rfl, rfl⟩ ndX1_next ⟨Nat.le_of_ble_eq_true rfl, Nat.le_of_ble_eq_true rfl⟩ hK hP hD hS hA 20 rfl rfl rfl hl rfl (Nat.le_of_ble_eq_true rfl) dX5_driftOnce_20 ⟨Nat.zero_le _, Nat.zero_le _⟩ (fun H locs hP hD hS => ?_)
  have hP : va_P D vwCl (LW cI h a f ++ (KR cI cZ cQ h b (kX1_next f (kX1_next f g (kX3_heads f)).2 2).2 ++ X)) H := hP
  have hD : va_D A (LW cI h a f ++ (KR cI cZ cQ h b (kX1_next f (kX1_next f g (kX3_heads f)).2 2).2 ++ X)) := hD
  refine lv_istore_n (lv' := [(2, .int ((kX1_next f (kX1_next f g (kX3_heads f)).2 2).1)), (1, .int ((kX1_next f g (kX3_heads f)).1)), (0, .ref (b 0))]) hx hb dX5_driftOnce_23 rfl hl (by decide) rfl (fun ls hl => ?_)
  refine lv_aload_n hx hb dX5_driftOnce_24 rfl (lv_at hl 2 rfl) ?_
  refine va_get (v := .ref (b 7)) (C := RX5) (T := TX5) (N := 6) (ci := 5) hx hb hts hinX5 hown hK hP 13 rfl rfl 3 (by decide) (hts (.fieldLink RX5 33 "AxleKeeper" "draws" "LAxleKeeper$Draws;") (by decide +kernel)) (fun _ h9 => h9) rfl dX5_driftOnce_25 ?_
  refine lv_iconst (v := 3) hx hb dX5_driftOnce_28 (by decide) ?_
  refine k_wi (As := [.int 3]) (rest := []) (bytes := cX1_next) (C := RX1) S (okX1_next l D cI cZ cQ h a b X f ((kX1_next f (kX1_next f g (kX3_heads f)).2 2).2) 3 _) gX5_driftOnce_X1_next rfl ⟨rfl, rfl⟩ ndX1_next ⟨Nat.le_of_ble_eq_true rfl, Nat.le_of_ble_eq_true rfl⟩ hK hP hD hS hA 20 rfl rfl rfl hl rfl (Nat.le_of_ble_eq_true rfl) dX5_driftOnce_29 ⟨Nat.zero_le _, Nat.zero_le _⟩ (fun H locs hP hD hS => ?_)
  have hP : va_P D vwCl (LW cI h a f ++ (KR cI cZ cQ h b (kX1_next f (kX1_next f (kX1_next f g (kX3_heads f)).2 2).2 3).2 ++ X)) H := hP
  have hD : va_D A (LW cI h a f ++ (KR cI cZ cQ h b (kX1_next f (kX1_next f (kX1_next f g (kX3_heads f)).2 2).2 3).2 ++ X)) := hD
  refine lv_iconst (v := 1) hx hb dX5_driftOnce_32 (by decide) ?_
  refine lv_iadd hx hb dX5_driftOnce_33 ?_
  refine lv_istore_n (lv' := [(3, .int ((kX1_next f (kX1_next f (kX1_next f g (kX3_heads f)).2 2).2 3).1 + 1)), (2, .int ((kX1_next f (kX1_next f g (kX3_heads f)).2 2).1)), (1, .int ((kX1_next f g (kX3_heads f)).1)), (0, .ref (b 0))]) hx hb dX5_driftOnce_34 rfl hl (by decide) rfl (fun ls hl => ?_)
  refine lv_aload_n hx hb dX5_driftOnce_35 rfl (lv_at hl 3 rfl) ?_
  refine va_get (v := .ref (b 7)) (C := RX5) (T := TX5) (N := 6) (ci := 5) hx hb hts hinX5 hown hK hP 13 rfl rfl 3 (by decide) (hts (.fieldLink RX5 33 "AxleKeeper" "draws" "LAxleKeeper$Draws;") (by decide +kernel)) (fun _ h9 => h9) rfl dX5_driftOnce_36 ?_
  refine lv_bipush (v := 16) hx hb dX5_driftOnce_39 (by decide) ?_
  refine k_wi (As := [.int 16]) (rest := []) (bytes := cX1_next) (C := RX1) S (okX1_next l D cI cZ cQ h a b X f ((kX1_next f (kX1_next f (kX1_next f g (kX3_heads f)).2 2).2 3).2) 16 _) gX5_driftOnce_X1_next rfl ⟨rfl, rfl⟩ ndX1_next ⟨Nat.le_of_ble_eq_true rfl, Nat.le_of_ble_eq_true rfl⟩ hK hP hD hS hA 20 rfl rfl rfl hl rfl (Nat.le_of_ble_eq_true rfl) dX5_driftOnce_41 ⟨Nat.zero_le _, Nat.zero_le _⟩ (fun H locs hP hD hS => ?_)
  have hP : va_P D vwCl (LW cI h a f ++ (KR cI cZ cQ h b (kX1_next f (kX1_next f (kX1_next f (kX1_next f g (kX3_heads f)).2 2).2 3).2 16).2 ++ X)) H := hP
  have hD : va_D A (LW cI h a f ++ (KR cI cZ cQ h b (kX1_next f (kX1_next f (kX1_next f (kX1_next f g (kX3_heads f)).2 2).2 3).2 16).2 ++ X)) := hD
  refine lv_istore (lv' := [(4, .int ((kX1_next f (kX1_next f (kX1_next f (kX1_next f g (kX3_heads f)).2 2).2 3).2 16).1)), (3, .int ((kX1_next f (kX1_next f (kX1_next f g (kX3_heads f)).2 2).2 3).1 + 1)), (2, .int ((kX1_next f (kX1_next f g (kX3_heads f)).2 2).1)), (1, .int ((kX1_next f g (kX3_heads f)).1)), (0, .ref (b 0))]) hx hb dX5_driftOnce_44 hl (by decide) rfl (fun ls hl => ?_)
  refine lv_aload_n hx hb dX5_driftOnce_46 rfl (lv_at hl 4 rfl) ?_
  refine va_get (v := .ref (b 7)) (C := RX5) (T := TX5) (N := 6) (ci := 5) hx hb hts hinX5 hown hK hP 13 rfl rfl 3 (by decide) (hts (.fieldLink RX5 33 "AxleKeeper" "draws" "LAxleKeeper$Draws;") (by decide +kernel)) (fun _ h9 => h9) rfl dX5_driftOnce_47 ?_
  refine lv_iconst (v := 1) hx hb dX5_driftOnce_50 (by decide) ?_
  refine lv_aload_n hx hb dX5_driftOnce_51 rfl (lv_at hl 4 rfl) ?_
  refine va_get (v := .ref h) (C := RX5) (T := TX5) (N := 6) (ci := 5) hx hb hts hinX5 hown hK hP 13 rfl rfl 0 (by decide) (hts (.fieldLink RX5 10 "AxleKeeper" "now" "LAxleKeeper$Line;") (by decide +kernel)) (fun _ h9 => h9) rfl dX5_driftOnce_52 ?_
  refine k_rd (As := []) (rest := [.int 1, .ref (b 7)]) (bytes := cX3_heads) (C := RX3) S (okX3_heads l D cI cZ cQ h a (KR cI cZ cQ h b (kX1_next f (kX1_next f (kX1_next f (kX1_next f g (kX3_heads f)).2 2).2 3).2 16).2 ++ X) f ) gX5_driftOnce_X3_heads rfl ⟨rfl, rfl⟩ ndX3_heads ⟨Nat.le_of_ble_eq_true rfl, Nat.le_of_ble_eq_true rfl⟩ hK hP 0 rfl rfl rfl hl rfl (Nat.le_of_ble_eq_true rfl) dX5_driftOnce_55 ⟨Nat.zero_le _, Nat.zero_le _⟩ ?_
  refine lv_ishl hx hb dX5_driftOnce_58 ?_
  refine k_wi (As := [.int ((1 : Int32) <<< ((kX3_heads f) &&& 31))]) (rest := []) (bytes := cX1_next) (C := RX1) S (okX1_next l D cI cZ cQ h a b X f ((kX1_next f (kX1_next f (kX1_next f (kX1_next f g (kX3_heads f)).2 2).2 3).2 16).2) ((1 : Int32) <<< ((kX3_heads f) &&& 31)) _) gX5_driftOnce_X1_next rfl ⟨rfl, rfl⟩ ndX1_next ⟨Nat.le_of_ble_eq_true rfl, Nat.le_of_ble_eq_true rfl⟩ hK hP hD hS hA 20 rfl rfl rfl hl rfl (Nat.le_of_ble_eq_true rfl) dX5_driftOnce_59 ⟨Nat.zero_le _, Nat.zero_le _⟩ (fun H locs hP hD hS => ?_)
  have hP : va_P D vwCl (LW cI h a f ++ (KR cI cZ cQ h b (kX1_next f (kX1_next f (kX1_next f (kX1_next f (kX1_next f g (kX3_heads f)).2 2).2 3).2 16).2 ((1 : Int32) <<< ((kX3_heads f) &&& 31))).2 ++ X)) H := hP
  have hD : va_D A (LW cI h a f ++ (KR cI cZ cQ h b (kX1_next f (kX1_next f (kX1_next f (kX1_next f (kX1_next f g (kX3_heads f)).2 2).2 3).2 16).2 ((1 : Int32) <<< ((kX3_heads f) &&& 31))).2 ++ X)) := hD
  refine lv_istore (lv' := [(5, .int ((kX1_next f (kX1_next f (kX1_next f (kX1_next f (kX1_next f g (kX3_heads f)).2 2).2 3).2 16).2 ((1 : Int32) <<< ((kX3_heads f) &&& 31))).1)), (4, .int ((kX1_next f (kX1_next f (kX1_next f (kX1_next f g (kX3_heads f)).2 2).2 3).2 16).1)), (3, .int ((kX1_next f (kX1_next f (kX1_next f g (kX3_heads f)).2 2).2 3).1 + 1)), (2, .int ((kX1_next f (kX1_next f g (kX3_heads f)).2 2).1)), (1, .int ((kX1_next f g (kX3_heads f)).1)), (0, .ref (b 0))]) hx hb dX5_driftOnce_62 hl (by decide) rfl (fun ls hl => ?_)
  have hρ : kX5_driftOnce f g = kX5_driftOnce_64  f ((kX1_next f (kX1_next f (kX1_next f (kX1_next f (kX1_next f g (kX3_heads f)).2 2).2 3).2 16).2 ((1 : Int32) <<< ((kX3_heads f) &&& 31))).2) ((kX1_next f g (kX3_heads f)).1) ((kX1_next f (kX1_next f g (kX3_heads f)).2 2).1) ((kX1_next f (kX1_next f (kX1_next f g (kX3_heads f)).2 2).2 3).1 + 1) ((kX1_next f (kX1_next f (kX1_next f (kX1_next f g (kX3_heads f)).2 2).2 3).2 16).1) ((kX1_next f (kX1_next f (kX1_next f (kX1_next f (kX1_next f g (kX3_heads f)).2 2).2 3).2 16).2 ((1 : Int32) <<< ((kX3_heads f) &&& 31))).1) := rfl
  exact lpX5_driftOnce_64 l D cI cZ cQ h a b X A hA S hr hlk hK  ((kX1_next f g (kX3_heads f)).1) ((kX1_next f (kX1_next f g (kX3_heads f)).2 2).1) ((kX1_next f (kX1_next f (kX1_next f g (kX3_heads f)).2 2).2 3).1 + 1) ((kX1_next f (kX1_next f (kX1_next f (kX1_next f g (kX3_heads f)).2 2).2 3).2 16).1) ((kX1_next f (kX1_next f (kX1_next f (kX1_next f (kX1_next f g (kX3_heads f)).2 2).2 3).2 16).2 ((1 : Int32) <<< ((kX3_heads f) &&& 31))).1) f ((kX1_next f (kX1_next f (kX1_next f (kX1_next f (kX1_next f g (kX3_heads f)).2 2).2 3).2 16).2 ((1 : Int32) <<< ((kX3_heads f) &&& 31))).2) _ _ hok (nx_in hok) hP hD hS (lv_sub hl [5, 4, 3, 2, 1, 0] rfl) _ hρ
theorem ndX5_drift : yX5_drift.cls = RX5 ∧ yX5_drift.cls ≠ "java/lang/invoke/MethodHandle" ∧ yX5_drift.cls ≠ "java/lang/invoke/VarHandle" ∧ (parseMethodDescriptor yX5_drift.desc).map (fun d => d.parameters.length) = some 1 := by decide +kernel
set_option maxHeartbeats 4000000 in
set_option maxRecDepth 100000 in
theorem lpX5_drift_16 {p : Program} {e : Env} {s : State} {m : MethodId} {below : List Frame} {meth : Method} {c : Code} (l : Launch) (D : va_G) (cI cZ cQ : ClassId) (h : Nat) (a b : Nat → Nat) (X : va_W) (x1 : Int32) (A : Nat → Prop) (hA : ∀ q, s.heap.size ≤ q → A q) (S : CallFix p m c cX5_drift 3 s ([.ref (b 0), .int x1] : List Value).toArray wsX5_drift RX5) (hr : meth.sig.returnType = (some .int)) (hlk : meth.locks = false) (hK : va_K D vwCl (TY cI cZ cQ) s)  : ∀ (n i : Nat) (f g : Nat → Nat → Int32) (H : Heap) (locs : List Loc), i ≤ 16 → 16 - i < n → (hok : okL f) → (hn : vp_in (g 2 0) 16) → (hx1 : x1 ≤ 16) → va_P D vwCl (LW cI h a f ++ (KR cI cZ cQ h b g ++ X)) H → va_D A (LW cI h a f ++ (KR cI cZ cQ h b g ++ X)) → va_S A s.heap H locs → ∀ {ls : Array Slot}, lv_has ls 3 [(0, .ref (b 0)), (1, .int x1), (2, .int (nI i))] → ∀ ρ : Int32 × (Nat → Nat → Int32) × (Nat → Nat → Int32), ρ = kX5_drift_16 x1 n i f g → W p l e { frames := 6, cells := 0, slots := 0, locals := 137 } s m ([.ref (b 0), .int x1] : List Value).toArray below meth c H locs 0 0 (MQ below (QI ρ.1 D (TY cI cZ cQ) (LW cI h a ρ.2.1 ++ (KR cI cZ cQ h b ρ.2.2 ++ X)) A) ([.ref (b 0), .int x1] : List Value).toArray s 0 0 A) (F0 m 16 ls []) := by
  have hx := S.1
  have hb := S.2.1
  have hown : s.vm.findClass RX5 = some m.cls := S.2.2.2.1
  have hts := S.2.2.2.2
  have hinX5 : ∀ w ∈ wsX50, w ∈ wsX5_drift := by decide +kernel
  intro n
  induction n with
  | zero =>
    intro i _ _ _ _ hi hn
    exact absurd hn (Nat.not_lt_zero _)
  | succ n ih =>
    intro i  f g H locs hi hn hok hn hx1 hP hD hS ls hl ρ hρ0
    refine lv_iload_n hx hb dX5_drift_16 rfl (lv_at hl 2 rfl) ?_
    refine lv_iload_n hx hb dX5_drift_17 rfl (lv_at hl 1 rfl) ?_
    refine lv_icmp_ge (tgt := 42) hx hb dX5_drift_18 (by decide) (fun c_18 => ?_) (fun c_18 => ?_)
    · have c_18 : x1 ≤ (nI i) := c_18
      refine lv_aload_n hx hb dX5_drift_42 rfl (lv_at hl 0 rfl) ?_
      refine va_get (v := .ref h) (C := RX5) (T := TX5) (N := 6) (ci := 5) hx hb hts hinX5 hown hK hP 13 rfl rfl 0 (by decide) (hts (.fieldLink RX5 10 "AxleKeeper" "now" "LAxleKeeper$Line;") (by decide +kernel)) (fun _ h9 => h9) rfl dX5_drift_43 ?_
      refine lv_iconst (v := 0) hx hb dX5_drift_46 (by decide) ?_
      refine k_rd (As := [.int 0]) (rest := []) (bytes := cX3_called) (C := RX3) S (okX3_called l D cI cZ cQ h a (KR cI cZ cQ h b g ++ X) f 0 (by assumption)) gX5_drift_X3_called rfl ⟨rfl, rfl⟩ ndX3_called ⟨Nat.le_of_ble_eq_true rfl, Nat.le_of_ble_eq_true rfl⟩ hK hP 0 rfl rfl rfl hl rfl (Nat.le_of_ble_eq_true rfl) dX5_drift_47 ⟨Nat.zero_le _, Nat.zero_le _⟩ ?_
      have hρ : kX5_drift_16 x1 (n + 1) i f g = ((kX3_called f 0), f, g) := (if_pos c_18)
      have hρ := hρ0.trans hρ
      exact e_wi hx hb hr hlk hK hP hD hS dX5_drift_50 (congrArg Prod.fst hρ).symm (congrArg (fun z => (LW cI h a z.2.1 ++ (KR cI cZ cQ h b z.2.2 ++ X))) hρ).symm
    have c_18 : ¬ (x1 ≤ (nI i)) := c_18
    have hlt : i < 16 := il_lt hx1 (by decide) hi c_18
    refine lv_aload_n hx hb dX5_drift_21 rfl (lv_at hl 0 rfl) ?_
    refine va_get (v := .ref (b 2)) (C := RX5) (T := TX5) (N := 6) (ci := 5) hx hb hts hinX5 hown hK hP 13 rfl rfl 1 (by decide) (hts (.fieldLink RX5 19 "AxleKeeper" "past" "LAxleKeeper$Past;") (by decide +kernel)) (fun _ h9 => h9) rfl dX5_drift_22 ?_
    refine lv_aload_n hx hb dX5_drift_25 rfl (lv_at hl 0 rfl) ?_
    refine va_get (v := .ref h) (C := RX5) (T := TX5) (N := 6) (ci := 5) hx hb hts hinX5 hown hK hP 13 rfl rfl 0 (by decide) (hts (.fieldLink RX5 10 "AxleKeeper" "now" "LAxleKeeper$Line;") (by decide +kernel)) (fun _ h9 => h9) rfl dX5_drift_26 ?_
    refine k_wv (As := [.ref h]) (rest := []) (bytes := cX4_add) (C := RX4) S (okX4_add l D cI cZ cQ h a b X f g _ (by assumption)) gX5_drift_X4_add rfl ⟨rfl, rfl⟩ ndX4_add ⟨Nat.le_of_ble_eq_true rfl, Nat.le_of_ble_eq_true rfl⟩ hK hP hD hS hA 15 rfl rfl rfl hl rfl (Nat.le_of_ble_eq_true rfl) dX5_drift_29 ⟨Nat.zero_le _, Nat.zero_le _⟩ (fun H locs hP hD hS => ?_)
    have hP : va_P D vwCl (LW cI h a f ++ (KR cI cZ cQ h b (kX4_add f g) ++ X)) H := hP
    have hD : va_D A (LW cI h a f ++ (KR cI cZ cQ h b (kX4_add f g) ++ X)) := hD
    refine lv_aload_n hx hb dX5_drift_32 rfl (lv_at hl 0 rfl) ?_
    refine k_wv (As := []) (rest := []) (bytes := cX5_driftOnce) (C := RX5) S (okX5_driftOnce l D cI cZ cQ h a b X f (kX4_add f g) _ hok) gX5_drift_X5_driftOnce rfl ⟨rfl, rfl⟩ ndX5_driftOnce ⟨Nat.le_of_ble_eq_true rfl, Nat.le_of_ble_eq_true rfl⟩ hK hP hD hS hA 13 rfl rfl rfl hl rfl (Nat.le_of_ble_eq_true rfl) dX5_drift_33 ⟨Nat.zero_le _, Nat.zero_le _⟩ (fun H locs hP hD hS => ?_)
    have hP : va_P D vwCl (LW cI h a (kX5_driftOnce f (kX4_add f g)).1 ++ (KR cI cZ cQ h b (kX5_driftOnce f (kX4_add f g)).2 ++ X)) H := hP
    have hD : va_D A (LW cI h a (kX5_driftOnce f (kX4_add f g)).1 ++ (KR cI cZ cQ h b (kX5_driftOnce f (kX4_add f g)).2 ++ X)) := hD
    refine lv_iinc (v := (nI (i + 1))) (lv' := [(2, .int (nI (i + 1))), (0, .ref (b 0)), (1, .int x1)]) hx hb dX5_drift_36 hl (k := 2) rfl (nI_1 i) (by decide) rfl (fun ls hl => ?_)
    refine lv_goto (tgt := 16) hx hb dX5_drift_39 (by decide) ?_
    have hρ : kX5_drift_16 x1 (n + 1) i f g = kX5_drift_16 x1 n (i + 1) ((kX5_driftOnce f (kX4_add f g)).1) ((kX5_driftOnce f (kX4_add f g)).2) := (if_neg c_18)
    have hρ := hρ0.trans hρ
    exact ih  (i + 1)  ((kX5_driftOnce f (kX4_add f g)).1) ((kX5_driftOnce f (kX4_add f g)).2) _ _ (by omega) (by omega) (ok_drift hok) (hn_drift (hn_padd hn)) hx1 hP hD hS (lv_sub hl [1, 2, 0] rfl) _ hρ
set_option maxHeartbeats 4000000 in
set_option maxRecDepth 100000 in
theorem okX5_drift (l : Launch) (D : va_G) (cI cZ cQ : ClassId) (h : Nat) (a b : Nat → Nat) (X : va_W) (f g : Nat → Nat → Int32) (x1 : Int32) (sz : Nat) (hok : okL f) (hn : vp_in (g 2 0) 16) : Met l yX5_drift wsX5_drift ({ frames := 6, cells := 0, slots := 0, locals := 137 }) (PW [.ref (b 0), .int x1] sz D (TY cI cZ cQ) (LW cI h a f ++ (KR cI cZ cQ h b g ++ X))) (QI (kX5_drift f g x1).1 D (TY cI cZ cQ) (LW cI h a (kX5_drift f g x1).2.1 ++ (KR cI cZ cQ h b (kX5_drift f g x1).2.2 ++ X)) (va_A (LW cI h a f ++ (KR cI cZ cQ h b g ++ X)) sz)) 0 0 (va_A (LW cI h a f ++ (KR cI cZ cQ h b g ++ X)) sz) := by
  refine m_wr (cc := cX5_drift) (maxL := 3) (ret := (some .int)) (by decide) rfl (Nat.le_of_ble_eq_true rfl) (lv0 := [(0, .ref (b 0)), (1, .int x1)]) rfl ?_
  intro p e s m below meth c ls A hAe S hr hlk hP hK hD hS hA hl
  rw [← hAe]
  have S : CallFix p m c cX5_drift 3 s ([.ref (b 0), .int x1] : List Value).toArray wsX5_drift RX5 := S
  have hx := S.1
  have hb := S.2.1
  have hown : s.vm.findClass RX5 = some m.cls := S.2.2.2.1
  have hts := S.2.2.2.2
  have hinX5 : ∀ w ∈ wsX50, w ∈ wsX5_drift := by decide +kernel
  refine lv_iload_n hx hb dX5_drift_0 rfl (lv_at hl 1 rfl) ?_
  refine lv_iconst (v := 1) hx hb dX5_drift_1 (by decide) ?_
  refine lv_icmp_lt (tgt := 11) hx hb dX5_drift_2 (by decide) (fun c_2 => ?_) (fun c_2 => ?_)
  · have c_2 : x1 < 1 := c_2
    refine lv_ldc (v := (-1000000002)) hx hb hown (hts (.constant RX5 97 (-1000000002)) (by decide +kernel)) dX5_drift_11 ?_
    have hρ : kX5_drift f g x1 = ((-1000000002), f, g) := (if_pos c_2)
    exact e_wi hx hb hr hlk hK hP hD hS dX5_drift_13 (congrArg Prod.fst hρ).symm (congrArg (fun z => (LW cI h a z.2.1 ++ (KR cI cZ cQ h b z.2.2 ++ X))) hρ).symm
  have c_2 : ¬ (x1 < 1) := c_2
  refine lv_iload_n hx hb dX5_drift_5 rfl (lv_at hl 1 rfl) ?_
  refine lv_bipush (v := 16) hx hb dX5_drift_6 (by decide) ?_
  refine lv_icmp_le (tgt := 14) hx hb dX5_drift_8 (by decide) (fun c_8 => ?_) (fun c_8 => ?_)
  · have c_8 : x1 ≤ 16 := c_8
    refine lv_iconst (v := 0) hx hb dX5_drift_14 (by decide) ?_
    refine lv_istore_n (lv' := [(2, .int 0), (0, .ref (b 0)), (1, .int x1)]) hx hb dX5_drift_15 rfl hl (by decide) rfl (fun ls hl => ?_)
    have hρ : kX5_drift f g x1 = kX5_drift_16 x1 17 0 f g := (if_neg c_2).trans ((if_pos c_8))
    exact lpX5_drift_16 l D cI cZ cQ h a b X x1 A hA S hr hlk hK   17 0  f g _ _ (by omega) (by omega) hok hn c_8 hP hD hS (lv_sub hl [1, 2, 0] rfl) _ hρ
  have c_8 : ¬ (x1 ≤ 16) := c_8
  refine lv_ldc (v := (-1000000002)) hx hb hown (hts (.constant RX5 97 (-1000000002)) (by decide +kernel)) dX5_drift_11 ?_
  have hρ : kX5_drift f g x1 = ((-1000000002), f, g) := (if_neg c_2).trans ((if_neg c_8))
  exact e_wi hx hb hr hlk hK hP hD hS dX5_drift_13 (congrArg Prod.fst hρ).symm (congrArg (fun z => (LW cI h a z.2.1 ++ (KR cI cZ cQ h b z.2.2 ++ X))) hρ).symm
