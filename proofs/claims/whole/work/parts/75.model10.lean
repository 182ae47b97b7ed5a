theorem ndX6_time : yX6_time.cls = RX6 ∧ yX6_time.cls ≠ "java/lang/invoke/MethodHandle" ∧ yX6_time.cls ≠ "java/lang/invoke/VarHandle" ∧ (parseMethodDescriptor yX6_time.desc).map (fun d => d.parameters.length) = some 0 := by decide +kernel
set_option maxHeartbeats 4000000 in
set_option maxRecDepth 100000 in
theorem lpX6_time_43 {p : Program} {e : Env} {s : State} {m : MethodId} {below : List Frame} {meth : Method} {c : Code} (l : Launch) (D : va_G) (cI cZ cQ : ClassId) (h : Nat) (a : Nat → Nat) (X : va_W) (A : Nat → Prop) (hA : ∀ q, s.heap.size ≤ q → A q) (S : CallFix p m c cX6_time 7 s ([.ref h] : List Value).toArray wsX6_time RX6) (hr : meth.sig.returnType = none) (hlk : meth.locks = false) (hK : va_K D vwCl (TY cI cZ cQ) s)  (v1 v2 v3 v4 v5 : Int32) (f : Nat → Nat → Int32) (H : Heap) (locs : List Loc) (hok : okM f) (hv1 : vp_in v1 7) (hP : va_P D vwCl (MW cI h a f ++ X) H) (hD : va_D A (MW cI h a f ++ X)) (hS : va_S A s.heap H locs) {ls : Array Slot} (hl : lv_has ls 7 [(0, .ref h), (1, .int v1), (2, .int v2), (3, .int v3), (4, .int v4), (5, .int v5)]) (ρ : (Nat → Nat → Int32)) (hρ0 : ρ = kX6_time_43  f v1 v2 v3 v4 v5) : W p l e { frames := 5, cells := 0, slots := 0, locals := 113 } s m ([.ref h] : List Value).toArray below meth c H locs 0 0 (MQ below (QV D (TY cI cZ cQ) (MW cI h a ρ ++ X) A) ([.ref h] : List Value).toArray s 0 0 A) (F0 m 43 ls []) := by
  have hx := S.1
  have hb := S.2.1
  have hown : s.vm.findClass RX6 = some m.cls := S.2.2.2.1
  have hts := S.2.2.2.2
  refine lv_aload_n hx hb dX6_time_43 rfl (lv_at hl 0 rfl) ?_
  refine lv_iload_n hx hb dX6_time_44 rfl (lv_at hl 1 rfl) ?_
  refine lv_iload_n hx hb dX6_time_45 rfl (lv_at hl 2 rfl) ?_
  refine lv_iload_n hx hb dX6_time_46 rfl (lv_at hl 3 rfl) ?_
  refine k_rd (As := [.int v1, .int v2, .int v3]) (rest := []) (bytes := cX6_canGo) (C := RX6) S (okX6_canGo l D cI cZ cQ h a X f v1 v2 v3 (by assumption) (by assumption)) gX6_time_X6_canGo rfl ⟨rfl, rfl⟩ ndX6_canGo ⟨Nat.le_of_ble_eq_true rfl, Nat.le_of_ble_eq_true rfl⟩ hK hP 0 rfl rfl rfl hl rfl (Nat.le_of_ble_eq_true rfl) dX6_time_47 ⟨Nat.zero_le _, Nat.zero_le _⟩ ?_
  refine lv_if_eq (tgt := 80) hx hb dX6_time_50 (by decide) (fun c_50 => ?_) (fun c_50 => ?_)
  · have c_50 : (kX6_canGo f v1 v2 v3) = 0 := c_50
    refine lv_aload_n hx hb dX6_time_80 rfl (lv_at hl 0 rfl) ?_
    refine lv_iconst (v := 0) hx hb dX6_time_81 (by decide) ?_
    refine lv_iload hx hb dX6_time_82 (lv_at hl 4 rfl) ?_
    refine lv_iconst (v := 4) hx hb dX6_time_84 (by decide) ?_
    refine lv_icmp_ge (tgt := 93) hx hb dX6_time_85 (by decide) (fun c_85 => ?_) (fun c_85 => ?_)
    · have c_85 : 4 ≤ v4 := c_85
      refine lv_iconst (v := 0) hx hb dX6_time_93 (by decide) ?_
      refine k_wv (As := [.int 0, .int 0]) (rest := []) (bytes := cX6_tickIn) (C := RX6) S (okX6_tickIn l D cI cZ cQ h a X f 0 0 _ hok (vin_c (by decide))) gX6_time_X6_tickIn rfl ⟨rfl, rfl⟩ ndX6_tickIn ⟨Nat.le_of_ble_eq_true rfl, Nat.le_of_ble_eq_true rfl⟩ hK hP hD hS hA 0 rfl rfl rfl hl rfl (Nat.le_of_ble_eq_true rfl) dX6_time_94 ⟨Nat.zero_le _, Nat.zero_le _⟩ (fun H locs hP hD hS => ?_)
      have hP : va_P D vwCl (MW cI h a (kX6_tickIn f 0 0) ++ X) H := hP
      have hD : va_D A (MW cI h a (kX6_tickIn f 0 0) ++ X) := hD
      have hρ : kX6_time_43  f v1 v2 v3 v4 v5 = (kX6_tickIn f 0 0) := (if_pos c_50).trans ((if_pos c_85))
      have hρ := hρ0.trans hρ
      exact e_wv hx hb hr hlk hK hP hD hS dX6_time_97 (congrArg (fun z => (MW cI h a z ++ X)) hρ).symm
    have c_85 : ¬ (4 ≤ v4) := c_85
    refine lv_iload hx hb dX6_time_88 (lv_at hl 5 rfl) ?_
    refine lv_goto (tgt := 94) hx hb dX6_time_90 (by decide) ?_
    refine k_wv (As := [.int 0, .int v5]) (rest := []) (bytes := cX6_tickIn) (C := RX6) S (okX6_tickIn l D cI cZ cQ h a X f 0 v5 _ hok (vin_c (by decide))) gX6_time_X6_tickIn rfl ⟨rfl, rfl⟩ ndX6_tickIn ⟨Nat.le_of_ble_eq_true rfl, Nat.le_of_ble_eq_true rfl⟩ hK hP hD hS hA 0 rfl rfl rfl hl rfl (Nat.le_of_ble_eq_true rfl) dX6_time_94 ⟨Nat.zero_le _, Nat.zero_le _⟩ (fun H locs hP hD hS => ?_)
    have hP : va_P D vwCl (MW cI h a (kX6_tickIn f 0 v5) ++ X) H := hP
    have hD : va_D A (MW cI h a (kX6_tickIn f 0 v5) ++ X) := hD
    have hρ : kX6_time_43  f v1 v2 v3 v4 v5 = (kX6_tickIn f 0 v5) := (if_pos c_50).trans ((if_neg c_85))
    have hρ := hρ0.trans hρ
    exact e_wv hx hb hr hlk hK hP hD hS dX6_time_97 (congrArg (fun z => (MW cI h a z ++ X)) hρ).symm
  have c_50 : ¬ ((kX6_canGo f v1 v2 v3) = 0) := c_50
  refine lv_aload_n hx hb dX6_time_53 rfl (lv_at hl 0 rfl) ?_
  refine lv_iload_n hx hb dX6_time_54 rfl (lv_at hl 1 rfl) ?_
  refine lv_iload_n hx hb dX6_time_55 rfl (lv_at hl 2 rfl) ?_
  refine lv_iload_n hx hb dX6_time_56 rfl (lv_at hl 3 rfl) ?_
  refine lv_iload hx hb dX6_time_57 (lv_at hl 4 rfl) ?_
  refine lv_if_eq (tgt := 74) hx hb dX6_time_59 (by decide) (fun c_59 => ?_) (fun c_59 => ?_)
  · have c_59 : v4 = 0 := c_59
    refine lv_iconst (v := 0) hx hb dX6_time_74 (by decide) ?_
    refine k_wi (As := [.int v1, .int v2, .int v3, .int 0]) (rest := []) (bytes := cX6_goOver) (C := RX6) S (okX6_goOver l D cI cZ cQ h a X f v1 v2 v3 0 _ (by assumption) (by assumption)) gX6_time_X6_goOver rfl ⟨rfl, rfl⟩ ndX6_goOver ⟨Nat.le_of_ble_eq_true rfl, Nat.le_of_ble_eq_true rfl⟩ hK hP hD hS hA 0 rfl rfl rfl hl rfl (Nat.le_of_ble_eq_true rfl) dX6_time_75 ⟨Nat.zero_le _, Nat.zero_le _⟩ (fun H locs hP hD hS => ?_)
    have hP : va_P D vwCl (MW cI h a (kX6_goOver f v1 v2 v3 0).2 ++ X) H := hP
    have hD : va_D A (MW cI h a (kX6_goOver f v1 v2 v3 0).2 ++ X) := hD
    refine lv_istore (lv' := [(6, .int ((kX6_goOver f v1 v2 v3 0).1)), (0, .ref h), (1, .int v1), (2, .int v2), (3, .int v3), (4, .int v4), (5, .int v5)]) hx hb dX6_time_78 hl (by decide) rfl (fun ls hl => ?_)
    refine lv_aload_n hx hb dX6_time_80 rfl (lv_at hl 1 rfl) ?_
    refine lv_iconst (v := 0) hx hb dX6_time_81 (by decide) ?_
    refine lv_iload hx hb dX6_time_82 (lv_at hl 5 rfl) ?_
    refine lv_iconst (v := 4) hx hb dX6_time_84 (by decide) ?_
    refine lv_icmp_ge (tgt := 93) hx hb dX6_time_85 (by decide) (fun c_85 => ?_) (fun c_85 => ?_)
    · have c_85 : 4 ≤ v4 := c_85
      refine lv_iconst (v := 0) hx hb dX6_time_93 (by decide) ?_
      refine k_wv (As := [.int 0, .int 0]) (rest := []) (bytes := cX6_tickIn) (C := RX6) S (okX6_tickIn l D cI cZ cQ h a X ((kX6_goOver f v1 v2 v3 0).2) 0 0 _ (okM_go hok hv1) (vin_c (by decide))) gX6_time_X6_tickIn rfl ⟨rfl, rfl⟩ ndX6_tickIn ⟨Nat.le_of_ble_eq_true rfl, Nat.le_of_ble_eq_true rfl⟩ hK hP hD hS hA 0 rfl rfl rfl hl rfl (Nat.le_of_ble_eq_true rfl) dX6_time_94 ⟨Nat.zero_le _, Nat.zero_le _⟩ (fun H locs hP hD hS => ?_)
      have hP : va_P D vwCl (MW cI h a (kX6_tickIn (kX6_goOver f v1 v2 v3 0).2 0 0) ++ X) H := hP
      have hD : va_D A (MW cI h a (kX6_tickIn (kX6_goOver f v1 v2 v3 0).2 0 0) ++ X) := hD
      have hρ : kX6_time_43  f v1 v2 v3 v4 v5 = (kX6_tickIn (kX6_goOver f v1 v2 v3 0).2 0 0) := (if_neg c_50).trans ((if_pos c_59).trans ((if_pos c_85)))
      have hρ := hρ0.trans hρ
      exact e_wv hx hb hr hlk hK hP hD hS dX6_time_97 (congrArg (fun z => (MW cI h a z ++ X)) hρ).symm
    have c_85 : ¬ (4 ≤ v4) := c_85
    refine lv_iload hx hb dX6_time_88 (lv_at hl 6 rfl) ?_
    refine lv_goto (tgt := 94) hx hb dX6_time_90 (by decide) ?_
    refine k_wv (As := [.int 0, .int v5]) (rest := []) (bytes := cX6_tickIn) (C := RX6) S (okX6_tickIn l D cI cZ cQ h a X ((kX6_goOver f v1 v2 v3 0).2) 0 v5 _ (okM_go hok hv1) (vin_c (by decide))) gX6_time_X6_tickIn rfl ⟨rfl, rfl⟩ ndX6_tickIn ⟨Nat.le_of_ble_eq_true rfl, Nat.le_of_ble_eq_true rfl⟩ hK hP hD hS hA 0 rfl rfl rfl hl rfl (Nat.le_of_ble_eq_true rfl) dX6_time_94 ⟨Nat.zero_le _, Nat.zero_le _⟩ (fun H locs hP hD hS => ?_)
    have hP : va_P D vwCl (MW cI h a (kX6_tickIn (kX6_goOver f v1 v2 v3 0).2 0 v5) ++ X) H := hP
    have hD : va_D A (MW cI h a (kX6_tickIn (kX6_goOver f v1 v2 v3 0).2 0 v5) ++ X) := hD
    have hρ : kX6_time_43  f v1 v2 v3 v4 v5 = (kX6_tickIn (kX6_goOver f v1 v2 v3 0).2 0 v5) := (if_neg c_50).trans ((if_pos c_59).trans ((if_neg c_85)))
    have hρ := hρ0.trans hρ
    exact e_wv hx hb hr hlk hK hP hD hS dX6_time_97 (congrArg (fun z => (MW cI h a z ++ X)) hρ).symm
  have c_59 : ¬ (v4 = 0) := c_59
  refine lv_aload_n hx hb dX6_time_62 rfl (lv_at hl 0 rfl) ?_
  refine lv_iload_n hx hb dX6_time_63 rfl (lv_at hl 1 rfl) ?_
  refine k_rd (As := [.int v1]) (rest := [.int v3, .int v2, .int v1, .ref h]) (bytes := cX6_feels) (C := RX6) S (okX6_feels l D cI cZ cQ h a X f v1 (by assumption)) gX6_time_X6_feels rfl ⟨rfl, rfl⟩ ndX6_feels ⟨Nat.le_of_ble_eq_true rfl, Nat.le_of_ble_eq_true rfl⟩ hK hP 0 rfl rfl rfl hl rfl (Nat.le_of_ble_eq_true rfl) dX6_time_64 ⟨Nat.zero_le _, Nat.zero_le _⟩ ?_
  refine lv_if_eq (tgt := 74) hx hb dX6_time_67 (by decide) (fun c_67 => ?_) (fun c_67 => ?_)
  · have c_67 : (kX6_feels f v1) = 0 := c_67
    refine lv_iconst (v := 0) hx hb dX6_time_74 (by decide) ?_
    refine k_wi (As := [.int v1, .int v2, .int v3, .int 0]) (rest := []) (bytes := cX6_goOver) (C := RX6) S (okX6_goOver l D cI cZ cQ h a X f v1 v2 v3 0 _ (by assumption) (by assumption)) gX6_time_X6_goOver rfl ⟨rfl, rfl⟩ ndX6_goOver ⟨Nat.le_of_ble_eq_true rfl, Nat.le_of_ble_eq_true rfl⟩ hK hP hD hS hA 0 rfl rfl rfl hl rfl (Nat.le_of_ble_eq_true rfl) dX6_time_75 ⟨Nat.zero_le _, Nat.zero_le _⟩ (fun H locs hP hD hS => ?_)
    have hP : va_P D vwCl (MW cI h a (kX6_goOver f v1 v2 v3 0).2 ++ X) H := hP
    have hD : va_D A (MW cI h a (kX6_goOver f v1 v2 v3 0).2 ++ X) := hD
    refine lv_istore (lv' := [(6, .int ((kX6_goOver f v1 v2 v3 0).1)), (0, .ref h), (1, .int v1), (2, .int v2), (3, .int v3), (4, .int v4), (5, .int v5)]) hx hb dX6_time_78 hl (by decide) rfl (fun ls hl => ?_)
    refine lv_aload_n hx hb dX6_time_80 rfl (lv_at hl 1 rfl) ?_
    refine lv_iconst (v := 0) hx hb dX6_time_81 (by decide) ?_
    refine lv_iload hx hb dX6_time_82 (lv_at hl 5 rfl) ?_
    refine lv_iconst (v := 4) hx hb dX6_time_84 (by decide) ?_
    refine lv_icmp_ge (tgt := 93) hx hb dX6_time_85 (by decide) (fun c_85 => ?_) (fun c_85 => ?_)
    · have c_85 : 4 ≤ v4 := c_85
      refine lv_iconst (v := 0) hx hb dX6_time_93 (by decide) ?_
      refine k_wv (As := [.int 0, .int 0]) (rest := []) (bytes := cX6_tickIn) (C := RX6) S (okX6_tickIn l D cI cZ cQ h a X ((kX6_goOver f v1 v2 v3 0).2) 0 0 _ (okM_go hok hv1) (vin_c (by decide))) gX6_time_X6_tickIn rfl ⟨rfl, rfl⟩ ndX6_tickIn ⟨Nat.le_of_ble_eq_true rfl, Nat.le_of_ble_eq_true rfl⟩ hK hP hD hS hA 0 rfl rfl rfl hl rfl (Nat.le_of_ble_eq_true rfl) dX6_time_94 ⟨Nat.zero_le _, Nat.zero_le _⟩ (fun H locs hP hD hS => ?_)
      have hP : va_P D vwCl (MW cI h a (kX6_tickIn (kX6_goOver f v1 v2 v3 0).2 0 0) ++ X) H := hP
      have hD : va_D A (MW cI h a (kX6_tickIn (kX6_goOver f v1 v2 v3 0).2 0 0) ++ X) := hD
      have hρ : kX6_time_43  f v1 v2 v3 v4 v5 = (kX6_tickIn (kX6_goOver f v1 v2 v3 0).2 0 0) := (if_neg c_50).trans ((if_neg c_59).trans ((if_pos c_67).trans ((if_pos c_85))))
      have hρ := hρ0.trans hρ
      exact e_wv hx hb hr hlk hK hP hD hS dX6_time_97 (congrArg (fun z => (MW cI h a z ++ X)) hρ).symm
    have c_85 : ¬ (4 ≤ v4) := c_85
    refine lv_iload hx hb dX6_time_88 (lv_at hl 6 rfl) ?_
    refine lv_goto (tgt := 94) hx hb dX6_time_90 (by decide) ?_
    refine k_wv (As := [.int 0, .int v5]) (rest := []) (bytes := cX6_tickIn) (C := RX6) S (okX6_tickIn l D cI cZ cQ h a X ((kX6_goOver f v1 v2 v3 0).2) 0 v5 _ (okM_go hok hv1) (vin_c (by decide))) gX6_time_X6_tickIn rfl ⟨rfl, rfl⟩ ndX6_tickIn ⟨Nat.le_of_ble_eq_true rfl, Nat.le_of_ble_eq_true rfl⟩ hK hP hD hS hA 0 rfl rfl rfl hl rfl (Nat.le_of_ble_eq_true rfl) dX6_time_94 ⟨Nat.zero_le _, Nat.zero_le _⟩ (fun H locs hP hD hS => ?_)
    have hP : va_P D vwCl (MW cI h a (kX6_tickIn (kX6_goOver f v1 v2 v3 0).2 0 v5) ++ X) H := hP
    have hD : va_D A (MW cI h a (kX6_tickIn (kX6_goOver f v1 v2 v3 0).2 0 v5) ++ X) := hD
    have hρ : kX6_time_43  f v1 v2 v3 v4 v5 = (kX6_tickIn (kX6_goOver f v1 v2 v3 0).2 0 v5) := (if_neg c_50).trans ((if_neg c_59).trans ((if_pos c_67).trans ((if_neg c_85))))
    have hρ := hρ0.trans hρ
    exact e_wv hx hb hr hlk hK hP hD hS dX6_time_97 (congrArg (fun z => (MW cI h a z ++ X)) hρ).symm
  have c_67 : ¬ ((kX6_feels f v1) = 0) := c_67
  refine lv_iconst (v := 1) hx hb dX6_time_70 (by decide) ?_
  refine lv_goto (tgt := 75) hx hb dX6_time_71 (by decide) ?_
  refine k_wi (As := [.int v1, .int v2, .int v3, .int 1]) (rest := []) (bytes := cX6_goOver) (C := RX6) S (okX6_goOver l D cI cZ cQ h a X f v1 v2 v3 1 _ (by assumption) (by assumption)) gX6_time_X6_goOver rfl ⟨rfl, rfl⟩ ndX6_goOver ⟨Nat.le_of_ble_eq_true rfl, Nat.le_of_ble_eq_true rfl⟩ hK hP hD hS hA 0 rfl rfl rfl hl rfl (Nat.le_of_ble_eq_true rfl) dX6_time_75 ⟨Nat.zero_le _, Nat.zero_le _⟩ (fun H locs hP hD hS => ?_)
  have hP : va_P D vwCl (MW cI h a (kX6_goOver f v1 v2 v3 1).2 ++ X) H := hP
  have hD : va_D A (MW cI h a (kX6_goOver f v1 v2 v3 1).2 ++ X) := hD
  refine lv_istore (lv' := [(6, .int ((kX6_goOver f v1 v2 v3 1).1)), (0, .ref h), (1, .int v1), (2, .int v2), (3, .int v3), (4, .int v4), (5, .int v5)]) hx hb dX6_time_78 hl (by decide) rfl (fun ls hl => ?_)
  refine lv_aload_n hx hb dX6_time_80 rfl (lv_at hl 1 rfl) ?_
  refine lv_iconst (v := 0) hx hb dX6_time_81 (by decide) ?_
  refine lv_iload hx hb dX6_time_82 (lv_at hl 5 rfl) ?_
  refine lv_iconst (v := 4) hx hb dX6_time_84 (by decide) ?_
  refine lv_icmp_ge (tgt := 93) hx hb dX6_time_85 (by decide) (fun c_85 => ?_) (fun c_85 => ?_)
  · have c_85 : 4 ≤ v4 := c_85
    refine lv_iconst (v := 0) hx hb dX6_time_93 (by decide) ?_
    refine k_wv (As := [.int 0, .int 0]) (rest := []) (bytes := cX6_tickIn) (C := RX6) S (okX6_tickIn l D cI cZ cQ h a X ((kX6_goOver f v1 v2 v3 1).2) 0 0 _ (okM_go hok hv1) (vin_c (by decide))) gX6_time_X6_tickIn rfl ⟨rfl, rfl⟩ ndX6_tickIn ⟨Nat.le_of_ble_eq_true rfl, Nat.le_of_ble_eq_true rfl⟩ hK hP hD hS hA 0 rfl rfl rfl hl rfl (Nat.le_of_ble_eq_true rfl) dX6_time_94 ⟨Nat.zero_le _, Nat.zero_le _⟩ (fun H locs hP hD hS => ?_)
    have hP : va_P D vwCl (MW cI h a (kX6_tickIn (kX6_goOver f v1 v2 v3 1).2 0 0) ++ X) H := hP
    have hD : va_D A (MW cI h a (kX6_tickIn (kX6_goOver f v1 v2 v3 1).2 0 0) ++ X) := hD
    have hρ : kX6_time_43  f v1 v2 v3 v4 v5 = (kX6_tickIn (kX6_goOver f v1 v2 v3 1).2 0 0) := (if_neg c_50).trans ((if_neg c_59).trans ((if_neg c_67).trans ((if_pos c_85))))
    have hρ := hρ0.trans hρ
    exact e_wv hx hb hr hlk hK hP hD hS dX6_time_97 (congrArg (fun z => (MW cI h a z ++ X)) hρ).symm
  have c_85 : ¬ (4 ≤ v4) := c_85
  refine lv_iload hx hb dX6_time_88 (lv_at hl 6 rfl) ?_
  refine lv_goto (tgt := 94) hx hb dX6_time_90 (by decide) ?_
  refine k_wv (As := [.int 0, .int v5]) (rest := []) (bytes := cX6_tickIn) (C := RX6) S (okX6_tickIn l D cI cZ cQ h a X ((kX6_goOver f v1 v2 v3 1).2) 0 v5 _ (okM_go hok hv1) (vin_c (by decide))) gX6_time_X6_tickIn rfl ⟨rfl, rfl⟩ ndX6_tickIn ⟨Nat.le_of_ble_eq_true rfl, Nat.le_of_ble_eq_true rfl⟩ hK hP hD hS hA 0 rfl rfl rfl hl rfl (Nat.le_of_ble_eq_true rfl) dX6_time_94 ⟨Nat.zero_le _, Nat.zero_le _⟩ (fun H locs hP hD hS => ?_)
  have hP : va_P D vwCl (MW cI h a (kX6_tickIn (kX6_goOver f v1 v2 v3 1).2 0 v5) ++ X) H := hP
  have hD : va_D A (MW cI h a (kX6_tickIn (kX6_goOver f v1 v2 v3 1).2 0 v5) ++ X) := hD
  have hρ : kX6_time_43  f v1 v2 v3 v4 v5 = (kX6_tickIn (kX6_goOver f v1 v2 v3 1).2 0 v5) := (if_neg c_50).trans ((if_neg c_59).trans ((if_neg c_67).trans ((if_neg c_85))))
  have hρ := hρ0.trans hρ
  exact e_wv hx hb hr hlk hK hP hD hS dX6_time_97 (congrArg (fun z => (MW cI h a z ++ X)) hρ).symm
set_option maxHeartbeats 4000000 in
set_option maxRecDepth 100000 in
theorem okX6_time (l : Launch) (D : va_G) (cI cZ cQ : ClassId) (h : Nat) (a : Nat → Nat) (X : va_W) (f : Nat → Nat → Int32) (sz : Nat) (hok : okM f) (hs : 0 ≤ f 0 (ix 83)) : Met l yX6_time wsX6_time ({ frames := 5, cells := 0, slots := 0, locals := 113 }) (PW [.ref h] sz D (TY cI cZ cQ) (MW cI h a f ++ X)) (QV D (TY cI cZ cQ) (MW cI h a (kX6_time f) ++ X) (va_A (MW cI h a f ++ X) sz)) 0 0 (va_A (MW cI h a f ++ X) sz) := by
  refine m_wr (cc := cX6_time) (maxL := 7) (ret := none) (by decide) rfl (Nat.le_of_ble_eq_true rfl) (lv0 := [(0, .ref h)]) rfl ?_
  intro p e s m below meth c ls A hAe S hr hlk hP hK hD hS hA hl
  rw [← hAe]
  have S : CallFix p m c cX6_time 7 s ([.ref h] : List Value).toArray wsX6_time RX6 := S
  have hx := S.1
  have hb := S.2.1
  have hown : s.vm.findClass RX6 = some m.cls := S.2.2.2.1
  have hts := S.2.2.2.2
  refine lv_aload_n hx hb dX6_time_0 rfl (lv_at hl 0 rfl) ?_
  refine lv_aload_n hx hb dX6_time_1 rfl (lv_at hl 0 rfl) ?_
  refine k_rd (As := []) (rest := [.ref h]) (bytes := cX6_heads) (C := RX6) S (okX6_heads l D cI cZ cQ h a X f ) gX6_time_X6_heads rfl ⟨rfl, rfl⟩ ndX6_heads ⟨Nat.le_of_ble_eq_true rfl, Nat.le_of_ble_eq_true rfl⟩ hK hP 0 rfl rfl rfl hl rfl (Nat.le_of_ble_eq_true rfl) dX6_time_2 ⟨Nat.zero_le _, Nat.zero_le _⟩ ?_
  refine k_wi (As := [.int (kX6_heads f)]) (rest := []) (bytes := cX6_draw) (C := RX6) S (okX6_draw l D cI cZ cQ h a X f (kX6_heads f) _ (hd0 hok)) gX6_time_X6_draw rfl ⟨rfl, rfl⟩ ndX6_draw ⟨Nat.le_of_ble_eq_true rfl, Nat.le_of_ble_eq_true rfl⟩ hK hP hD hS hA 0 rfl rfl rfl hl rfl (Nat.le_of_ble_eq_true rfl) dX6_time_5 ⟨Nat.zero_le _, Nat.zero_le _⟩ (fun H locs hP hD hS => ?_)
  have hP : va_P D vwCl (MW cI h a (kX6_draw f (kX6_heads f)).2 ++ X) H := hP
  have hD : va_D A (MW cI h a (kX6_draw f (kX6_heads f)).2 ++ X) := hD
  refine lv_istore_n (lv' := [(1, .int ((kX6_draw f (kX6_heads f)).1)), (0, .ref h)]) hx hb dX6_time_8 rfl hl (by decide) rfl (fun ls hl => ?_)
  refine lv_aload_n hx hb dX6_time_9 rfl (lv_at hl 1 rfl) ?_
  refine lv_iconst (v := 2) hx hb dX6_time_10 (by decide) ?_
  refine k_wi (As := [.int 2]) (rest := []) (bytes := cX6_draw) (C := RX6) S (okX6_draw l D cI cZ cQ h a X ((kX6_draw f (kX6_heads f)).2) 2 _ (by decide)) gX6_time_X6_draw rfl ⟨rfl, rfl⟩ ndX6_draw ⟨Nat.le_of_ble_eq_true rfl, Nat.le_of_ble_eq_true rfl⟩ hK hP hD hS hA 0 rfl rfl rfl hl rfl (Nat.le_of_ble_eq_true rfl) dX6_time_11 ⟨Nat.zero_le _, Nat.zero_le _⟩ (fun H locs hP hD hS => ?_)
  have hP : va_P D vwCl (MW cI h a (kX6_draw (kX6_draw f (kX6_heads f)).2 2).2 ++ X) H := hP
  have hD : va_D A (MW cI h a (kX6_draw (kX6_draw f (kX6_heads f)).2 2).2 ++ X) := hD
  refine lv_istore_n (lv' := [(2, .int ((kX6_draw (kX6_draw f (kX6_heads f)).2 2).1)), (1, .int ((kX6_draw f (kX6_heads f)).1)), (0, .ref h)]) hx hb dX6_time_14 rfl hl (by decide) rfl (fun ls hl => ?_)
  refine lv_aload_n hx hb dX6_time_15 rfl (lv_at hl 2 rfl) ?_
  refine lv_iconst (v := 3) hx hb dX6_time_16 (by decide) ?_
  refine k_wi (As := [.int 3]) (rest := []) (bytes := cX6_draw) (C := RX6) S (okX6_draw l D cI cZ cQ h a X ((kX6_draw (kX6_draw f (kX6_heads f)).2 2).2) 3 _ (by decide)) gX6_time_X6_draw rfl ⟨rfl, rfl⟩ ndX6_draw ⟨Nat.le_of_ble_eq_true rfl, Nat.le_of_ble_eq_true rfl⟩ hK hP hD hS hA 0 rfl rfl rfl hl rfl (Nat.le_of_ble_eq_true rfl) dX6_time_17 ⟨Nat.zero_le _, Nat.zero_le _⟩ (fun H locs hP hD hS => ?_)
  have hP : va_P D vwCl (MW cI h a (kX6_draw (kX6_draw (kX6_draw f (kX6_heads f)).2 2).2 3).2 ++ X) H := hP
  have hD : va_D A (MW cI h a (kX6_draw (kX6_draw (kX6_draw f (kX6_heads f)).2 2).2 3).2 ++ X) := hD
  refine lv_iconst (v := 1) hx hb dX6_time_20 (by decide) ?_
  refine lv_iadd hx hb dX6_time_21 ?_
  refine lv_istore_n (lv' := [(3, .int ((kX6_draw (kX6_draw (kX6_draw f (kX6_heads f)).2 2).2 3).1 + 1)), (2, .int ((kX6_draw (kX6_draw f (kX6_heads f)).2 2).1)), (1, .int ((kX6_draw f (kX6_heads f)).1)), (0, .ref h)]) hx hb dX6_time_22 rfl hl (by decide) rfl (fun ls hl => ?_)
  refine lv_aload_n hx hb dX6_time_23 rfl (lv_at hl 3 rfl) ?_
  refine lv_bipush (v := 16) hx hb dX6_time_24 (by decide) ?_
  refine k_wi (As := [.int 16]) (rest := []) (bytes := cX6_draw) (C := RX6) S (okX6_draw l D cI cZ cQ h a X ((kX6_draw (kX6_draw (kX6_draw f (kX6_heads f)).2 2).2 3).2) 16 _ (by decide)) gX6_time_X6_draw rfl ⟨rfl, rfl⟩ ndX6_draw ⟨Nat.le_of_ble_eq_true rfl, Nat.le_of_ble_eq_true rfl⟩ hK hP hD hS hA 0 rfl rfl rfl hl rfl (Nat.le_of_ble_eq_true rfl) dX6_time_26 ⟨Nat.zero_le _, Nat.zero_le _⟩ (fun H locs hP hD hS => ?_)
  have hP : va_P D vwCl (MW cI h a (kX6_draw (kX6_draw (kX6_draw (kX6_draw f (kX6_heads f)).2 2).2 3).2 16).2 ++ X) H := hP
  have hD : va_D A (MW cI h a (kX6_draw (kX6_draw (kX6_draw (kX6_draw f (kX6_heads f)).2 2).2 3).2 16).2 ++ X) := hD
  refine lv_istore (lv' := [(4, .int ((kX6_draw (kX6_draw (kX6_draw (kX6_draw f (kX6_heads f)).2 2).2 3).2 16).1)), (3, .int ((kX6_draw (kX6_draw (kX6_draw f (kX6_heads f)).2 2).2 3).1 + 1)), (2, .int ((kX6_draw (kX6_draw f (kX6_heads f)).2 2).1)), (1, .int ((kX6_draw f (kX6_heads f)).1)), (0, .ref h)]) hx hb dX6_time_29 hl (by decide) rfl (fun ls hl => ?_)
  refine lv_aload_n hx hb dX6_time_31 rfl (lv_at hl 4 rfl) ?_
  refine lv_iconst (v := 1) hx hb dX6_time_32 (by decide) ?_
  refine lv_aload_n hx hb dX6_time_33 rfl (lv_at hl 4 rfl) ?_
  refine k_rd (As := []) (rest := [.int 1, .ref h]) (bytes := cX6_heads) (C := RX6) S (okX6_heads l D cI cZ cQ h a X ((kX6_draw (kX6_draw (kX6_draw (kX6_draw f (kX6_heads f)).2 2).2 3).2 16).2) ) gX6_time_X6_heads rfl ⟨rfl, rfl⟩ ndX6_heads ⟨Nat.le_of_ble_eq_true rfl, Nat.le_of_ble_eq_true rfl⟩ hK hP 0 rfl rfl rfl hl rfl (Nat.le_of_ble_eq_true rfl) dX6_time_34 ⟨Nat.zero_le _, Nat.zero_le _⟩ ?_
  refine lv_ishl hx hb dX6_time_37 ?_
  refine k_wi (As := [.int ((1 : Int32) <<< ((kX6_heads (kX6_draw (kX6_draw (kX6_draw (kX6_draw f (kX6_heads f)).2 2).2 3).2 16).2) &&& 31))]) (rest := []) (bytes := cX6_draw) (C := RX6) S (okX6_draw l D cI cZ cQ h a X ((kX6_draw (kX6_draw (kX6_draw (kX6_draw f (kX6_heads f)).2 2).2 3).2 16).2) ((1 : Int32) <<< ((kX6_heads (kX6_draw (kX6_draw (kX6_draw (kX6_draw f (kX6_heads f)).2 2).2 3).2 16).2) &&& 31)) _ (sh0 (okM_d4 hok))) gX6_time_X6_draw rfl ⟨rfl, rfl⟩ ndX6_draw ⟨Nat.le_of_ble_eq_true rfl, Nat.le_of_ble_eq_true rfl⟩ hK hP hD hS hA 0 rfl rfl rfl hl rfl (Nat.le_of_ble_eq_true rfl) dX6_time_38 ⟨Nat.zero_le _, Nat.zero_le _⟩ (fun H locs hP hD hS => ?_)
  have hP : va_P D vwCl (MW cI h a (kX6_draw (kX6_draw (kX6_draw (kX6_draw (kX6_draw f (kX6_heads f)).2 2).2 3).2 16).2 ((1 : Int32) <<< ((kX6_heads (kX6_draw (kX6_draw (kX6_draw (kX6_draw f (kX6_heads f)).2 2).2 3).2 16).2) &&& 31))).2 ++ X) H := hP
  have hD : va_D A (MW cI h a (kX6_draw (kX6_draw (kX6_draw (kX6_draw (kX6_draw f (kX6_heads f)).2 2).2 3).2 16).2 ((1 : Int32) <<< ((kX6_heads (kX6_draw (kX6_draw (kX6_draw (kX6_draw f (kX6_heads f)).2 2).2 3).2 16).2) &&& 31))).2 ++ X) := hD
  refine lv_istore (lv' := [(5, .int ((kX6_draw (kX6_draw (kX6_draw (kX6_draw (kX6_draw f (kX6_heads f)).2 2).2 3).2 16).2 ((1 : Int32) <<< ((kX6_heads (kX6_draw (kX6_draw (kX6_draw (kX6_draw f (kX6_heads f)).2 2).2 3).2 16).2) &&& 31))).1)), (4, .int ((kX6_draw (kX6_draw (kX6_draw (kX6_draw f (kX6_heads f)).2 2).2 3).2 16).1)), (3, .int ((kX6_draw (kX6_draw (kX6_draw f (kX6_heads f)).2 2).2 3).1 + 1)), (2, .int ((kX6_draw (kX6_draw f (kX6_heads f)).2 2).1)), (1, .int ((kX6_draw f (kX6_heads f)).1)), (0, .ref h)]) hx hb dX6_time_41 hl (by decide) rfl (fun ls hl => ?_)
  have hρ : kX6_time f = kX6_time_43  ((kX6_draw (kX6_draw (kX6_draw (kX6_draw (kX6_draw f (kX6_heads f)).2 2).2 3).2 16).2 ((1 : Int32) <<< ((kX6_heads (kX6_draw (kX6_draw (kX6_draw (kX6_draw f (kX6_heads f)).2 2).2 3).2 16).2) &&& 31))).2) ((kX6_draw f (kX6_heads f)).1) ((kX6_draw (kX6_draw f (kX6_heads f)).2 2).1) ((kX6_draw (kX6_draw (kX6_draw f (kX6_heads f)).2 2).2 3).1 + 1) ((kX6_draw (kX6_draw (kX6_draw (kX6_draw f (kX6_heads f)).2 2).2 3).2 16).1) ((kX6_draw (kX6_draw (kX6_draw (kX6_draw (kX6_draw f (kX6_heads f)).2 2).2 3).2 16).2 ((1 : Int32) <<< ((kX6_heads (kX6_draw (kX6_draw (kX6_draw (kX6_draw f (kX6_heads f)).2 2).2 3).2 16).2) &&& 31))).1) := rfl
  exact lpX6_time_43 l D cI cZ cQ h a X A hA S hr hlk hK  ((kX6_draw f (kX6_heads f)).1) ((kX6_draw (kX6_draw f (kX6_heads f)).2 2).1) ((kX6_draw (kX6_draw (kX6_draw f (kX6_heads f)).2 2).2 3).1 + 1) ((kX6_draw (kX6_draw (kX6_draw (kX6_draw f (kX6_heads f)).2 2).2 3).2 16).1) ((kX6_draw (kX6_draw (kX6_draw (kX6_draw (kX6_draw f (kX6_heads f)).2 2).2 3).2 16).2 ((1 : Int32) <<< ((kX6_heads (kX6_draw (kX6_draw (kX6_draw (kX6_draw f (kX6_heads f)).2 2).2 3).2 16).2) &&& 31))).1) ((kX6_draw (kX6_draw (kX6_draw (kX6_draw (kX6_draw f (kX6_heads f)).2 2).2 3).2 16).2 ((1 : Int32) <<< ((kX6_heads (kX6_draw (kX6_draw (kX6_draw (kX6_draw f (kX6_heads f)).2 2).2 3).2 16).2) &&& 31))).2) _ _ (okM_d5 hok) (dr_in hok hs) hP hD hS (lv_sub hl [5, 4, 3, 2, 1, 0] rfl) _ hρ
theorem ndX6_drift : yX6_drift.cls = RX6 ∧ yX6_drift.cls ≠ "java/lang/invoke/MethodHandle" ∧ yX6_drift.cls ≠ "java/lang/invoke/VarHandle" ∧ (parseMethodDescriptor yX6_drift.desc).map (fun d => d.parameters.length) = some 1 := by decide +kernel
set_option maxHeartbeats 4000000 in
set_option maxRecDepth 100000 in
theorem lpX6_drift_15 {p : Program} {e : Env} {s : State} {m : MethodId} {below : List Frame} {meth : Method} {c : Code} (l : Launch) (D : va_G) (cI cZ cQ : ClassId) (h : Nat) (a : Nat → Nat) (X : va_W) (x1 : Int32) (A : Nat → Prop) (hA : ∀ q, s.heap.size ≤ q → A q) (S : CallFix p m c cX6_drift 3 s ([.ref h, .int x1] : List Value).toArray wsX6_drift RX6) (hr : meth.sig.returnType = (some .int)) (hlk : meth.locks = false) (hK : va_K D vwCl (TY cI cZ cQ) s)  : ∀ (n i : Nat) (f : Nat → Nat → Int32) (H : Heap) (locs : List Loc), i ≤ 16 → 16 - i < n → (hok : okM f) → (hk : vp_in (f 1 0) 17) → (hs : 0 ≤ f 0 (ix 83)) → (hx1 : x1 ≤ 16) → (hR : okT f i) → va_P D vwCl (MW cI h a f ++ X) H → va_D A (MW cI h a f ++ X) → va_S A s.heap H locs → ∀ {ls : Array Slot}, lv_has ls 3 [(0, .ref h), (1, .int x1), (2, .int (nI i))] → ∀ ρ : Int32 × (Nat → Nat → Int32), ρ = kX6_drift_15 x1 n i f → W p l e { frames := 6, cells := 0, slots := 0, locals := 139 } s m ([.ref h, .int x1] : List Value).toArray below meth c H locs 0 0 (MQ below (QI ρ.1 D (TY cI cZ cQ) (MW cI h a ρ.2 ++ X) A) ([.ref h, .int x1] : List Value).toArray s 0 0 A) (F0 m 15 ls []) := by
  have hx := S.1
  have hb := S.2.1
  have hown : s.vm.findClass RX6 = some m.cls := S.2.2.2.1
  have hts := S.2.2.2.2
  intro n
  induction n with
  | zero =>
    intro i _ _ _ hi hn
    exact absurd hn (Nat.not_lt_zero _)
  | succ n ih =>
    intro i  f H locs hi hn hok hk hs hx1 hR hP hD hS ls hl ρ hρ0
    refine lv_iload_n hx hb dX6_drift_15 rfl (lv_at hl 2 rfl) ?_
    refine lv_iload_n hx hb dX6_drift_16 rfl (lv_at hl 1 rfl) ?_
    refine lv_icmp_ge (tgt := 34) hx hb dX6_drift_17 (by decide) (fun c_17 => ?_) (fun c_17 => ?_)
    · have c_17 : x1 ≤ (nI i) := c_17
      refine lv_aload_n hx hb dX6_drift_34 rfl (lv_at hl 0 rfl) ?_
      refine lv_iconst (v := 0) hx hb dX6_drift_35 (by decide) ?_
      refine lv_iconst (v := 0) hx hb dX6_drift_36 (by decide) ?_
      refine k_rd (As := [.int 0, .int 0]) (rest := []) (bytes := cX6_called) (C := RX6) S (okX6_called l D cI cZ cQ h a X f 0 0 hok (vin_c (by decide))) gX6_drift_X6_called rfl ⟨rfl, rfl⟩ ndX6_called ⟨Nat.le_of_ble_eq_true rfl, Nat.le_of_ble_eq_true rfl⟩ hK hP 0 rfl rfl rfl hl rfl (Nat.le_of_ble_eq_true rfl) dX6_drift_37 ⟨Nat.zero_le _, Nat.zero_le _⟩ ?_
      have hρ : kX6_drift_15 x1 (n + 1) i f = ((kX6_called f 0 0), f) := (if_pos c_17)
      have hρ := hρ0.trans hρ
      exact e_wi hx hb hr hlk hK hP hD hS dX6_drift_40 (congrArg Prod.fst hρ).symm (congrArg (fun z => (MW cI h a z.2 ++ X)) hρ).symm
    have c_17 : ¬ (x1 ≤ (nI i)) := c_17
    have hlt : i < 16 := il_lt hx1 (by decide) hi c_17
    refine lv_aload_n hx hb dX6_drift_20 rfl (lv_at hl 0 rfl) ?_
    refine k_wv (As := []) (rest := []) (bytes := cX6_remember) (C := RX6) S (okX6_remember l D cI cZ cQ h a X f _ (by assumption)) gX6_drift_X6_remember rfl ⟨rfl, rfl⟩ ndX6_remember ⟨Nat.le_of_ble_eq_true rfl, Nat.le_of_ble_eq_true rfl⟩ hK hP hD hS hA 0 rfl rfl rfl hl rfl (Nat.le_of_ble_eq_true rfl) dX6_drift_21 ⟨Nat.zero_le _, Nat.zero_le _⟩ (fun H locs hP hD hS => ?_)
    have hP : va_P D vwCl (MW cI h a (kX6_remember f) ++ X) H := hP
    have hD : va_D A (MW cI h a (kX6_remember f) ++ X) := hD
    refine lv_aload_n hx hb dX6_drift_24 rfl (lv_at hl 0 rfl) ?_
    refine k_wv (As := []) (rest := []) (bytes := cX6_time) (C := RX6) S (okX6_time l D cI cZ cQ h a X (kX6_remember f) _ (okM_rem hok hk) (hs_rem hk hs)) gX6_drift_X6_time rfl ⟨rfl, rfl⟩ ndX6_time ⟨Nat.le_of_ble_eq_true rfl, Nat.le_of_ble_eq_true rfl⟩ hK hP hD hS hA 0 rfl rfl rfl hl rfl (Nat.le_of_ble_eq_true rfl) dX6_drift_25 ⟨Nat.zero_le _, Nat.zero_le _⟩ (fun H locs hP hD hS => ?_)
    have hP : va_P D vwCl (MW cI h a (kX6_time (kX6_remember f)) ++ X) H := hP
    have hD : va_D A (MW cI h a (kX6_time (kX6_remember f)) ++ X) := hD
    refine lv_iinc (v := (nI (i + 1))) (lv' := [(2, .int (nI (i + 1))), (0, .ref h), (1, .int x1)]) hx hb dX6_drift_28 hl (k := 2) rfl (nI_1 i) (by decide) rfl (fun ls hl => ?_)
    refine lv_goto (tgt := 15) hx hb dX6_drift_31 (by decide) ?_
    have hρ : kX6_drift_15 x1 (n + 1) i f = kX6_drift_15 x1 n (i + 1) (kX6_time (kX6_remember f)) := (if_neg c_17)
    have hρ := hρ0.trans hρ
    exact ih  (i + 1)  (kX6_time (kX6_remember f)) _ _ (by omega) (by omega) (t_ok (t_step hR hlt)) (t_kn (t_step hR hlt)) (t_sd (t_step hR hlt)) hx1 (t_step hR hlt) hP hD hS (lv_sub hl [1, 2, 0] rfl) _ hρ
set_option maxHeartbeats 4000000 in
set_option maxRecDepth 100000 in
theorem okX6_drift (l : Launch) (D : va_G) (cI cZ cQ : ClassId) (h : Nat) (a : Nat → Nat) (X : va_W) (f : Nat → Nat → Int32) (x1 : Int32) (sz : Nat) (hok : okM f) (hk : vp_in (f 1 0) 17) (hs : 0 ≤ f 0 (ix 83)) (hR : okT f 0) : Met l yX6_drift wsX6_drift ({ frames := 6, cells := 0, slots := 0, locals := 139 }) (PW [.ref h, .int x1] sz D (TY cI cZ cQ) (MW cI h a f ++ X)) (QI (kX6_drift f x1).1 D (TY cI cZ cQ) (MW cI h a (kX6_drift f x1).2 ++ X) (va_A (MW cI h a f ++ X) sz)) 0 0 (va_A (MW cI h a f ++ X) sz) := by
  refine m_wr (cc := cX6_drift) (maxL := 3) (ret := (some .int)) (by decide) rfl (Nat.le_of_ble_eq_true rfl) (lv0 := [(0, .ref h), (1, .int x1)]) rfl ?_
  intro p e s m below meth c ls A hAe S hr hlk hP hK hD hS hA hl
  rw [← hAe]
  have S : CallFix p m c cX6_drift 3 s ([.ref h, .int x1] : List Value).toArray wsX6_drift RX6 := S
  have hx := S.1
  have hb := S.2.1
  have hown : s.vm.findClass RX6 = some m.cls := S.2.2.2.1
  have hts := S.2.2.2.2
  refine lv_iload_n hx hb dX6_drift_0 rfl (lv_at hl 1 rfl) ?_
  refine lv_iconst (v := 1) hx hb dX6_drift_1 (by decide) ?_
  refine lv_bipush (v := 16) hx hb dX6_drift_2 (by decide) ?_
  refine k_rs (As := [.int x1, .int 1, .int 16]) (rest := []) (bytes := cX6_in) S (okX6_in l D cI cZ cQ h a X f x1 1 16) gX6_drift_X6_in rfl ⟨rfl, rfl⟩ ndX6_in ⟨Nat.le_of_ble_eq_true rfl, Nat.le_of_ble_eq_true rfl⟩ hK hP rfl hl rfl (Nat.le_of_ble_eq_true rfl) dX6_drift_4 ⟨Nat.zero_le _, Nat.zero_le _⟩ ?_
  refine lv_if_ne (tgt := 13) hx hb dX6_drift_7 (by decide) (fun c_7 => ?_) (fun c_7 => ?_)
  · have c_7 : ¬ ((kX6_in f x1 1 16) = 0) := c_7
    refine lv_iconst (v := 0) hx hb dX6_drift_13 (by decide) ?_
    refine lv_istore_n (lv' := [(2, .int 0), (0, .ref h), (1, .int x1)]) hx hb dX6_drift_14 rfl hl (by decide) rfl (fun ls hl => ?_)
    have hρ : kX6_drift f x1 = kX6_drift_15 x1 17 0 f := (if_neg c_7)
    exact lpX6_drift_15 l D cI cZ cQ h a X x1 A hA S hr hlk hK   17 0  f _ _ (by omega) (by omega) hok hk hs (in_hi c_7) hR hP hD hS (lv_sub hl [1, 2, 0] rfl) _ hρ
  have c_7 : (kX6_in f x1 1 16) = 0 := c_7
  refine lv_ldc (v := (-1000000002)) hx hb hown (hts (.constant RX6 101 (-1000000002)) (by decide +kernel)) dX6_drift_10 ?_
  have hρ : kX6_drift f x1 = ((-1000000002), f) := (if_pos c_7)
  exact e_wi hx hb hr hlk hK hP hD hS dX6_drift_12 (congrArg Prod.fst hρ).symm (congrArg (fun z => (MW cI h a z.2 ++ X)) hρ).symm
