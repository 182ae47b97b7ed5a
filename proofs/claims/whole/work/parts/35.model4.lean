theorem ndX6_called : yX6_called.cls = RX6 ∧ yX6_called.cls ≠ "java/lang/invoke/MethodHandle" ∧ yX6_called.cls ≠ "java/lang/invoke/VarHandle" ∧ (parseMethodDescriptor yX6_called.desc).map (fun d => d.parameters.length) = some 2 := by decide +kernel
set_option maxHeartbeats 4000000 in
set_option maxRecDepth 100000 in
theorem lpX6_called_5 {p : Program} {e : Env} {s : State} {m : MethodId} {below : List Frame} {meth : Method} {c : Code} (l : Launch) (D : va_G) (cI cZ cQ : ClassId) (h : Nat) (a : Nat → Nat) (X : va_W) (x1 x2 : Int32) (f : Nat → Nat → Int32) (S : CallFix p m c cX6_called 5 s ([.ref h, .int x1, .int x2] : List Value).toArray wsX6_called RX6) (hr : meth.sig.returnType = (some .int)) (hlk : meth.locks = false) (hK : va_K D vwCl (TY cI cZ cQ) s) (hok : okM f) (h1 : vp_in x1 1597) (hP : va_P D vwCl (MW cI h a f ++ X) s.heap) : ∀ (n i : Nat) (v3 : Int32), i ≤ 6 → 6 - i < n → ∀ {ls : Array Slot}, lv_has ls 5 [(0, .ref h), (1, .int x1), (2, .int x2), (3, .int v3), (4, .int (nI i))] → ∀ ρ : Int32, ρ = kX6_called_5 x1 x2 n i f v3 → W p l e { frames := 0, cells := 0, slots := 0, locals := 0 } s m ([.ref h, .int x1, .int x2] : List Value).toArray below meth c s.heap [] 0 0 (MQ below (QR ρ) ([.ref h, .int x1, .int x2] : List Value).toArray s 0 0 (fun _ => False)) (F0 m 5 ls []) := by
  have hx := S.1
  have hb := S.2.1
  have hown : s.vm.findClass RX6 = some m.cls := S.2.2.2.1
  have hts := S.2.2.2.2
  have hinX6 : ∀ w ∈ wsX60, w ∈ wsX6_called := by decide +kernel
  intro n
  induction n with
  | zero =>
    intro i _ hi hn
    exact absurd hn (Nat.not_lt_zero _)
  | succ n ih =>
    intro i v3 hi hn  ls hl ρ hρ0
    refine lv_iload hx hb dX6_called_5 (lv_at hl 4 rfl) ?_
    refine lv_aload_n hx hb dX6_called_7 rfl (lv_at hl 0 rfl) ?_
    refine va_get (v := .ref (a 0)) (C := RX6) (T := TX6) (N := 6) (ci := 6) hx hb hts hinX6 hown hK hP 0 rfl rfl 0 (by decide) (hts (.fieldLink RX6 7 "AxleKeeperModel" "w" "[I") (by decide +kernel)) (fun _ h9 => h9) rfl dX6_called_8 ?_
    refine lv_iconst (v := 0) hx hb dX6_called_11 (by decide) ?_
    refine va_iald hx hb hK hP 1 0 rfl rfl (n := 1680) (vin_c (by decide)) dX6_called_12 ?_
    refine lv_icmp_ge (tgt := 48) hx hb dX6_called_13 (by decide) (fun c_13 => ?_) (fun c_13 => ?_)
    · have c_13 : (f 0 (ix 0)) ≤ (nI i) := c_13
      refine lv_iload_n hx hb dX6_called_48 rfl (lv_at hl 3 rfl) ?_
      have hρ : kX6_called_5 x1 x2 (n + 1) i f v3 = v3 := (if_pos c_13)
      have hρ := hρ0.trans hρ
      exact e_rd hx hb hr hlk dX6_called_49 hρ.symm
    have c_13 : ¬ ((f 0 (ix 0)) ≤ (nI i)) := c_13
    have hlt : i < 6 := il_lt hok.2 (by decide) hi c_13
    have hvi : vp_in (nI i) 6 := vp_in_nI hlt (by decide)
    refine lv_iload_n hx hb dX6_called_16 rfl (lv_at hl 3 rfl) ?_
    refine lv_aload_n hx hb dX6_called_17 rfl (lv_at hl 0 rfl) ?_
    refine va_get (v := .ref (a 0)) (C := RX6) (T := TX6) (N := 6) (ci := 6) hx hb hts hinX6 hown hK hP 0 rfl rfl 0 (by decide) (hts (.fieldLink RX6 7 "AxleKeeperModel" "w" "[I") (by decide +kernel)) (fun _ h9 => h9) rfl dX6_called_18 ?_
    refine lv_iload_n hx hb dX6_called_21 rfl (lv_at hl 1 rfl) ?_
    refine lv_iconst (v := 3) hx hb dX6_called_22 (by decide) ?_
    refine lv_iadd hx hb dX6_called_23 ?_
    refine lv_iload hx hb dX6_called_24 (lv_at hl 4 rfl) ?_
    refine lv_iadd hx hb dX6_called_26 ?_
    refine va_iald hx hb hK hP 1 0 rfl rfl (n := 1680) (vin3 (by assumption) (by assumption) (by decide)) dX6_called_27 ?_
    refine lv_iload_n hx hb dX6_called_28 rfl (lv_at hl 2 rfl) ?_
    refine lv_icmp_ne (tgt := 39) hx hb dX6_called_29 (by decide) (fun c_29 => ?_) (fun c_29 => ?_)
    · have c_29 : ¬ ((f 0 (ix ((x1 + 3) + (nI i)))) = x2) := c_29
      refine lv_iconst (v := 0) hx hb dX6_called_39 (by decide) ?_
      refine lv_ior hx hb dX6_called_40 ?_
      refine lv_istore_n (lv' := [(3, .int (v3 ||| 0)), (0, .ref h), (1, .int x1), (2, .int x2), (4, .int (nI i))]) hx hb dX6_called_41 rfl hl (by decide) rfl (fun ls hl => ?_)
      refine lv_iinc (v := (nI (i + 1))) (lv' := [(4, .int (nI (i + 1))), (3, .int (v3 ||| 0)), (0, .ref h), (1, .int x1), (2, .int x2)]) hx hb dX6_called_42 hl (k := 4) rfl (nI_1 i) (by decide) rfl (fun ls hl => ?_)
      refine lv_goto (tgt := 5) hx hb dX6_called_45 (by decide) ?_
      have hρ : kX6_called_5 x1 x2 (n + 1) i f v3 = kX6_called_5 x1 x2 n (i + 1) f (v3 ||| 0) := (if_neg c_13).trans ((if_neg c_29))
      have hρ := hρ0.trans hρ
      exact ih  (i + 1) (v3 ||| 0)   (by omega) (by omega)  (lv_sub hl [2, 3, 4, 1, 0] rfl) _ hρ
    have c_29 : (f 0 (ix ((x1 + 3) + (nI i)))) = x2 := c_29
    refine lv_iconst (v := 1) hx hb dX6_called_32 (by decide) ?_
    refine lv_iload hx hb dX6_called_33 (lv_at hl 4 rfl) ?_
    refine lv_ishl hx hb dX6_called_35 ?_
    refine lv_goto (tgt := 40) hx hb dX6_called_36 (by decide) ?_
    refine lv_ior hx hb dX6_called_40 ?_
    refine lv_istore_n (lv' := [(3, .int (v3 ||| ((1 : Int32) <<< ((nI i) &&& 31)))), (0, .ref h), (1, .int x1), (2, .int x2), (4, .int (nI i))]) hx hb dX6_called_41 rfl hl (by decide) rfl (fun ls hl => ?_)
    refine lv_iinc (v := (nI (i + 1))) (lv' := [(4, .int (nI (i + 1))), (3, .int (v3 ||| ((1 : Int32) <<< ((nI i) &&& 31)))), (0, .ref h), (1, .int x1), (2, .int x2)]) hx hb dX6_called_42 hl (k := 4) rfl (nI_1 i) (by decide) rfl (fun ls hl => ?_)
    refine lv_goto (tgt := 5) hx hb dX6_called_45 (by decide) ?_
    have hρ : kX6_called_5 x1 x2 (n + 1) i f v3 = kX6_called_5 x1 x2 n (i + 1) f (v3 ||| ((1 : Int32) <<< ((nI i) &&& 31))) := (if_neg c_13).trans ((if_pos c_29))
    have hρ := hρ0.trans hρ
    exact ih  (i + 1) (v3 ||| ((1 : Int32) <<< ((nI i) &&& 31)))   (by omega) (by omega)  (lv_sub hl [2, 3, 4, 1, 0] rfl) _ hρ
set_option maxHeartbeats 4000000 in
set_option maxRecDepth 100000 in
theorem okX6_called (l : Launch) (D : va_G) (cI cZ cQ : ClassId) (h : Nat) (a : Nat → Nat) (X : va_W) (f : Nat → Nat → Int32) (x1 x2 : Int32) (hok : okM f) (h1 : vp_in x1 1597) : Met l yX6_called wsX6_called ({ frames := 0, cells := 0, slots := 0, locals := 0 }) (PR [.ref h, .int x1, .int x2] D (TY cI cZ cQ) (MW cI h a f ++ X)) (QR (kX6_called f x1 x2)) 0 0 (fun _ => False) := by
  refine m_rd (cc := cX6_called) (maxL := 5) (ret := (some .int)) (by decide) rfl (Nat.le_of_ble_eq_true rfl) (lv0 := [(0, .ref h), (1, .int x1), (2, .int x2)]) rfl ?_
  intro p e s m below meth c ls S hr hlk hP hK hl
  have S : CallFix p m c cX6_called 5 s ([.ref h, .int x1, .int x2] : List Value).toArray wsX6_called RX6 := S
  have hx := S.1
  have hb := S.2.1
  have hown : s.vm.findClass RX6 = some m.cls := S.2.2.2.1
  have hts := S.2.2.2.2
  have hinX6 : ∀ w ∈ wsX60, w ∈ wsX6_called := by decide +kernel
  refine lv_iconst (v := 0) hx hb dX6_called_0 (by decide) ?_
  refine lv_istore_n (lv' := [(3, .int 0), (0, .ref h), (1, .int x1), (2, .int x2)]) hx hb dX6_called_1 rfl hl (by decide) rfl (fun ls hl => ?_)
  refine lv_iconst (v := 0) hx hb dX6_called_2 (by decide) ?_
  refine lv_istore (lv' := [(4, .int 0), (3, .int 0), (0, .ref h), (1, .int x1), (2, .int x2)]) hx hb dX6_called_3 hl (by decide) rfl (fun ls hl => ?_)
  have hρ : kX6_called f x1 x2 = kX6_called_5 x1 x2 7 0 f 0 := rfl
  exact lpX6_called_5 l D cI cZ cQ h a X x1 x2 f S hr hlk hK hok h1 hP 7 0 0   (by omega) (by omega)  (lv_sub hl [2, 3, 4, 1, 0] rfl) _ hρ
theorem ndX6_leavesNone : yX6_leavesNone.cls = RX6 ∧ yX6_leavesNone.cls ≠ "java/lang/invoke/MethodHandle" ∧ yX6_leavesNone.cls ≠ "java/lang/invoke/VarHandle" ∧ (parseMethodDescriptor yX6_leavesNone.desc).map (fun d => d.parameters.length) = some 2 := by decide +kernel
set_option maxHeartbeats 4000000 in
set_option maxRecDepth 100000 in
theorem lpX6_leavesNone_5 {p : Program} {e : Env} {s : State} {m : MethodId} {below : List Frame} {meth : Method} {c : Code} (l : Launch) (D : va_G) (cI cZ cQ : ClassId) (h : Nat) (a : Nat → Nat) (X : va_W) (x1 x2 : Int32) (f : Nat → Nat → Int32) (S : CallFix p m c cX6_leavesNone 6 s ([.ref h, .int x1, .int x2] : List Value).toArray wsX6_leavesNone RX6) (hr : meth.sig.returnType = (some .boolean)) (hlk : meth.locks = false) (hK : va_K D vwCl (TY cI cZ cQ) s) (hok : okM f) (hP : va_P D vwCl (MW cI h a f ++ X) s.heap) : ∀ (n i : Nat) (v3 : Int32), i ≤ 6 → 6 - i < n → (hbo : v3 = 0 ∨ v3 = 1) → ∀ {ls : Array Slot}, lv_has ls 6 [(0, .ref h), (1, .int x1), (2, .int x2), (3, .int v3), (4, .int (nI i))] → ∀ ρ : Int32, ρ = kX6_leavesNone_5 x1 x2 n i f v3 → W p l e { frames := 1, cells := 0, slots := 0, locals := 21 } s m ([.ref h, .int x1, .int x2] : List Value).toArray below meth c s.heap [] 0 0 (MQ below (QR ρ) ([.ref h, .int x1, .int x2] : List Value).toArray s 0 0 (fun _ => False)) (F0 m 5 ls []) := by
  have hx := S.1
  have hb := S.2.1
  have hown : s.vm.findClass RX6 = some m.cls := S.2.2.2.1
  have hts := S.2.2.2.2
  have hinX6 : ∀ w ∈ wsX60, w ∈ wsX6_leavesNone := by decide +kernel
  intro n
  induction n with
  | zero =>
    intro i _ hi hn
    exact absurd hn (Nat.not_lt_zero _)
  | succ n ih =>
    intro i v3 hi hn hbo ls hl ρ hρ0
    refine lv_iload hx hb dX6_leavesNone_5 (lv_at hl 4 rfl) ?_
    refine lv_aload_n hx hb dX6_leavesNone_7 rfl (lv_at hl 0 rfl) ?_
    refine va_get (v := .ref (a 0)) (C := RX6) (T := TX6) (N := 6) (ci := 6) hx hb hts hinX6 hown hK hP 0 rfl rfl 0 (by decide) (hts (.fieldLink RX6 7 "AxleKeeperModel" "w" "[I") (by decide +kernel)) (fun _ h9 => h9) rfl dX6_leavesNone_8 ?_
    refine lv_iconst (v := 0) hx hb dX6_leavesNone_11 (by decide) ?_
    refine va_iald hx hb hK hP 1 0 rfl rfl (n := 1680) (vin_c (by decide)) dX6_leavesNone_12 ?_
    refine lv_icmp_ge (tgt := 81) hx hb dX6_leavesNone_13 (by decide) (fun c_13 => ?_) (fun c_13 => ?_)
    · have c_13 : (f 0 (ix 0)) ≤ (nI i) := c_13
      refine lv_iload_n hx hb dX6_leavesNone_81 rfl (lv_at hl 3 rfl) ?_
      have hρ : kX6_leavesNone_5 x1 x2 (n + 1) i f v3 = v3 := (if_pos c_13)
      have hρ := hρ0.trans hρ
      exact e_rz hx hb hr hlk dX6_leavesNone_82 (nar01 hbo) hρ.symm
    have c_13 : ¬ ((f 0 (ix 0)) ≤ (nI i)) := c_13
    have hlt : i < 6 := il_lt hok.2 (by decide) hi c_13
    have hvi : vp_in (nI i) 6 := vp_in_nI hlt (by decide)
    refine lv_aload_n hx hb dX6_leavesNone_16 rfl (lv_at hl 0 rfl) ?_
    refine va_get (v := .ref (a 0)) (C := RX6) (T := TX6) (N := 6) (ci := 6) hx hb hts hinX6 hown hK hP 0 rfl rfl 0 (by decide) (hts (.fieldLink RX6 7 "AxleKeeperModel" "w" "[I") (by decide +kernel)) (fun _ h9 => h9) rfl dX6_leavesNone_17 ?_
    refine lv_bipush (v := 9) hx hb dX6_leavesNone_20 (by decide) ?_
    refine lv_iload hx hb dX6_leavesNone_22 (lv_at hl 4 rfl) ?_
    refine lv_iadd hx hb dX6_leavesNone_24 ?_
    refine va_iald hx hb hK hP 1 0 rfl rfl (n := 1680) (vin2 (by assumption) (by decide)) dX6_leavesNone_25 ?_
    refine lv_aload_n hx hb dX6_leavesNone_26 rfl (lv_at hl 0 rfl) ?_
    refine lv_iload_n hx hb dX6_leavesNone_27 rfl (lv_at hl 1 rfl) ?_
    refine k_rd (As := [.int x1]) (rest := [.int (f 0 (ix (9 + (nI i))))]) (bytes := cX6_rightOf) (C := RX6) S (okX6_rightOf l D cI cZ cQ h a X f x1) gX6_leavesNone_X6_rightOf rfl ⟨rfl, rfl⟩ ndX6_rightOf ⟨Nat.le_of_ble_eq_true rfl, Nat.le_of_ble_eq_true rfl⟩ hK hP 0 rfl rfl rfl hl rfl (Nat.le_of_ble_eq_true rfl) dX6_leavesNone_28 ⟨Nat.zero_le _, Nat.zero_le _⟩ ?_
    refine lv_iload hx hb dX6_leavesNone_31 (lv_at hl 4 rfl) ?_
    refine lv_icmp_ne (tgt := 40) hx hb dX6_leavesNone_33 (by decide) (fun c_33 => ?_) (fun c_33 => ?_)
    · have c_33 : ¬ ((kX6_rightOf f x1) = (nI i)) := c_33
      refine lv_iconst (v := 0) hx hb dX6_leavesNone_40 (by decide) ?_
      refine lv_iadd hx hb dX6_leavesNone_41 ?_
      refine lv_aload_n hx hb dX6_leavesNone_42 rfl (lv_at hl 0 rfl) ?_
      refine lv_iload_n hx hb dX6_leavesNone_43 rfl (lv_at hl 1 rfl) ?_
      refine k_rd (As := [.int x1]) (rest := [.int ((f 0 (ix (9 + (nI i)))) + 0)]) (bytes := cX6_leftOf) (C := RX6) S (okX6_leftOf l D cI cZ cQ h a X f x1) gX6_leavesNone_X6_leftOf rfl ⟨rfl, rfl⟩ ndX6_leftOf ⟨Nat.le_of_ble_eq_true rfl, Nat.le_of_ble_eq_true rfl⟩ hK hP 0 rfl rfl rfl hl rfl (Nat.le_of_ble_eq_true rfl) dX6_leavesNone_44 ⟨Nat.zero_le _, Nat.zero_le _⟩ ?_
      refine lv_iload hx hb dX6_leavesNone_47 (lv_at hl 4 rfl) ?_
      refine lv_icmp_ne (tgt := 56) hx hb dX6_leavesNone_49 (by decide) (fun c_49 => ?_) (fun c_49 => ?_)
      · have c_49 : ¬ ((kX6_leftOf f x1) = (nI i)) := c_49
        refine lv_iconst (v := 0) hx hb dX6_leavesNone_56 (by decide) ?_
        refine lv_isub hx hb dX6_leavesNone_57 ?_
        refine lv_istore (lv' := [(5, .int (((f 0 (ix (9 + (nI i)))) + 0) - 0)), (0, .ref h), (1, .int x1), (2, .int x2), (3, .int v3), (4, .int (nI i))]) hx hb dX6_leavesNone_58 hl (by decide) rfl (fun ls hl => ?_)
        refine lv_iload_n hx hb dX6_leavesNone_60 rfl (lv_at hl 4 rfl) ?_
        refine lv_if_eq (tgt := 73) hx hb dX6_leavesNone_61 (by decide) (fun c_61 => ?_) (fun c_61 => ?_)
        · have c_61 : v3 = 0 := c_61
          refine lv_iconst (v := 0) hx hb dX6_leavesNone_73 (by decide) ?_
          refine lv_istore_n (lv' := [(3, .int 0), (5, .int (((f 0 (ix (9 + (nI i)))) + 0) - 0)), (0, .ref h), (1, .int x1), (2, .int x2), (4, .int (nI i))]) hx hb dX6_leavesNone_74 rfl hl (by decide) rfl (fun ls hl => ?_)
          refine lv_iinc (v := (nI (i + 1))) (lv' := [(4, .int (nI (i + 1))), (3, .int 0), (5, .int (((f 0 (ix (9 + (nI i)))) + 0) - 0)), (0, .ref h), (1, .int x1), (2, .int x2)]) hx hb dX6_leavesNone_75 hl (k := 5) rfl (nI_1 i) (by decide) rfl (fun ls hl => ?_)
          refine lv_goto (tgt := 5) hx hb dX6_leavesNone_78 (by decide) ?_
          have hρ : kX6_leavesNone_5 x1 x2 (n + 1) i f v3 = kX6_leavesNone_5 x1 x2 n (i + 1) f 0 := (if_neg c_13).trans ((if_neg c_33).trans ((if_neg c_49).trans ((if_pos c_61))))
          have hρ := hρ0.trans hρ
          exact ih  (i + 1) 0   (by omega) (by omega) (by first | exact Or.inl rfl | exact Or.inr rfl) (lv_sub hl [3, 4, 5, 1, 0] rfl) _ hρ
        have c_61 : ¬ (v3 = 0) := c_61
        refine lv_iload hx hb dX6_leavesNone_64 (lv_at hl 0 rfl) ?_
        refine lv_if_lt (tgt := 73) hx hb dX6_leavesNone_66 (by decide) (fun c_66 => ?_) (fun c_66 => ?_)
        · have c_66 : (((f 0 (ix (9 + (nI i)))) + 0) - 0) < 0 := c_66
          refine lv_iconst (v := 0) hx hb dX6_leavesNone_73 (by decide) ?_
          refine lv_istore_n (lv' := [(3, .int 0), (5, .int (((f 0 (ix (9 + (nI i)))) + 0) - 0)), (0, .ref h), (1, .int x1), (2, .int x2), (4, .int (nI i))]) hx hb dX6_leavesNone_74 rfl hl (by decide) rfl (fun ls hl => ?_)
          refine lv_iinc (v := (nI (i + 1))) (lv' := [(4, .int (nI (i + 1))), (3, .int 0), (5, .int (((f 0 (ix (9 + (nI i)))) + 0) - 0)), (0, .ref h), (1, .int x1), (2, .int x2)]) hx hb dX6_leavesNone_75 hl (k := 5) rfl (nI_1 i) (by decide) rfl (fun ls hl => ?_)
          refine lv_goto (tgt := 5) hx hb dX6_leavesNone_78 (by decide) ?_
          have hρ : kX6_leavesNone_5 x1 x2 (n + 1) i f v3 = kX6_leavesNone_5 x1 x2 n (i + 1) f 0 := (if_neg c_13).trans ((if_neg c_33).trans ((if_neg c_49).trans ((if_neg c_61).trans ((if_pos c_66)))))
          have hρ := hρ0.trans hρ
          exact ih  (i + 1) 0   (by omega) (by omega) (by first | exact Or.inl rfl | exact Or.inr rfl) (lv_sub hl [3, 4, 5, 1, 0] rfl) _ hρ
        have c_66 : ¬ ((((f 0 (ix (9 + (nI i)))) + 0) - 0) < 0) := c_66
        refine lv_iconst (v := 1) hx hb dX6_leavesNone_69 (by decide) ?_
        refine lv_goto (tgt := 74) hx hb dX6_leavesNone_70 (by decide) ?_
        refine lv_istore_n (lv' := [(3, .int 1), (5, .int (((f 0 (ix (9 + (nI i)))) + 0) - 0)), (0, .ref h), (1, .int x1), (2, .int x2), (4, .int (nI i))]) hx hb dX6_leavesNone_74 rfl hl (by decide) rfl (fun ls hl => ?_)
        refine lv_iinc (v := (nI (i + 1))) (lv' := [(4, .int (nI (i + 1))), (3, .int 1), (5, .int (((f 0 (ix (9 + (nI i)))) + 0) - 0)), (0, .ref h), (1, .int x1), (2, .int x2)]) hx hb dX6_leavesNone_75 hl (k := 5) rfl (nI_1 i) (by decide) rfl (fun ls hl => ?_)
        refine lv_goto (tgt := 5) hx hb dX6_leavesNone_78 (by decide) ?_
        have hρ : kX6_leavesNone_5 x1 x2 (n + 1) i f v3 = kX6_leavesNone_5 x1 x2 n (i + 1) f 1 := (if_neg c_13).trans ((if_neg c_33).trans ((if_neg c_49).trans ((if_neg c_61).trans ((if_neg c_66)))))
        have hρ := hρ0.trans hρ
        exact ih  (i + 1) 1   (by omega) (by omega) (by first | exact Or.inl rfl | exact Or.inr rfl) (lv_sub hl [3, 4, 5, 1, 0] rfl) _ hρ
      have c_49 : (kX6_leftOf f x1) = (nI i) := c_49
      refine lv_iload_n hx hb dX6_leavesNone_52 rfl (lv_at hl 2 rfl) ?_
      refine lv_goto (tgt := 57) hx hb dX6_leavesNone_53 (by decide) ?_
      refine lv_isub hx hb dX6_leavesNone_57 ?_
      refine lv_istore (lv' := [(5, .int (((f 0 (ix (9 + (nI i)))) + 0) - x2)), (0, .ref h), (1, .int x1), (2, .int x2), (3, .int v3), (4, .int (nI i))]) hx hb dX6_leavesNone_58 hl (by decide) rfl (fun ls hl => ?_)
      refine lv_iload_n hx hb dX6_leavesNone_60 rfl (lv_at hl 4 rfl) ?_
      refine lv_if_eq (tgt := 73) hx hb dX6_leavesNone_61 (by decide) (fun c_61 => ?_) (fun c_61 => ?_)
      · have c_61 : v3 = 0 := c_61
        refine lv_iconst (v := 0) hx hb dX6_leavesNone_73 (by decide) ?_
        refine lv_istore_n (lv' := [(3, .int 0), (5, .int (((f 0 (ix (9 + (nI i)))) + 0) - x2)), (0, .ref h), (1, .int x1), (2, .int x2), (4, .int (nI i))]) hx hb dX6_leavesNone_74 rfl hl (by decide) rfl (fun ls hl => ?_)
        refine lv_iinc (v := (nI (i + 1))) (lv' := [(4, .int (nI (i + 1))), (3, .int 0), (5, .int (((f 0 (ix (9 + (nI i)))) + 0) - x2)), (0, .ref h), (1, .int x1), (2, .int x2)]) hx hb dX6_leavesNone_75 hl (k := 5) rfl (nI_1 i) (by decide) rfl (fun ls hl => ?_)
        refine lv_goto (tgt := 5) hx hb dX6_leavesNone_78 (by decide) ?_
        have hρ : kX6_leavesNone_5 x1 x2 (n + 1) i f v3 = kX6_leavesNone_5 x1 x2 n (i + 1) f 0 := (if_neg c_13).trans ((if_neg c_33).trans ((if_pos c_49).trans ((if_pos c_61))))
        have hρ := hρ0.trans hρ
        exact ih  (i + 1) 0   (by omega) (by omega) (by first | exact Or.inl rfl | exact Or.inr rfl) (lv_sub hl [3, 4, 5, 1, 0] rfl) _ hρ
      have c_61 : ¬ (v3 = 0) := c_61
      refine lv_iload hx hb dX6_leavesNone_64 (lv_at hl 0 rfl) ?_
      refine lv_if_lt (tgt := 73) hx hb dX6_leavesNone_66 (by decide) (fun c_66 => ?_) (fun c_66 => ?_)
      · have c_66 : (((f 0 (ix (9 + (nI i)))) + 0) - x2) < 0 := c_66
        refine lv_iconst (v := 0) hx hb dX6_leavesNone_73 (by decide) ?_
        refine lv_istore_n (lv' := [(3, .int 0), (5, .int (((f 0 (ix (9 + (nI i)))) + 0) - x2)), (0, .ref h), (1, .int x1), (2, .int x2), (4, .int (nI i))]) hx hb dX6_leavesNone_74 rfl hl (by decide) rfl (fun ls hl => ?_)
        refine lv_iinc (v := (nI (i + 1))) (lv' := [(4, .int (nI (i + 1))), (3, .int 0), (5, .int (((f 0 (ix (9 + (nI i)))) + 0) - x2)), (0, .ref h), (1, .int x1), (2, .int x2)]) hx hb dX6_leavesNone_75 hl (k := 5) rfl (nI_1 i) (by decide) rfl (fun ls hl => ?_)
        refine lv_goto (tgt := 5) hx hb dX6_leavesNone_78 (by decide) ?_
        have hρ : kX6_leavesNone_5 x1 x2 (n + 1) i f v3 = kX6_leavesNone_5 x1 x2 n (i + 1) f 0 := (if_neg c_13).trans ((if_neg c_33).trans ((if_pos c_49).trans ((if_neg c_61).trans ((if_pos c_66)))))
        have hρ := hρ0.trans hρ
        exact ih  (i + 1) 0   (by omega) (by omega) (by first | exact Or.inl rfl | exact Or.inr rfl) (lv_sub hl [3, 4, 5, 1, 0] rfl) _ hρ
      have c_66 : ¬ ((((f 0 (ix (9 + (nI i)))) + 0) - x2) < 0) := c_66
      refine lv_iconst (v := 1) hx hb dX6_leavesNone_69 (by decide) ?_
      refine lv_goto (tgt := 74) hx hb dX6_leavesNone_70 (by decide) ?_
      refine lv_istore_n (lv' := [(3, .int 1), (5, .int (((f 0 (ix (9 + (nI i)))) + 0) - x2)), (0, .ref h), (1, .int x1), (2, .int x2), (4, .int (nI i))]) hx hb dX6_leavesNone_74 rfl hl (by decide) rfl (fun ls hl => ?_)
      refine lv_iinc (v := (nI (i + 1))) (lv' := [(4, .int (nI (i + 1))), (3, .int 1), (5, .int (((f 0 (ix (9 + (nI i)))) + 0) - x2)), (0, .ref h), (1, .int x1), (2, .int x2)]) hx hb dX6_leavesNone_75 hl (k := 5) rfl (nI_1 i) (by decide) rfl (fun ls hl => ?_)
      refine lv_goto (tgt := 5) hx hb dX6_leavesNone_78 (by decide) ?_
      have hρ : kX6_leavesNone_5 x1 x2 (n + 1) i f v3 = kX6_leavesNone_5 x1 x2 n (i + 1) f 1 := (if_neg c_13).trans ((if_neg c_33).trans ((if_pos c_49).trans ((if_neg c_61).trans ((if_neg c_66)))))
      have hρ := hρ0.trans hρ
      exact ih  (i + 1) 1   (by omega) (by omega) (by first | exact Or.inl rfl | exact Or.inr rfl) (lv_sub hl [3, 4, 5, 1, 0] rfl) _ hρ
    have c_33 : (kX6_rightOf f x1) = (nI i) := c_33
    refine lv_iload_n hx hb dX6_leavesNone_36 rfl (lv_at hl 2 rfl) ?_
    refine lv_goto (tgt := 41) hx hb dX6_leavesNone_37 (by decide) ?_
    refine lv_iadd hx hb dX6_leavesNone_41 ?_
    refine lv_aload_n hx hb dX6_leavesNone_42 rfl (lv_at hl 0 rfl) ?_
    refine lv_iload_n hx hb dX6_leavesNone_43 rfl (lv_at hl 1 rfl) ?_
    refine k_rd (As := [.int x1]) (rest := [.int ((f 0 (ix (9 + (nI i)))) + x2)]) (bytes := cX6_leftOf) (C := RX6) S (okX6_leftOf l D cI cZ cQ h a X f x1) gX6_leavesNone_X6_leftOf rfl ⟨rfl, rfl⟩ ndX6_leftOf ⟨Nat.le_of_ble_eq_true rfl, Nat.le_of_ble_eq_true rfl⟩ hK hP 0 rfl rfl rfl hl rfl (Nat.le_of_ble_eq_true rfl) dX6_leavesNone_44 ⟨Nat.zero_le _, Nat.zero_le _⟩ ?_
    refine lv_iload hx hb dX6_leavesNone_47 (lv_at hl 4 rfl) ?_
    refine lv_icmp_ne (tgt := 56) hx hb dX6_leavesNone_49 (by decide) (fun c_49 => ?_) (fun c_49 => ?_)
    · have c_49 : ¬ ((kX6_leftOf f x1) = (nI i)) := c_49
      refine lv_iconst (v := 0) hx hb dX6_leavesNone_56 (by decide) ?_
      refine lv_isub hx hb dX6_leavesNone_57 ?_
      refine lv_istore (lv' := [(5, .int (((f 0 (ix (9 + (nI i)))) + x2) - 0)), (0, .ref h), (1, .int x1), (2, .int x2), (3, .int v3), (4, .int (nI i))]) hx hb dX6_leavesNone_58 hl (by decide) rfl (fun ls hl => ?_)
      refine lv_iload_n hx hb dX6_leavesNone_60 rfl (lv_at hl 4 rfl) ?_
      refine lv_if_eq (tgt := 73) hx hb dX6_leavesNone_61 (by decide) (fun c_61 => ?_) (fun c_61 => ?_)
      · have c_61 : v3 = 0 := c_61
        refine lv_iconst (v := 0) hx hb dX6_leavesNone_73 (by decide) ?_
        refine lv_istore_n (lv' := [(3, .int 0), (5, .int (((f 0 (ix (9 + (nI i)))) + x2) - 0)), (0, .ref h), (1, .int x1), (2, .int x2), (4, .int (nI i))]) hx hb dX6_leavesNone_74 rfl hl (by decide) rfl (fun ls hl => ?_)
        refine lv_iinc (v := (nI (i + 1))) (lv' := [(4, .int (nI (i + 1))), (3, .int 0), (5, .int (((f 0 (ix (9 + (nI i)))) + x2) - 0)), (0, .ref h), (1, .int x1), (2, .int x2)]) hx hb dX6_leavesNone_75 hl (k := 5) rfl (nI_1 i) (by decide) rfl (fun ls hl => ?_)
        refine lv_goto (tgt := 5) hx hb dX6_leavesNone_78 (by decide) ?_
        have hρ : kX6_leavesNone_5 x1 x2 (n + 1) i f v3 = kX6_leavesNone_5 x1 x2 n (i + 1) f 0 := (if_neg c_13).trans ((if_pos c_33).trans ((if_neg c_49).trans ((if_pos c_61))))
        have hρ := hρ0.trans hρ
        exact ih  (i + 1) 0   (by omega) (by omega) (by first | exact Or.inl rfl | exact Or.inr rfl) (lv_sub hl [3, 4, 5, 1, 0] rfl) _ hρ
      have c_61 : ¬ (v3 = 0) := c_61
      refine lv_iload hx hb dX6_leavesNone_64 (lv_at hl 0 rfl) ?_
      refine lv_if_lt (tgt := 73) hx hb dX6_leavesNone_66 (by decide) (fun c_66 => ?_) (fun c_66 => ?_)
      · have c_66 : (((f 0 (ix (9 + (nI i)))) + x2) - 0) < 0 := c_66
        refine lv_iconst (v := 0) hx hb dX6_leavesNone_73 (by decide) ?_
        refine lv_istore_n (lv' := [(3, .int 0), (5, .int (((f 0 (ix (9 + (nI i)))) + x2) - 0)), (0, .ref h), (1, .int x1), (2, .int x2), (4, .int (nI i))]) hx hb dX6_leavesNone_74 rfl hl (by decide) rfl (fun ls hl => ?_)
        refine lv_iinc (v := (nI (i + 1))) (lv' := [(4, .int (nI (i + 1))), (3, .int 0), (5, .int (((f 0 (ix (9 + (nI i)))) + x2) - 0)), (0, .ref h), (1, .int x1), (2, .int x2)]) hx hb dX6_leavesNone_75 hl (k := 5) rfl (nI_1 i) (by decide) rfl (fun ls hl => ?_)
        refine lv_goto (tgt := 5) hx hb dX6_leavesNone_78 (by decide) ?_
        have hρ : kX6_leavesNone_5 x1 x2 (n + 1) i f v3 = kX6_leavesNone_5 x1 x2 n (i + 1) f 0 := (if_neg c_13).trans ((if_pos c_33).trans ((if_neg c_49).trans ((if_neg c_61).trans ((if_pos c_66)))))
        have hρ := hρ0.trans hρ
        exact ih  (i + 1) 0   (by omega) (by omega) (by first | exact Or.inl rfl | exact Or.inr rfl) (lv_sub hl [3, 4, 5, 1, 0] rfl) _ hρ
      have c_66 : ¬ ((((f 0 (ix (9 + (nI i)))) + x2) - 0) < 0) := c_66
      refine lv_iconst (v := 1) hx hb dX6_leavesNone_69 (by decide) ?_
      refine lv_goto (tgt := 74) hx hb dX6_leavesNone_70 (by decide) ?_
      refine lv_istore_n (lv' := [(3, .int 1), (5, .int (((f 0 (ix (9 + (nI i)))) + x2) - 0)), (0, .ref h), (1, .int x1), (2, .int x2), (4, .int (nI i))]) hx hb dX6_leavesNone_74 rfl hl (by decide) rfl (fun ls hl => ?_)
      refine lv_iinc (v := (nI (i + 1))) (lv' := [(4, .int (nI (i + 1))), (3, .int 1), (5, .int (((f 0 (ix (9 + (nI i)))) + x2) - 0)), (0, .ref h), (1, .int x1), (2, .int x2)]) hx hb dX6_leavesNone_75 hl (k := 5) rfl (nI_1 i) (by decide) rfl (fun ls hl => ?_)
      refine lv_goto (tgt := 5) hx hb dX6_leavesNone_78 (by decide) ?_
      have hρ : kX6_leavesNone_5 x1 x2 (n + 1) i f v3 = kX6_leavesNone_5 x1 x2 n (i + 1) f 1 := (if_neg c_13).trans ((if_pos c_33).trans ((if_neg c_49).trans ((if_neg c_61).trans ((if_neg c_66)))))
      have hρ := hρ0.trans hρ
      exact ih  (i + 1) 1   (by omega) (by omega) (by first | exact Or.inl rfl | exact Or.inr rfl) (lv_sub hl [3, 4, 5, 1, 0] rfl) _ hρ
    have c_49 : (kX6_leftOf f x1) = (nI i) := c_49
    refine lv_iload_n hx hb dX6_leavesNone_52 rfl (lv_at hl 2 rfl) ?_
    refine lv_goto (tgt := 57) hx hb dX6_leavesNone_53 (by decide) ?_
    refine lv_isub hx hb dX6_leavesNone_57 ?_
    refine lv_istore (lv' := [(5, .int (((f 0 (ix (9 + (nI i)))) + x2) - x2)), (0, .ref h), (1, .int x1), (2, .int x2), (3, .int v3), (4, .int (nI i))]) hx hb dX6_leavesNone_58 hl (by decide) rfl (fun ls hl => ?_)
    refine lv_iload_n hx hb dX6_leavesNone_60 rfl (lv_at hl 4 rfl) ?_
    refine lv_if_eq (tgt := 73) hx hb dX6_leavesNone_61 (by decide) (fun c_61 => ?_) (fun c_61 => ?_)
    · have c_61 : v3 = 0 := c_61
      refine lv_iconst (v := 0) hx hb dX6_leavesNone_73 (by decide) ?_
      refine lv_istore_n (lv' := [(3, .int 0), (5, .int (((f 0 (ix (9 + (nI i)))) + x2) - x2)), (0, .ref h), (1, .int x1), (2, .int x2), (4, .int (nI i))]) hx hb dX6_leavesNone_74 rfl hl (by decide) rfl (fun ls hl => ?_)
      refine lv_iinc (v := (nI (i + 1))) (lv' := [(4, .int (nI (i + 1))), (3, .int 0), (5, .int (((f 0 (ix (9 + (nI i)))) + x2) - x2)), (0, .ref h), (1, .int x1), (2, .int x2)]) hx hb dX6_leavesNone_75 hl (k := 5) rfl (nI_1 i) (by decide) rfl (fun ls hl => ?_)
      refine lv_goto (tgt := 5) hx hb dX6_leavesNone_78 (by decide) ?_
      have hρ : kX6_leavesNone_5 x1 x2 (n + 1) i f v3 = kX6_leavesNone_5 x1 x2 n (i + 1) f 0 := (if_neg c_13).trans ((if_pos c_33).trans ((if_pos c_49).trans ((if_pos c_61))))
      have hρ := hρ0.trans hρ
      exact ih  (i + 1) 0   (by omega) (by omega) (by first | exact Or.inl rfl | exact Or.inr rfl) (lv_sub hl [3, 4, 5, 1, 0] rfl) _ hρ
    have c_61 : ¬ (v3 = 0) := c_61
    refine lv_iload hx hb dX6_leavesNone_64 (lv_at hl 0 rfl) ?_
    refine lv_if_lt (tgt := 73) hx hb dX6_leavesNone_66 (by decide) (fun c_66 => ?_) (fun c_66 => ?_)
    · have c_66 : (((f 0 (ix (9 + (nI i)))) + x2) - x2) < 0 := c_66
      refine lv_iconst (v := 0) hx hb dX6_leavesNone_73 (by decide) ?_
      refine lv_istore_n (lv' := [(3, .int 0), (5, .int (((f 0 (ix (9 + (nI i)))) + x2) - x2)), (0, .ref h), (1, .int x1), (2, .int x2), (4, .int (nI i))]) hx hb dX6_leavesNone_74 rfl hl (by decide) rfl (fun ls hl => ?_)
      refine lv_iinc (v := (nI (i + 1))) (lv' := [(4, .int (nI (i + 1))), (3, .int 0), (5, .int (((f 0 (ix (9 + (nI i)))) + x2) - x2)), (0, .ref h), (1, .int x1), (2, .int x2)]) hx hb dX6_leavesNone_75 hl (k := 5) rfl (nI_1 i) (by decide) rfl (fun ls hl => ?_)
      refine lv_goto (tgt := 5) hx hb dX6_leavesNone_78 (by decide) ?_
      have hρ : kX6_leavesNone_5 x1 x2 (n + 1) i f v3 = kX6_leavesNone_5 x1 x2 n (i + 1) f 0 := (if_neg c_13).trans ((if_pos c_33).trans ((if_pos c_49).trans ((if_neg c_61).trans ((if_pos c_66)))))
      have hρ := hρ0.trans hρ
      exact ih  (i + 1) 0   (by omega) (by omega) (by first | exact Or.inl rfl | exact Or.inr rfl) (lv_sub hl [3, 4, 5, 1, 0] rfl) _ hρ
    have c_66 : ¬ ((((f 0 (ix (9 + (nI i)))) + x2) - x2) < 0) := c_66
    refine lv_iconst (v := 1) hx hb dX6_leavesNone_69 (by decide) ?_
    refine lv_goto (tgt := 74) hx hb dX6_leavesNone_70 (by decide) ?_
    refine lv_istore_n (lv' := [(3, .int 1), (5, .int (((f 0 (ix (9 + (nI i)))) + x2) - x2)), (0, .ref h), (1, .int x1), (2, .int x2), (4, .int (nI i))]) hx hb dX6_leavesNone_74 rfl hl (by decide) rfl (fun ls hl => ?_)
    refine lv_iinc (v := (nI (i + 1))) (lv' := [(4, .int (nI (i + 1))), (3, .int 1), (5, .int (((f 0 (ix (9 + (nI i)))) + x2) - x2)), (0, .ref h), (1, .int x1), (2, .int x2)]) hx hb dX6_leavesNone_75 hl (k := 5) rfl (nI_1 i) (by decide) rfl (fun ls hl => ?_)
    refine lv_goto (tgt := 5) hx hb dX6_leavesNone_78 (by decide) ?_
    have hρ : kX6_leavesNone_5 x1 x2 (n + 1) i f v3 = kX6_leavesNone_5 x1 x2 n (i + 1) f 1 := (if_neg c_13).trans ((if_pos c_33).trans ((if_pos c_49).trans ((if_neg c_61).trans ((if_neg c_66)))))
    have hρ := hρ0.trans hρ
    exact ih  (i + 1) 1   (by omega) (by omega) (by first | exact Or.inl rfl | exact Or.inr rfl) (lv_sub hl [3, 4, 5, 1, 0] rfl) _ hρ
set_option maxHeartbeats 4000000 in
set_option maxRecDepth 100000 in
theorem okX6_leavesNone (l : Launch) (D : va_G) (cI cZ cQ : ClassId) (h : Nat) (a : Nat → Nat) (X : va_W) (f : Nat → Nat → Int32) (x1 x2 : Int32) (hok : okM f) : Met l yX6_leavesNone wsX6_leavesNone ({ frames := 1, cells := 0, slots := 0, locals := 21 }) (PR [.ref h, .int x1, .int x2] D (TY cI cZ cQ) (MW cI h a f ++ X)) (QR (kX6_leavesNone f x1 x2)) 0 0 (fun _ => False) := by
  refine m_rd (cc := cX6_leavesNone) (maxL := 6) (ret := (some .boolean)) (by decide) rfl (Nat.le_of_ble_eq_true rfl) (lv0 := [(0, .ref h), (1, .int x1), (2, .int x2)]) rfl ?_
  intro p e s m below meth c ls S hr hlk hP hK hl
  have S : CallFix p m c cX6_leavesNone 6 s ([.ref h, .int x1, .int x2] : List Value).toArray wsX6_leavesNone RX6 := S
  have hx := S.1
  have hb := S.2.1
  have hown : s.vm.findClass RX6 = some m.cls := S.2.2.2.1
  have hts := S.2.2.2.2
  have hinX6 : ∀ w ∈ wsX60, w ∈ wsX6_leavesNone := by decide +kernel
  refine lv_iconst (v := 1) hx hb dX6_leavesNone_0 (by decide) ?_
  refine lv_istore_n (lv' := [(3, .int 1), (0, .ref h), (1, .int x1), (2, .int x2)]) hx hb dX6_leavesNone_1 rfl hl (by decide) rfl (fun ls hl => ?_)
  refine lv_iconst (v := 0) hx hb dX6_leavesNone_2 (by decide) ?_
  refine lv_istore (lv' := [(4, .int 0), (3, .int 1), (0, .ref h), (1, .int x1), (2, .int x2)]) hx hb dX6_leavesNone_3 hl (by decide) rfl (fun ls hl => ?_)
  have hρ : kX6_leavesNone f x1 x2 = kX6_leavesNone_5 x1 x2 7 0 f 1 := rfl
  exact lpX6_leavesNone_5 l D cI cZ cQ h a X x1 x2 f S hr hlk hK hok hP 7 0 1   (by omega) (by omega) (Or.inr rfl) (lv_sub hl [2, 3, 4, 1, 0] rfl) _ hρ
theorem ndX6_byHowMuch : yX6_byHowMuch.cls = RX6 ∧ yX6_byHowMuch.cls ≠ "java/lang/invoke/MethodHandle" ∧ yX6_byHowMuch.cls ≠ "java/lang/invoke/VarHandle" ∧ (parseMethodDescriptor yX6_byHowMuch.desc).map (fun d => d.parameters.length) = some 1 := by decide +kernel
set_option maxHeartbeats 4000000 in
set_option maxRecDepth 100000 in
theorem lpX6_byHowMuch_44 {p : Program} {e : Env} {s : State} {m : MethodId} {below : List Frame} {meth : Method} {c : Code} (l : Launch) (D : va_G) (cI cZ cQ : ClassId) (h : Nat) (a : Nat → Nat) (X : va_W) (x1 : Int32) (f : Nat → Nat → Int32) (S : CallFix p m c cX6_byHowMuch 5 s ([.ref h, .int x1] : List Value).toArray wsX6_byHowMuch RX6) (hr : meth.sig.returnType = (some .int)) (hlk : meth.locks = false) (hK : va_K D vwCl (TY cI cZ cQ) s) (hok : okM f) (hP : va_P D vwCl (MW cI h a f ++ X) s.heap) : ∀ (n i : Nat) (v2 : Int32), i ≤ 20 → 20 - i < n → ∀ {ls : Array Slot}, lv_has ls 5 [(0, .ref h), (1, .int x1), (2, .int v2), (3, .int (nI i))] → ∀ ρ : Int32, ρ = kX6_byHowMuch_44 x1 n i f v2 → W p l e { frames := 2, cells := 0, slots := 0, locals := 46 } s m ([.ref h, .int x1] : List Value).toArray below meth c s.heap [] 0 0 (MQ below (QR ρ) ([.ref h, .int x1] : List Value).toArray s 0 0 (fun _ => False)) (F0 m 44 ls []) := by
  have hx := S.1
  have hb := S.2.1
  have hown : s.vm.findClass RX6 = some m.cls := S.2.2.2.1
  have hts := S.2.2.2.2
  intro n
  induction n with
  | zero =>
    intro i _ hi hn
    exact absurd hn (Nat.not_lt_zero _)
  | succ n ih =>
    intro i v2 hi hn  ls hl ρ hρ0
    refine lv_iload_n hx hb dX6_byHowMuch_44 rfl (lv_at hl 3 rfl) ?_
    refine lv_bipush (v := 20) hx hb dX6_byHowMuch_45 (by decide) ?_
    refine lv_icmp_ge (tgt := 91) hx hb dX6_byHowMuch_47 (by decide) (fun c_47 => ?_) (fun c_47 => ?_)
    · have c_47 : 20 ≤ (nI i) := c_47
      refine lv_iconst (v := 0) hx hb dX6_byHowMuch_91 (by decide) ?_
      have hρ : kX6_byHowMuch_44 x1 (n + 1) i f v2 = 0 := (if_pos c_47)
      have hρ := hρ0.trans hρ
      exact e_rd hx hb hr hlk dX6_byHowMuch_92 hρ.symm
    have c_47 : ¬ (20 ≤ (nI i)) := c_47
    have hlt : i < 20 := il_lt (Int32.le_refl _) (by decide) hi c_47
    refine lv_iload_n hx hb dX6_byHowMuch_50 rfl (lv_at hl 2 rfl) ?_
    refine lv_if_eq (tgt := 91) hx hb dX6_byHowMuch_51 (by decide) (fun c_51 => ?_) (fun c_51 => ?_)
    · have c_51 : v2 = 0 := c_51
      refine lv_iconst (v := 0) hx hb dX6_byHowMuch_91 (by decide) ?_
      have hρ : kX6_byHowMuch_44 x1 (n + 1) i f v2 = 0 := (if_neg c_47).trans ((if_pos c_51))
      have hρ := hρ0.trans hρ
      exact e_rd hx hb hr hlk dX6_byHowMuch_92 hρ.symm
    have c_51 : ¬ (v2 = 0) := c_51
    refine lv_iload_n hx hb dX6_byHowMuch_54 rfl (lv_at hl 3 rfl) ?_
    refine lv_iconst (v := 2) hx hb dX6_byHowMuch_55 (by decide) ?_
    refine lv_irem hx hb dX6_byHowMuch_56 (by decide) ?_
    refine lv_if_ne (tgt := 66) hx hb dX6_byHowMuch_57 (by decide) (fun c_57 => ?_) (fun c_57 => ?_)
    · have c_57 : ¬ ((remI (nI i) 2) = 0) := c_57
      refine lv_iload_n hx hb dX6_byHowMuch_66 rfl (lv_at hl 3 rfl) ?_
      refine lv_iconst (v := 2) hx hb dX6_byHowMuch_67 (by decide) ?_
      refine lv_idiv hx hb dX6_byHowMuch_68 (by decide) ?_
      refine lv_ineg hx hb dX6_byHowMuch_69 ?_
      refine lv_istore (lv' := [(4, .int (-((nI i) / 2))), (0, .ref h), (1, .int x1), (2, .int v2), (3, .int (nI i))]) hx hb dX6_byHowMuch_70 hl (by decide) rfl (fun ls hl => ?_)
      refine lv_aload_n hx hb dX6_byHowMuch_72 rfl (lv_at hl 1 rfl) ?_
      refine lv_iload_n hx hb dX6_byHowMuch_73 rfl (lv_at hl 2 rfl) ?_
      refine lv_iload hx hb dX6_byHowMuch_74 (lv_at hl 0 rfl) ?_
      refine k_rd (As := [.int x1, .int (-((nI i) / 2))]) (rest := []) (bytes := cX6_leavesNone) (C := RX6) S (okX6_leavesNone l D cI cZ cQ h a X f x1 (-((nI i) / 2)) (by assumption)) gX6_byHowMuch_X6_leavesNone rfl ⟨rfl, rfl⟩ ndX6_leavesNone ⟨Nat.le_of_ble_eq_true rfl, Nat.le_of_ble_eq_true rfl⟩ hK hP 0 rfl rfl rfl hl rfl (Nat.le_of_ble_eq_true rfl) dX6_byHowMuch_76 ⟨Nat.zero_le _, Nat.zero_le _⟩ ?_
      refine lv_if_eq (tgt := 85) hx hb dX6_byHowMuch_79 (by decide) (fun c_79 => ?_) (fun c_79 => ?_)
      · have c_79 : (kX6_leavesNone f x1 (-((nI i) / 2))) = 0 := c_79
        refine lv_iinc (v := (nI (i + 1))) (lv' := [(3, .int (nI (i + 1))), (4, .int (-((nI i) / 2))), (0, .ref h), (1, .int x1), (2, .int v2)]) hx hb dX6_byHowMuch_85 hl (k := 4) rfl (nI_1 i) (by decide) rfl (fun ls hl => ?_)
        refine lv_goto (tgt := 44) hx hb dX6_byHowMuch_88 (by decide) ?_
        have hρ : kX6_byHowMuch_44 x1 (n + 1) i f v2 = kX6_byHowMuch_44 x1 n (i + 1) f v2 := (if_neg c_47).trans ((if_neg c_51).trans ((if_neg c_57).trans ((if_pos c_79))))
        have hρ := hρ0.trans hρ
        exact ih  (i + 1) v2   (by omega) (by omega)  (lv_sub hl [2, 3, 4, 0] rfl) _ hρ
      have c_79 : ¬ ((kX6_leavesNone f x1 (-((nI i) / 2))) = 0) := c_79
      refine lv_iload hx hb dX6_byHowMuch_82 (lv_at hl 0 rfl) ?_
      have hρ : kX6_byHowMuch_44 x1 (n + 1) i f v2 = (-((nI i) / 2)) := (if_neg c_47).trans ((if_neg c_51).trans ((if_neg c_57).trans ((if_neg c_79))))
      have hρ := hρ0.trans hρ
      exact e_rd hx hb hr hlk dX6_byHowMuch_84 hρ.symm
    have c_57 : (remI (nI i) 2) = 0 := c_57
    refine lv_iload_n hx hb dX6_byHowMuch_60 rfl (lv_at hl 3 rfl) ?_
    refine lv_iconst (v := 2) hx hb dX6_byHowMuch_61 (by decide) ?_
    refine lv_idiv hx hb dX6_byHowMuch_62 (by decide) ?_
    refine lv_goto (tgt := 70) hx hb dX6_byHowMuch_63 (by decide) ?_
    refine lv_istore (lv' := [(4, .int ((nI i) / 2)), (0, .ref h), (1, .int x1), (2, .int v2), (3, .int (nI i))]) hx hb dX6_byHowMuch_70 hl (by decide) rfl (fun ls hl => ?_)
    refine lv_aload_n hx hb dX6_byHowMuch_72 rfl (lv_at hl 1 rfl) ?_
    refine lv_iload_n hx hb dX6_byHowMuch_73 rfl (lv_at hl 2 rfl) ?_
    refine lv_iload hx hb dX6_byHowMuch_74 (lv_at hl 0 rfl) ?_
    refine k_rd (As := [.int x1, .int ((nI i) / 2)]) (rest := []) (bytes := cX6_leavesNone) (C := RX6) S (okX6_leavesNone l D cI cZ cQ h a X f x1 ((nI i) / 2) (by assumption)) gX6_byHowMuch_X6_leavesNone rfl ⟨rfl, rfl⟩ ndX6_leavesNone ⟨Nat.le_of_ble_eq_true rfl, Nat.le_of_ble_eq_true rfl⟩ hK hP 0 rfl rfl rfl hl rfl (Nat.le_of_ble_eq_true rfl) dX6_byHowMuch_76 ⟨Nat.zero_le _, Nat.zero_le _⟩ ?_
    refine lv_if_eq (tgt := 85) hx hb dX6_byHowMuch_79 (by decide) (fun c_79 => ?_) (fun c_79 => ?_)
    · have c_79 : (kX6_leavesNone f x1 ((nI i) / 2)) = 0 := c_79
      refine lv_iinc (v := (nI (i + 1))) (lv' := [(3, .int (nI (i + 1))), (4, .int ((nI i) / 2)), (0, .ref h), (1, .int x1), (2, .int v2)]) hx hb dX6_byHowMuch_85 hl (k := 4) rfl (nI_1 i) (by decide) rfl (fun ls hl => ?_)
      refine lv_goto (tgt := 44) hx hb dX6_byHowMuch_88 (by decide) ?_
      have hρ : kX6_byHowMuch_44 x1 (n + 1) i f v2 = kX6_byHowMuch_44 x1 n (i + 1) f v2 := (if_neg c_47).trans ((if_neg c_51).trans ((if_pos c_57).trans ((if_pos c_79))))
      have hρ := hρ0.trans hρ
      exact ih  (i + 1) v2   (by omega) (by omega)  (lv_sub hl [2, 3, 4, 0] rfl) _ hρ
    have c_79 : ¬ ((kX6_leavesNone f x1 ((nI i) / 2)) = 0) := c_79
    refine lv_iload hx hb dX6_byHowMuch_82 (lv_at hl 0 rfl) ?_
    have hρ : kX6_byHowMuch_44 x1 (n + 1) i f v2 = ((nI i) / 2) := (if_neg c_47).trans ((if_neg c_51).trans ((if_pos c_57).trans ((if_neg c_79))))
    have hρ := hρ0.trans hρ
    exact e_rd hx hb hr hlk dX6_byHowMuch_84 hρ.symm
set_option maxHeartbeats 4000000 in
set_option maxRecDepth 100000 in
theorem lpX6_byHowMuch_4 {p : Program} {e : Env} {s : State} {m : MethodId} {below : List Frame} {meth : Method} {c : Code} (l : Launch) (D : va_G) (cI cZ cQ : ClassId) (h : Nat) (a : Nat → Nat) (X : va_W) (x1 : Int32) (f : Nat → Nat → Int32) (S : CallFix p m c cX6_byHowMuch 5 s ([.ref h, .int x1] : List Value).toArray wsX6_byHowMuch RX6) (hr : meth.sig.returnType = (some .int)) (hlk : meth.locks = false) (hK : va_K D vwCl (TY cI cZ cQ) s) (hok : okM f) (hP : va_P D vwCl (MW cI h a f ++ X) s.heap) : ∀ (n i : Nat) (v2 : Int32), i ≤ 6 → 6 - i < n → ∀ {ls : Array Slot}, lv_has ls 5 [(0, .ref h), (1, .int x1), (2, .int v2), (3, .int (nI i))] → ∀ ρ : Int32, ρ = kX6_byHowMuch_4 x1 n i f v2 → W p l e { frames := 2, cells := 0, slots := 0, locals := 46 } s m ([.ref h, .int x1] : List Value).toArray below meth c s.heap [] 0 0 (MQ below (QR ρ) ([.ref h, .int x1] : List Value).toArray s 0 0 (fun _ => False)) (F0 m 4 ls []) := by
  have hx := S.1
  have hb := S.2.1
  have hown : s.vm.findClass RX6 = some m.cls := S.2.2.2.1
  have hts := S.2.2.2.2
  have hinX6 : ∀ w ∈ wsX60, w ∈ wsX6_byHowMuch := by decide +kernel
  intro n
  induction n with
  | zero =>
    intro i _ hi hn
    exact absurd hn (Nat.not_lt_zero _)
  | succ n ih =>
    intro i v2 hi hn  ls hl ρ hρ0
    refine lv_iload_n hx hb dX6_byHowMuch_4 rfl (lv_at hl 3 rfl) ?_
    refine lv_aload_n hx hb dX6_byHowMuch_5 rfl (lv_at hl 0 rfl) ?_
    refine va_get (v := .ref (a 0)) (C := RX6) (T := TX6) (N := 6) (ci := 6) hx hb hts hinX6 hown hK hP 0 rfl rfl 0 (by decide) (hts (.fieldLink RX6 7 "AxleKeeperModel" "w" "[I") (by decide +kernel)) (fun _ h9 => h9) rfl dX6_byHowMuch_6 ?_
    refine lv_iconst (v := 0) hx hb dX6_byHowMuch_9 (by decide) ?_
    refine va_iald hx hb hK hP 1 0 rfl rfl (n := 1680) (vin_c (by decide)) dX6_byHowMuch_10 ?_
    refine lv_icmp_ge (tgt := 42) hx hb dX6_byHowMuch_11 (by decide) (fun c_11 => ?_) (fun c_11 => ?_)
    · have c_11 : (f 0 (ix 0)) ≤ (nI i) := c_11
      refine lv_iconst (v := 2) hx hb dX6_byHowMuch_42 (by decide) ?_
      refine lv_istore_n (lv' := [(3, .int 2), (0, .ref h), (1, .int x1), (2, .int v2)]) hx hb dX6_byHowMuch_43 rfl hl (by decide) rfl (fun ls hl => ?_)
      have hρ : kX6_byHowMuch_4 x1 (n + 1) i f v2 = kX6_byHowMuch_44 x1 20 2 f v2 := (if_pos c_11)
      have hρ := hρ0.trans hρ
      exact lpX6_byHowMuch_44 l D cI cZ cQ h a X x1 f S hr hlk hK hok hP 20 2 v2   (by omega) (by omega)  (lv_sub hl [1, 2, 3, 0] rfl) _ hρ
    have c_11 : ¬ ((f 0 (ix 0)) ≤ (nI i)) := c_11
    have hlt : i < 6 := il_lt hok.2 (by decide) hi c_11
    have hvi : vp_in (nI i) 6 := vp_in_nI hlt (by decide)
    refine lv_iload_n hx hb dX6_byHowMuch_14 rfl (lv_at hl 2 rfl) ?_
    refine lv_if_ne (tgt := 30) hx hb dX6_byHowMuch_15 (by decide) (fun c_15 => ?_) (fun c_15 => ?_)
    · have c_15 : ¬ (v2 = 0) := c_15
      refine lv_iconst (v := 1) hx hb dX6_byHowMuch_30 (by decide) ?_
      refine lv_goto (tgt := 35) hx hb dX6_byHowMuch_31 (by decide) ?_
      refine lv_istore_n (lv' := [(2, .int 1), (0, .ref h), (1, .int x1), (3, .int (nI i))]) hx hb dX6_byHowMuch_35 rfl hl (by decide) rfl (fun ls hl => ?_)
      refine lv_iinc (v := (nI (i + 1))) (lv' := [(3, .int (nI (i + 1))), (2, .int 1), (0, .ref h), (1, .int x1)]) hx hb dX6_byHowMuch_36 hl (k := 3) rfl (nI_1 i) (by decide) rfl (fun ls hl => ?_)
      refine lv_goto (tgt := 4) hx hb dX6_byHowMuch_39 (by decide) ?_
      have hρ : kX6_byHowMuch_4 x1 (n + 1) i f v2 = kX6_byHowMuch_4 x1 n (i + 1) f 1 := (if_neg c_11).trans ((if_neg c_15))
      have hρ := hρ0.trans hρ
      exact ih  (i + 1) 1   (by omega) (by omega)  (lv_sub hl [2, 3, 1, 0] rfl) _ hρ
    have c_15 : v2 = 0 := c_15
    refine lv_aload_n hx hb dX6_byHowMuch_18 rfl (lv_at hl 0 rfl) ?_
    refine va_get (v := .ref (a 0)) (C := RX6) (T := TX6) (N := 6) (ci := 6) hx hb hts hinX6 hown hK hP 0 rfl rfl 0 (by decide) (hts (.fieldLink RX6 7 "AxleKeeperModel" "w" "[I") (by decide +kernel)) (fun _ h9 => h9) rfl dX6_byHowMuch_19 ?_
    refine lv_bipush (v := 9) hx hb dX6_byHowMuch_22 (by decide) ?_
    refine lv_iload_n hx hb dX6_byHowMuch_24 rfl (lv_at hl 3 rfl) ?_
    refine lv_iadd hx hb dX6_byHowMuch_25 ?_
    refine va_iald hx hb hK hP 1 0 rfl rfl (n := 1680) (vin2 (by assumption) (by decide)) dX6_byHowMuch_26 ?_
    refine lv_if_ge (tgt := 34) hx hb dX6_byHowMuch_27 (by decide) (fun c_27 => ?_) (fun c_27 => ?_)
    · have c_27 : 0 ≤ (f 0 (ix (9 + (nI i)))) := c_27
      refine lv_iconst (v := 0) hx hb dX6_byHowMuch_34 (by decide) ?_
      refine lv_istore_n (lv' := [(2, .int 0), (0, .ref h), (1, .int x1), (3, .int (nI i))]) hx hb dX6_byHowMuch_35 rfl hl (by decide) rfl (fun ls hl => ?_)
      refine lv_iinc (v := (nI (i + 1))) (lv' := [(3, .int (nI (i + 1))), (2, .int 0), (0, .ref h), (1, .int x1)]) hx hb dX6_byHowMuch_36 hl (k := 3) rfl (nI_1 i) (by decide) rfl (fun ls hl => ?_)
      refine lv_goto (tgt := 4) hx hb dX6_byHowMuch_39 (by decide) ?_
      have hρ : kX6_byHowMuch_4 x1 (n + 1) i f v2 = kX6_byHowMuch_4 x1 n (i + 1) f 0 := (if_neg c_11).trans ((if_pos c_15).trans ((if_pos c_27)))
      have hρ := hρ0.trans hρ
      exact ih  (i + 1) 0   (by omega) (by omega)  (lv_sub hl [2, 3, 1, 0] rfl) _ hρ
    have c_27 : ¬ (0 ≤ (f 0 (ix (9 + (nI i))))) := c_27
    refine lv_iconst (v := 1) hx hb dX6_byHowMuch_30 (by decide) ?_
    refine lv_goto (tgt := 35) hx hb dX6_byHowMuch_31 (by decide) ?_
    refine lv_istore_n (lv' := [(2, .int 1), (0, .ref h), (1, .int x1), (3, .int (nI i))]) hx hb dX6_byHowMuch_35 rfl hl (by decide) rfl (fun ls hl => ?_)
    refine lv_iinc (v := (nI (i + 1))) (lv' := [(3, .int (nI (i + 1))), (2, .int 1), (0, .ref h), (1, .int x1)]) hx hb dX6_byHowMuch_36 hl (k := 3) rfl (nI_1 i) (by decide) rfl (fun ls hl => ?_)
    refine lv_goto (tgt := 4) hx hb dX6_byHowMuch_39 (by decide) ?_
    have hρ : kX6_byHowMuch_4 x1 (n + 1) i f v2 = kX6_byHowMuch_4 x1 n (i + 1) f 1 := (if_neg c_11).trans ((if_pos c_15).trans ((if_neg c_27)))
    have hρ := hρ0.trans hρ
    exact ih  (i + 1) 1   (by omega) (by omega)  (lv_sub hl [2, 3, 1, 0] rfl) _ hρ
set_option maxHeartbeats 4000000 in
set_option maxRecDepth 100000 in
theorem okX6_byHowMuch (l : Launch) (D : va_G) (cI cZ cQ : ClassId) (h : Nat) (a : Nat → Nat) (X : va_W) (f : Nat → Nat → Int32) (x1 : Int32) (hok : okM f) : Met l yX6_byHowMuch wsX6_byHowMuch ({ frames := 2, cells := 0, slots := 0, locals := 46 }) (PR [.ref h, .int x1] D (TY cI cZ cQ) (MW cI h a f ++ X)) (QR (kX6_byHowMuch f x1)) 0 0 (fun _ => False) := by
  refine m_rd (cc := cX6_byHowMuch) (maxL := 5) (ret := (some .int)) (by decide) rfl (Nat.le_of_ble_eq_true rfl) (lv0 := [(0, .ref h), (1, .int x1)]) rfl ?_
  intro p e s m below meth c ls S hr hlk hP hK hl
  have S : CallFix p m c cX6_byHowMuch 5 s ([.ref h, .int x1] : List Value).toArray wsX6_byHowMuch RX6 := S
  have hx := S.1
  have hb := S.2.1
  have hown : s.vm.findClass RX6 = some m.cls := S.2.2.2.1
  have hts := S.2.2.2.2
  have hinX6 : ∀ w ∈ wsX60, w ∈ wsX6_byHowMuch := by decide +kernel
  refine lv_iconst (v := 0) hx hb dX6_byHowMuch_0 (by decide) ?_
  refine lv_istore_n (lv' := [(2, .int 0), (0, .ref h), (1, .int x1)]) hx hb dX6_byHowMuch_1 rfl hl (by decide) rfl (fun ls hl => ?_)
  refine lv_iconst (v := 0) hx hb dX6_byHowMuch_2 (by decide) ?_
  refine lv_istore_n (lv' := [(3, .int 0), (2, .int 0), (0, .ref h), (1, .int x1)]) hx hb dX6_byHowMuch_3 rfl hl (by decide) rfl (fun ls hl => ?_)
  have hρ : kX6_byHowMuch f x1 = kX6_byHowMuch_4 x1 7 0 f 0 := rfl
  exact lpX6_byHowMuch_4 l D cI cZ cQ h a X x1 f S hr hlk hK hok hP 7 0 0   (by omega) (by omega)  (lv_sub hl [2, 3, 1, 0] rfl) _ hρ
theorem ndX6_setOf : yX6_setOf.cls = RX6 ∧ yX6_setOf.cls ≠ "java/lang/invoke/MethodHandle" ∧ yX6_setOf.cls ≠ "java/lang/invoke/VarHandle" ∧ (parseMethodDescriptor yX6_setOf.desc).map (fun d => d.parameters.length) = some 1 := by decide +kernel
set_option maxHeartbeats 4000000 in
set_option maxRecDepth 100000 in
theorem lpX6_setOf_4 {p : Program} {e : Env} {s : State} {m : MethodId} {below : List Frame} {meth : Method} {c : Code} (l : Launch) (D : va_G) (cI cZ cQ : ClassId) (h : Nat) (a : Nat → Nat) (X : va_W) (x1 : Int32) (f : Nat → Nat → Int32) (S : CallFix p m c cX6_setOf 6 s ([.ref h, .int x1] : List Value).toArray wsX6_setOf RX6) (hr : meth.sig.returnType = (some .int)) (hlk : meth.locks = false) (hK : va_K D vwCl (TY cI cZ cQ) s) (hok : okM f) (hP : va_P D vwCl (MW cI h a f ++ X) s.heap) : ∀ (n i : Nat) (v2 : Int32), i ≤ 6 → 6 - i < n → ∀ {ls : Array Slot}, lv_has ls 6 [(0, .ref h), (1, .int x1), (2, .int v2), (3, .int (nI i))] → ∀ ρ : Int32, ρ = kX6_setOf_4 x1 n i f v2 → W p l e { frames := 0, cells := 0, slots := 0, locals := 0 } s m ([.ref h, .int x1] : List Value).toArray below meth c s.heap [] 0 0 (MQ below (QR ρ) ([.ref h, .int x1] : List Value).toArray s 0 0 (fun _ => False)) (F0 m 4 ls []) := by
  have hx := S.1
  have hb := S.2.1
  have hown : s.vm.findClass RX6 = some m.cls := S.2.2.2.1
  have hts := S.2.2.2.2
  have hinX6 : ∀ w ∈ wsX60, w ∈ wsX6_setOf := by decide +kernel
  intro n
  induction n with
  | zero =>
    intro i _ hi hn
    exact absurd hn (Nat.not_lt_zero _)
  | succ n ih =>
    intro i v2 hi hn  ls hl ρ hρ0
    refine lv_iload_n hx hb dX6_setOf_4 rfl (lv_at hl 3 rfl) ?_
    refine lv_aload_n hx hb dX6_setOf_5 rfl (lv_at hl 0 rfl) ?_
    refine va_get (v := .ref (a 0)) (C := RX6) (T := TX6) (N := 6) (ci := 6) hx hb hts hinX6 hown hK hP 0 rfl rfl 0 (by decide) (hts (.fieldLink RX6 7 "AxleKeeperModel" "w" "[I") (by decide +kernel)) (fun _ h9 => h9) rfl dX6_setOf_6 ?_
    refine lv_iconst (v := 0) hx hb dX6_setOf_9 (by decide) ?_
    refine va_iald hx hb hK hP 1 0 rfl rfl (n := 1680) (vin_c (by decide)) dX6_setOf_10 ?_
    refine lv_icmp_ge (tgt := 108) hx hb dX6_setOf_11 (by decide) (fun c_11 => ?_) (fun c_11 => ?_)
    · have c_11 : (f 0 (ix 0)) ≤ (nI i) := c_11
      refine lv_iload_n hx hb dX6_setOf_108 rfl (lv_at hl 2 rfl) ?_
      have hρ : kX6_setOf_4 x1 (n + 1) i f v2 = v2 := (if_pos c_11)
      have hρ := hρ0.trans hρ
      exact e_rd hx hb hr hlk dX6_setOf_109 hρ.symm
    have c_11 : ¬ ((f 0 (ix 0)) ≤ (nI i)) := c_11
    have hlt : i < 6 := il_lt hok.2 (by decide) hi c_11
    have hvi : vp_in (nI i) 6 := vp_in_nI hlt (by decide)
    refine lv_aload_n hx hb dX6_setOf_14 rfl (lv_at hl 0 rfl) ?_
    refine va_get (v := .ref (a 0)) (C := RX6) (T := TX6) (N := 6) (ci := 6) hx hb hts hinX6 hown hK hP 0 rfl rfl 0 (by decide) (hts (.fieldLink RX6 7 "AxleKeeperModel" "w" "[I") (by decide +kernel)) (fun _ h9 => h9) rfl dX6_setOf_15 ?_
    refine lv_iconst (v := 3) hx hb dX6_setOf_18 (by decide) ?_
    refine lv_iload_n hx hb dX6_setOf_19 rfl (lv_at hl 3 rfl) ?_
    refine lv_iadd hx hb dX6_setOf_20 ?_
    refine va_iald hx hb hK hP 1 0 rfl rfl (n := 1680) (vin2 (by assumption) (by decide)) dX6_setOf_21 ?_
    refine lv_if_ne (tgt := 29) hx hb dX6_setOf_22 (by decide) (fun c_22 => ?_) (fun c_22 => ?_)
    · have c_22 : ¬ ((f 0 (ix (3 + (nI i)))) = 0) := c_22
      refine lv_iconst (v := 0) hx hb dX6_setOf_29 (by decide) ?_
      refine lv_istore (lv' := [(4, .int 0), (0, .ref h), (1, .int x1), (2, .int v2), (3, .int (nI i))]) hx hb dX6_setOf_30 hl (by decide) rfl (fun ls hl => ?_)
      refine lv_iload_n hx hb dX6_setOf_32 rfl (lv_at hl 2 rfl) ?_
      refine lv_bipush (v := 8) hx hb dX6_setOf_33 (by decide) ?_
      refine lv_icmp_ne (tgt := 63) hx hb dX6_setOf_35 (by decide) (fun c_35 => ?_) (fun c_35 => ?_)
      · have c_35 : ¬ (x1 = 8) := c_35
        refine lv_iload hx hb dX6_setOf_63 (lv_at hl 0 rfl) ?_
        refine lv_if_ne (tgt := 84) hx hb dX6_setOf_65 (by decide) (fun c_65 => absurd (by decide) c_65) (fun c_65 => ?_)
        refine lv_aload_n hx hb dX6_setOf_68 rfl (lv_at hl 1 rfl) ?_
        refine va_get (v := .ref (a 0)) (C := RX6) (T := TX6) (N := 6) (ci := 6) hx hb hts hinX6 hown hK hP 0 rfl rfl 0 (by decide) (hts (.fieldLink RX6 7 "AxleKeeperModel" "w" "[I") (by decide +kernel)) (fun _ h9 => h9) rfl dX6_setOf_69 ?_
        refine lv_bipush (v := 15) hx hb dX6_setOf_72 (by decide) ?_
        refine lv_iload_n hx hb dX6_setOf_74 rfl (lv_at hl 4 rfl) ?_
        refine lv_iadd hx hb dX6_setOf_75 ?_
        refine va_iald hx hb hK hP 1 0 rfl rfl (n := 1680) (vin2 (by assumption) (by decide)) dX6_setOf_76 ?_
        refine lv_if_ne (tgt := 84) hx hb dX6_setOf_77 (by decide) (fun c_77 => ?_) (fun c_77 => ?_)
        · have c_77 : ¬ ((f 0 (ix (15 + (nI i)))) = 0) := c_77
          refine lv_iconst (v := 0) hx hb dX6_setOf_84 (by decide) ?_
          refine lv_istore (lv' := [(5, .int 0), (4, .int 0), (0, .ref h), (1, .int x1), (2, .int v2), (3, .int (nI i))]) hx hb dX6_setOf_85 hl (by decide) rfl (fun ls hl => ?_)
          refine lv_iload_n hx hb dX6_setOf_87 rfl (lv_at hl 4 rfl) ?_
          refine lv_iload hx hb dX6_setOf_88 (lv_at hl 0 rfl) ?_
          refine lv_if_eq (tgt := 99) hx hb dX6_setOf_90 (by decide) (fun c_90 => ?_) (fun c_90 => absurd (by decide) c_90)
          refine lv_iconst (v := 0) hx hb dX6_setOf_99 (by decide) ?_
          refine lv_ior hx hb dX6_setOf_100 ?_
          refine lv_istore_n (lv' := [(2, .int (v2 ||| 0)), (5, .int 0), (4, .int 0), (0, .ref h), (1, .int x1), (3, .int (nI i))]) hx hb dX6_setOf_101 rfl hl (by decide) rfl (fun ls hl => ?_)
          refine lv_iinc (v := (nI (i + 1))) (lv' := [(3, .int (nI (i + 1))), (2, .int (v2 ||| 0)), (5, .int 0), (4, .int 0), (0, .ref h), (1, .int x1)]) hx hb dX6_setOf_102 hl (k := 5) rfl (nI_1 i) (by decide) rfl (fun ls hl => ?_)
          refine lv_goto (tgt := 4) hx hb dX6_setOf_105 (by decide) ?_
          have hρ : kX6_setOf_4 x1 (n + 1) i f v2 = kX6_setOf_4 x1 n (i + 1) f (v2 ||| 0) := (if_neg c_11).trans ((if_neg c_22).trans ((if_neg c_35).trans ((if_neg c_77))))
          have hρ := hρ0.trans hρ
          exact ih  (i + 1) (v2 ||| 0)   (by omega) (by omega)  (lv_sub hl [4, 5, 1, 0] rfl) _ hρ
        have c_77 : (f 0 (ix (15 + (nI i)))) = 0 := c_77
        refine lv_iconst (v := 1) hx hb dX6_setOf_80 (by decide) ?_
        refine lv_goto (tgt := 85) hx hb dX6_setOf_81 (by decide) ?_
        refine lv_istore (lv' := [(5, .int 1), (4, .int 0), (0, .ref h), (1, .int x1), (2, .int v2), (3, .int (nI i))]) hx hb dX6_setOf_85 hl (by decide) rfl (fun ls hl => ?_)
        refine lv_iload_n hx hb dX6_setOf_87 rfl (lv_at hl 4 rfl) ?_
        refine lv_iload hx hb dX6_setOf_88 (lv_at hl 0 rfl) ?_
        refine lv_if_eq (tgt := 99) hx hb dX6_setOf_90 (by decide) (fun c_90 => absurd c_90 (by decide)) (fun c_90 => ?_)
        refine lv_iconst (v := 1) hx hb dX6_setOf_93 (by decide) ?_
        refine lv_iload_n hx hb dX6_setOf_94 rfl (lv_at hl 5 rfl) ?_
        refine lv_ishl hx hb dX6_setOf_95 ?_
        refine lv_goto (tgt := 100) hx hb dX6_setOf_96 (by decide) ?_
        refine lv_ior hx hb dX6_setOf_100 ?_
        refine lv_istore_n (lv' := [(2, .int (v2 ||| ((1 : Int32) <<< ((nI i) &&& 31)))), (5, .int 1), (4, .int 0), (0, .ref h), (1, .int x1), (3, .int (nI i))]) hx hb dX6_setOf_101 rfl hl (by decide) rfl (fun ls hl => ?_)
        refine lv_iinc (v := (nI (i + 1))) (lv' := [(3, .int (nI (i + 1))), (2, .int (v2 ||| ((1 : Int32) <<< ((nI i) &&& 31)))), (5, .int 1), (4, .int 0), (0, .ref h), (1, .int x1)]) hx hb dX6_setOf_102 hl (k := 5) rfl (nI_1 i) (by decide) rfl (fun ls hl => ?_)
        refine lv_goto (tgt := 4) hx hb dX6_setOf_105 (by decide) ?_
        have hρ : kX6_setOf_4 x1 (n + 1) i f v2 = kX6_setOf_4 x1 n (i + 1) f (v2 ||| ((1 : Int32) <<< ((nI i) &&& 31))) := (if_neg c_11).trans ((if_neg c_22).trans ((if_neg c_35).trans ((if_pos c_77))))
        have hρ := hρ0.trans hρ
        exact ih  (i + 1) (v2 ||| ((1 : Int32) <<< ((nI i) &&& 31)))   (by omega) (by omega)  (lv_sub hl [4, 5, 1, 0] rfl) _ hρ
      have c_35 : x1 = 8 := c_35
      refine lv_iload hx hb dX6_setOf_38 (lv_at hl 0 rfl) ?_
      refine lv_if_eq (tgt := 59) hx hb dX6_setOf_40 (by decide) (fun c_40 => ?_) (fun c_40 => absurd (by decide) c_40)
      refine lv_iconst (v := 0) hx hb dX6_setOf_59 (by decide) ?_
      refine lv_goto (tgt := 85) hx hb dX6_setOf_60 (by decide) ?_
      refine lv_istore (lv' := [(5, .int 0), (4, .int 0), (0, .ref h), (1, .int x1), (2, .int v2), (3, .int (nI i))]) hx hb dX6_setOf_85 hl (by decide) rfl (fun ls hl => ?_)
      refine lv_iload_n hx hb dX6_setOf_87 rfl (lv_at hl 4 rfl) ?_
      refine lv_iload hx hb dX6_setOf_88 (lv_at hl 0 rfl) ?_
      refine lv_if_eq (tgt := 99) hx hb dX6_setOf_90 (by decide) (fun c_90 => ?_) (fun c_90 => absurd (by decide) c_90)
      refine lv_iconst (v := 0) hx hb dX6_setOf_99 (by decide) ?_
      refine lv_ior hx hb dX6_setOf_100 ?_
      refine lv_istore_n (lv' := [(2, .int (v2 ||| 0)), (5, .int 0), (4, .int 0), (0, .ref h), (1, .int x1), (3, .int (nI i))]) hx hb dX6_setOf_101 rfl hl (by decide) rfl (fun ls hl => ?_)
      refine lv_iinc (v := (nI (i + 1))) (lv' := [(3, .int (nI (i + 1))), (2, .int (v2 ||| 0)), (5, .int 0), (4, .int 0), (0, .ref h), (1, .int x1)]) hx hb dX6_setOf_102 hl (k := 5) rfl (nI_1 i) (by decide) rfl (fun ls hl => ?_)
      refine lv_goto (tgt := 4) hx hb dX6_setOf_105 (by decide) ?_
      have hρ : kX6_setOf_4 x1 (n + 1) i f v2 = kX6_setOf_4 x1 n (i + 1) f (v2 ||| 0) := (if_neg c_11).trans ((if_neg c_22).trans ((if_pos c_35)))
      have hρ := hρ0.trans hρ
      exact ih  (i + 1) (v2 ||| 0)   (by omega) (by omega)  (lv_sub hl [4, 5, 1, 0] rfl) _ hρ
    have c_22 : (f 0 (ix (3 + (nI i)))) = 0 := c_22
    refine lv_iconst (v := 1) hx hb dX6_setOf_25 (by decide) ?_
    refine lv_goto (tgt := 30) hx hb dX6_setOf_26 (by decide) ?_
    refine lv_istore (lv' := [(4, .int 1), (0, .ref h), (1, .int x1), (2, .int v2), (3, .int (nI i))]) hx hb dX6_setOf_30 hl (by decide) rfl (fun ls hl => ?_)
    refine lv_iload_n hx hb dX6_setOf_32 rfl (lv_at hl 2 rfl) ?_
    refine lv_bipush (v := 8) hx hb dX6_setOf_33 (by decide) ?_
    refine lv_icmp_ne (tgt := 63) hx hb dX6_setOf_35 (by decide) (fun c_35 => ?_) (fun c_35 => ?_)
    · have c_35 : ¬ (x1 = 8) := c_35
      refine lv_iload hx hb dX6_setOf_63 (lv_at hl 0 rfl) ?_
      refine lv_if_ne (tgt := 84) hx hb dX6_setOf_65 (by decide) (fun c_65 => ?_) (fun c_65 => absurd c_65 (by decide))
      refine lv_iconst (v := 0) hx hb dX6_setOf_84 (by decide) ?_
      refine lv_istore (lv' := [(5, .int 0), (4, .int 1), (0, .ref h), (1, .int x1), (2, .int v2), (3, .int (nI i))]) hx hb dX6_setOf_85 hl (by decide) rfl (fun ls hl => ?_)
      refine lv_iload_n hx hb dX6_setOf_87 rfl (lv_at hl 4 rfl) ?_
      refine lv_iload hx hb dX6_setOf_88 (lv_at hl 0 rfl) ?_
      refine lv_if_eq (tgt := 99) hx hb dX6_setOf_90 (by decide) (fun c_90 => ?_) (fun c_90 => absurd (by decide) c_90)
      refine lv_iconst (v := 0) hx hb dX6_setOf_99 (by decide) ?_
      refine lv_ior hx hb dX6_setOf_100 ?_
      refine lv_istore_n (lv' := [(2, .int (v2 ||| 0)), (5, .int 0), (4, .int 1), (0, .ref h), (1, .int x1), (3, .int (nI i))]) hx hb dX6_setOf_101 rfl hl (by decide) rfl (fun ls hl => ?_)
      refine lv_iinc (v := (nI (i + 1))) (lv' := [(3, .int (nI (i + 1))), (2, .int (v2 ||| 0)), (5, .int 0), (4, .int 1), (0, .ref h), (1, .int x1)]) hx hb dX6_setOf_102 hl (k := 5) rfl (nI_1 i) (by decide) rfl (fun ls hl => ?_)
      refine lv_goto (tgt := 4) hx hb dX6_setOf_105 (by decide) ?_
      have hρ : kX6_setOf_4 x1 (n + 1) i f v2 = kX6_setOf_4 x1 n (i + 1) f (v2 ||| 0) := (if_neg c_11).trans ((if_pos c_22).trans ((if_neg c_35)))
      have hρ := hρ0.trans hρ
      exact ih  (i + 1) (v2 ||| 0)   (by omega) (by omega)  (lv_sub hl [4, 5, 1, 0] rfl) _ hρ
    have c_35 : x1 = 8 := c_35
    refine lv_iload hx hb dX6_setOf_38 (lv_at hl 0 rfl) ?_
    refine lv_if_eq (tgt := 59) hx hb dX6_setOf_40 (by decide) (fun c_40 => absurd c_40 (by decide)) (fun c_40 => ?_)
    refine lv_aload_n hx hb dX6_setOf_43 rfl (lv_at hl 1 rfl) ?_
    refine va_get (v := .ref (a 0)) (C := RX6) (T := TX6) (N := 6) (ci := 6) hx hb hts hinX6 hown hK hP 0 rfl rfl 0 (by decide) (hts (.fieldLink RX6 7 "AxleKeeperModel" "w" "[I") (by decide +kernel)) (fun _ h9 => h9) rfl dX6_setOf_44 ?_
    refine lv_bipush (v := 15) hx hb dX6_setOf_47 (by decide) ?_
    refine lv_iload_n hx hb dX6_setOf_49 rfl (lv_at hl 4 rfl) ?_
    refine lv_iadd hx hb dX6_setOf_50 ?_
    refine va_iald hx hb hK hP 1 0 rfl rfl (n := 1680) (vin2 (by assumption) (by decide)) dX6_setOf_51 ?_
    refine lv_if_le (tgt := 59) hx hb dX6_setOf_52 (by decide) (fun c_52 => ?_) (fun c_52 => ?_)
    · have c_52 : (f 0 (ix (15 + (nI i)))) ≤ 0 := c_52
      refine lv_iconst (v := 0) hx hb dX6_setOf_59 (by decide) ?_
      refine lv_goto (tgt := 85) hx hb dX6_setOf_60 (by decide) ?_
      refine lv_istore (lv' := [(5, .int 0), (4, .int 1), (0, .ref h), (1, .int x1), (2, .int v2), (3, .int (nI i))]) hx hb dX6_setOf_85 hl (by decide) rfl (fun ls hl => ?_)
      refine lv_iload_n hx hb dX6_setOf_87 rfl (lv_at hl 4 rfl) ?_
      refine lv_iload hx hb dX6_setOf_88 (lv_at hl 0 rfl) ?_
      refine lv_if_eq (tgt := 99) hx hb dX6_setOf_90 (by decide) (fun c_90 => ?_) (fun c_90 => absurd (by decide) c_90)
      refine lv_iconst (v := 0) hx hb dX6_setOf_99 (by decide) ?_
      refine lv_ior hx hb dX6_setOf_100 ?_
      refine lv_istore_n (lv' := [(2, .int (v2 ||| 0)), (5, .int 0), (4, .int 1), (0, .ref h), (1, .int x1), (3, .int (nI i))]) hx hb dX6_setOf_101 rfl hl (by decide) rfl (fun ls hl => ?_)
      refine lv_iinc (v := (nI (i + 1))) (lv' := [(3, .int (nI (i + 1))), (2, .int (v2 ||| 0)), (5, .int 0), (4, .int 1), (0, .ref h), (1, .int x1)]) hx hb dX6_setOf_102 hl (k := 5) rfl (nI_1 i) (by decide) rfl (fun ls hl => ?_)
      refine lv_goto (tgt := 4) hx hb dX6_setOf_105 (by decide) ?_
      have hρ : kX6_setOf_4 x1 (n + 1) i f v2 = kX6_setOf_4 x1 n (i + 1) f (v2 ||| 0) := (if_neg c_11).trans ((if_pos c_22).trans ((if_pos c_35).trans ((if_pos c_52))))
      have hρ := hρ0.trans hρ
      exact ih  (i + 1) (v2 ||| 0)   (by omega) (by omega)  (lv_sub hl [4, 5, 1, 0] rfl) _ hρ
    have c_52 : ¬ ((f 0 (ix (15 + (nI i)))) ≤ 0) := c_52
    refine lv_iconst (v := 1) hx hb dX6_setOf_55 (by decide) ?_
    refine lv_goto (tgt := 85) hx hb dX6_setOf_56 (by decide) ?_
    refine lv_istore (lv' := [(5, .int 1), (4, .int 1), (0, .ref h), (1, .int x1), (2, .int v2), (3, .int (nI i))]) hx hb dX6_setOf_85 hl (by decide) rfl (fun ls hl => ?_)
    refine lv_iload_n hx hb dX6_setOf_87 rfl (lv_at hl 4 rfl) ?_
    refine lv_iload hx hb dX6_setOf_88 (lv_at hl 0 rfl) ?_
    refine lv_if_eq (tgt := 99) hx hb dX6_setOf_90 (by decide) (fun c_90 => absurd c_90 (by decide)) (fun c_90 => ?_)
    refine lv_iconst (v := 1) hx hb dX6_setOf_93 (by decide) ?_
    refine lv_iload_n hx hb dX6_setOf_94 rfl (lv_at hl 5 rfl) ?_
    refine lv_ishl hx hb dX6_setOf_95 ?_
    refine lv_goto (tgt := 100) hx hb dX6_setOf_96 (by decide) ?_
    refine lv_ior hx hb dX6_setOf_100 ?_
    refine lv_istore_n (lv' := [(2, .int (v2 ||| ((1 : Int32) <<< ((nI i) &&& 31)))), (5, .int 1), (4, .int 1), (0, .ref h), (1, .int x1), (3, .int (nI i))]) hx hb dX6_setOf_101 rfl hl (by decide) rfl (fun ls hl => ?_)
    refine lv_iinc (v := (nI (i + 1))) (lv' := [(3, .int (nI (i + 1))), (2, .int (v2 ||| ((1 : Int32) <<< ((nI i) &&& 31)))), (5, .int 1), (4, .int 1), (0, .ref h), (1, .int x1)]) hx hb dX6_setOf_102 hl (k := 5) rfl (nI_1 i) (by decide) rfl (fun ls hl => ?_)
    refine lv_goto (tgt := 4) hx hb dX6_setOf_105 (by decide) ?_
    have hρ : kX6_setOf_4 x1 (n + 1) i f v2 = kX6_setOf_4 x1 n (i + 1) f (v2 ||| ((1 : Int32) <<< ((nI i) &&& 31))) := (if_neg c_11).trans ((if_pos c_22).trans ((if_pos c_35).trans ((if_neg c_52))))
    have hρ := hρ0.trans hρ
    exact ih  (i + 1) (v2 ||| ((1 : Int32) <<< ((nI i) &&& 31)))   (by omega) (by omega)  (lv_sub hl [4, 5, 1, 0] rfl) _ hρ
set_option maxHeartbeats 4000000 in
set_option maxRecDepth 100000 in
theorem okX6_setOf (l : Launch) (D : va_G) (cI cZ cQ : ClassId) (h : Nat) (a : Nat → Nat) (X : va_W) (f : Nat → Nat → Int32) (x1 : Int32) (hok : okM f) : Met l yX6_setOf wsX6_setOf ({ frames := 0, cells := 0, slots := 0, locals := 0 }) (PR [.ref h, .int x1] D (TY cI cZ cQ) (MW cI h a f ++ X)) (QR (kX6_setOf f x1)) 0 0 (fun _ => False) := by
  refine m_rd (cc := cX6_setOf) (maxL := 6) (ret := (some .int)) (by decide) rfl (Nat.le_of_ble_eq_true rfl) (lv0 := [(0, .ref h), (1, .int x1)]) rfl ?_
  intro p e s m below meth c ls S hr hlk hP hK hl
  have S : CallFix p m c cX6_setOf 6 s ([.ref h, .int x1] : List Value).toArray wsX6_setOf RX6 := S
  have hx := S.1
  have hb := S.2.1
  have hown : s.vm.findClass RX6 = some m.cls := S.2.2.2.1
  have hts := S.2.2.2.2
  have hinX6 : ∀ w ∈ wsX60, w ∈ wsX6_setOf := by decide +kernel
  refine lv_iconst (v := 0) hx hb dX6_setOf_0 (by decide) ?_
  refine lv_istore_n (lv' := [(2, .int 0), (0, .ref h), (1, .int x1)]) hx hb dX6_setOf_1 rfl hl (by decide) rfl (fun ls hl => ?_)
  refine lv_iconst (v := 0) hx hb dX6_setOf_2 (by decide) ?_
  refine lv_istore_n (lv' := [(3, .int 0), (2, .int 0), (0, .ref h), (1, .int x1)]) hx hb dX6_setOf_3 rfl hl (by decide) rfl (fun ls hl => ?_)
  have hρ : kX6_setOf f x1 = kX6_setOf_4 x1 7 0 f 0 := rfl
  exact lpX6_setOf_4 l D cI cZ cQ h a X x1 f S hr hlk hK hok hP 7 0 0   (by omega) (by omega)  (lv_sub hl [2, 3, 1, 0] rfl) _ hρ
theorem ndX6_headSet : yX6_headSet.cls = RX6 ∧ yX6_headSet.cls ≠ "java/lang/invoke/MethodHandle" ∧ yX6_headSet.cls ≠ "java/lang/invoke/VarHandle" ∧ (parseMethodDescriptor yX6_headSet.desc).map (fun d => d.parameters.length) = some 1 := by decide +kernel
set_option maxHeartbeats 4000000 in
set_option maxRecDepth 100000 in
theorem lpX6_headSet_4 {p : Program} {e : Env} {s : State} {m : MethodId} {below : List Frame} {meth : Method} {c : Code} (l : Launch) (D : va_G) (cI cZ cQ : ClassId) (h : Nat) (a : Nat → Nat) (X : va_W) (x1 : Int32) (f : Nat → Nat → Int32) (S : CallFix p m c cX6_headSet 5 s ([.ref h, .int x1] : List Value).toArray wsX6_headSet RX6) (hr : meth.sig.returnType = (some .int)) (hlk : meth.locks = false) (hK : va_K D vwCl (TY cI cZ cQ) s) (hok : okM f) (hP : va_P D vwCl (MW cI h a f ++ X) s.heap) : ∀ (n i : Nat) (v2 : Int32), i ≤ 7 → 7 - i < n → ∀ {ls : Array Slot}, lv_has ls 5 [(0, .ref h), (1, .int x1), (2, .int v2), (3, .int (nI i))] → ∀ ρ : Int32, ρ = kX6_headSet_4 x1 n i f v2 → W p l e { frames := 3, cells := 0, slots := 0, locals := 70 } s m ([.ref h, .int x1] : List Value).toArray below meth c s.heap [] 0 0 (MQ below (QR ρ) ([.ref h, .int x1] : List Value).toArray s 0 0 (fun _ => False)) (F0 m 4 ls []) := by
  have hx := S.1
  have hb := S.2.1
  have hown : s.vm.findClass RX6 = some m.cls := S.2.2.2.1
  have hts := S.2.2.2.2
  have hinX6 : ∀ w ∈ wsX60, w ∈ wsX6_headSet := by decide +kernel
  intro n
  induction n with
  | zero =>
    intro i _ hi hn
    exact absurd hn (Nat.not_lt_zero _)
  | succ n ih =>
    intro i v2 hi hn  ls hl ρ hρ0
    refine lv_iload_n hx hb dX6_headSet_4 rfl (lv_at hl 3 rfl) ?_
    refine lv_aload_n hx hb dX6_headSet_5 rfl (lv_at hl 0 rfl) ?_
    refine k_rd (As := []) (rest := [.int (nI i)]) (bytes := cX6_heads) (C := RX6) S (okX6_heads l D cI cZ cQ h a X f ) gX6_headSet_X6_heads rfl ⟨rfl, rfl⟩ ndX6_heads ⟨Nat.le_of_ble_eq_true rfl, Nat.le_of_ble_eq_true rfl⟩ hK hP 0 rfl rfl rfl hl rfl (Nat.le_of_ble_eq_true rfl) dX6_headSet_6 ⟨Nat.zero_le _, Nat.zero_le _⟩ ?_
    refine lv_icmp_ge (tgt := 73) hx hb dX6_headSet_9 (by decide) (fun c_9 => ?_) (fun c_9 => ?_)
    · have c_9 : (kX6_heads f) ≤ (nI i) := c_9
      refine lv_iload_n hx hb dX6_headSet_73 rfl (lv_at hl 2 rfl) ?_
      have hρ : kX6_headSet_4 x1 (n + 1) i f v2 = v2 := (if_pos c_9)
      have hρ := hρ0.trans hρ
      exact e_rd hx hb hr hlk dX6_headSet_74 hρ.symm
    have c_9 : ¬ ((kX6_heads f) ≤ (nI i)) := c_9
    have hlt : i < 7 := il_lt (mheads_le hok) (by decide) hi c_9
    have hvi : vp_in (nI i) 7 := vp_in_nI hlt (by decide)
    refine lv_iload_n hx hb dX6_headSet_12 rfl (lv_at hl 1 rfl) ?_
    refine lv_if_eq (tgt := 37) hx hb dX6_headSet_13 (by decide) (fun c_13 => ?_) (fun c_13 => ?_)
    · have c_13 : x1 = 0 := c_13
      refine lv_aload_n hx hb dX6_headSet_37 rfl (lv_at hl 0 rfl) ?_
      refine lv_iload_n hx hb dX6_headSet_38 rfl (lv_at hl 3 rfl) ?_
      refine k_rd (As := [.int (nI i)]) (rest := []) (bytes := cX6_byHowMuch) (C := RX6) S (okX6_byHowMuch l D cI cZ cQ h a X f (nI i) (by assumption)) gX6_headSet_X6_byHowMuch rfl ⟨rfl, rfl⟩ ndX6_byHowMuch ⟨Nat.le_of_ble_eq_true rfl, Nat.le_of_ble_eq_true rfl⟩ hK hP 0 rfl rfl rfl hl rfl (Nat.le_of_ble_eq_true rfl) dX6_headSet_39 ⟨Nat.zero_le _, Nat.zero_le _⟩ ?_
      refine lv_if_eq (tgt := 49) hx hb dX6_headSet_42 (by decide) (fun c_42 => ?_) (fun c_42 => ?_)
      · have c_42 : (kX6_byHowMuch f (nI i)) = 0 := c_42
        refine lv_iconst (v := 0) hx hb dX6_headSet_49 (by decide) ?_
        refine lv_istore (lv' := [(4, .int 0), (0, .ref h), (1, .int x1), (2, .int v2), (3, .int (nI i))]) hx hb dX6_headSet_50 hl (by decide) rfl (fun ls hl => ?_)
        refine lv_iload_n hx hb dX6_headSet_52 rfl (lv_at hl 3 rfl) ?_
        refine lv_iload hx hb dX6_headSet_53 (lv_at hl 0 rfl) ?_
        refine lv_if_eq (tgt := 64) hx hb dX6_headSet_55 (by decide) (fun c_55 => ?_) (fun c_55 => absurd (by decide) c_55)
        refine lv_iconst (v := 0) hx hb dX6_headSet_64 (by decide) ?_
        refine lv_ior hx hb dX6_headSet_65 ?_
        refine lv_istore_n (lv' := [(2, .int (v2 ||| 0)), (4, .int 0), (0, .ref h), (1, .int x1), (3, .int (nI i))]) hx hb dX6_headSet_66 rfl hl (by decide) rfl (fun ls hl => ?_)
        refine lv_iinc (v := (nI (i + 1))) (lv' := [(3, .int (nI (i + 1))), (2, .int (v2 ||| 0)), (4, .int 0), (0, .ref h), (1, .int x1)]) hx hb dX6_headSet_67 hl (k := 4) rfl (nI_1 i) (by decide) rfl (fun ls hl => ?_)
        refine lv_goto (tgt := 4) hx hb dX6_headSet_70 (by decide) ?_
        have hρ : kX6_headSet_4 x1 (n + 1) i f v2 = kX6_headSet_4 x1 n (i + 1) f (v2 ||| 0) := (if_neg c_9).trans ((if_pos c_13).trans ((if_pos c_42)))
        have hρ := hρ0.trans hρ
        exact ih  (i + 1) (v2 ||| 0)   (by omega) (by omega)  (lv_sub hl [3, 4, 1, 0] rfl) _ hρ
      have c_42 : ¬ ((kX6_byHowMuch f (nI i)) = 0) := c_42
      refine lv_iconst (v := 1) hx hb dX6_headSet_45 (by decide) ?_
      refine lv_goto (tgt := 50) hx hb dX6_headSet_46 (by decide) ?_
      refine lv_istore (lv' := [(4, .int 1), (0, .ref h), (1, .int x1), (2, .int v2), (3, .int (nI i))]) hx hb dX6_headSet_50 hl (by decide) rfl (fun ls hl => ?_)
      refine lv_iload_n hx hb dX6_headSet_52 rfl (lv_at hl 3 rfl) ?_
      refine lv_iload hx hb dX6_headSet_53 (lv_at hl 0 rfl) ?_
      refine lv_if_eq (tgt := 64) hx hb dX6_headSet_55 (by decide) (fun c_55 => absurd c_55 (by decide)) (fun c_55 => ?_)
      refine lv_iconst (v := 1) hx hb dX6_headSet_58 (by decide) ?_
      refine lv_iload_n hx hb dX6_headSet_59 rfl (lv_at hl 4 rfl) ?_
      refine lv_ishl hx hb dX6_headSet_60 ?_
      refine lv_goto (tgt := 65) hx hb dX6_headSet_61 (by decide) ?_
      refine lv_ior hx hb dX6_headSet_65 ?_
      refine lv_istore_n (lv' := [(2, .int (v2 ||| ((1 : Int32) <<< ((nI i) &&& 31)))), (4, .int 1), (0, .ref h), (1, .int x1), (3, .int (nI i))]) hx hb dX6_headSet_66 rfl hl (by decide) rfl (fun ls hl => ?_)
      refine lv_iinc (v := (nI (i + 1))) (lv' := [(3, .int (nI (i + 1))), (2, .int (v2 ||| ((1 : Int32) <<< ((nI i) &&& 31)))), (4, .int 1), (0, .ref h), (1, .int x1)]) hx hb dX6_headSet_67 hl (k := 4) rfl (nI_1 i) (by decide) rfl (fun ls hl => ?_)
      refine lv_goto (tgt := 4) hx hb dX6_headSet_70 (by decide) ?_
      have hρ : kX6_headSet_4 x1 (n + 1) i f v2 = kX6_headSet_4 x1 n (i + 1) f (v2 ||| ((1 : Int32) <<< ((nI i) &&& 31))) := (if_neg c_9).trans ((if_pos c_13).trans ((if_neg c_42)))
      have hρ := hρ0.trans hρ
      exact ih  (i + 1) (v2 ||| ((1 : Int32) <<< ((nI i) &&& 31)))   (by omega) (by omega)  (lv_sub hl [3, 4, 1, 0] rfl) _ hρ
    have c_13 : ¬ (x1 = 0) := c_13
    refine lv_aload_n hx hb dX6_headSet_16 rfl (lv_at hl 0 rfl) ?_
    refine va_get (v := .ref (a 0)) (C := RX6) (T := TX6) (N := 6) (ci := 6) hx hb hts hinX6 hown hK hP 0 rfl rfl 0 (by decide) (hts (.fieldLink RX6 7 "AxleKeeperModel" "w" "[I") (by decide +kernel)) (fun _ h9 => h9) rfl dX6_headSet_17 ?_
    refine lv_bipush (v := 62) hx hb dX6_headSet_20 (by decide) ?_
    refine lv_iload_n hx hb dX6_headSet_22 rfl (lv_at hl 3 rfl) ?_
    refine lv_iadd hx hb dX6_headSet_23 ?_
    refine va_iald hx hb hK hP 1 0 rfl rfl (n := 1680) (vin2 (by assumption) (by decide)) dX6_headSet_24 ?_
    refine lv_iconst (v := 1) hx hb dX6_headSet_25 (by decide) ?_
    refine lv_icmp_ne (tgt := 33) hx hb dX6_headSet_26 (by decide) (fun c_26 => ?_) (fun c_26 => ?_)
    · have c_26 : ¬ ((f 0 (ix (62 + (nI i)))) = 1) := c_26
      refine lv_iconst (v := 0) hx hb dX6_headSet_33 (by decide) ?_
      refine lv_goto (tgt := 50) hx hb dX6_headSet_34 (by decide) ?_
      refine lv_istore (lv' := [(4, .int 0), (0, .ref h), (1, .int x1), (2, .int v2), (3, .int (nI i))]) hx hb dX6_headSet_50 hl (by decide) rfl (fun ls hl => ?_)
      refine lv_iload_n hx hb dX6_headSet_52 rfl (lv_at hl 3 rfl) ?_
      refine lv_iload hx hb dX6_headSet_53 (lv_at hl 0 rfl) ?_
      refine lv_if_eq (tgt := 64) hx hb dX6_headSet_55 (by decide) (fun c_55 => ?_) (fun c_55 => absurd (by decide) c_55)
      refine lv_iconst (v := 0) hx hb dX6_headSet_64 (by decide) ?_
      refine lv_ior hx hb dX6_headSet_65 ?_
      refine lv_istore_n (lv' := [(2, .int (v2 ||| 0)), (4, .int 0), (0, .ref h), (1, .int x1), (3, .int (nI i))]) hx hb dX6_headSet_66 rfl hl (by decide) rfl (fun ls hl => ?_)
      refine lv_iinc (v := (nI (i + 1))) (lv' := [(3, .int (nI (i + 1))), (2, .int (v2 ||| 0)), (4, .int 0), (0, .ref h), (1, .int x1)]) hx hb dX6_headSet_67 hl (k := 4) rfl (nI_1 i) (by decide) rfl (fun ls hl => ?_)
      refine lv_goto (tgt := 4) hx hb dX6_headSet_70 (by decide) ?_
      have hρ : kX6_headSet_4 x1 (n + 1) i f v2 = kX6_headSet_4 x1 n (i + 1) f (v2 ||| 0) := (if_neg c_9).trans ((if_neg c_13).trans ((if_neg c_26)))
      have hρ := hρ0.trans hρ
      exact ih  (i + 1) (v2 ||| 0)   (by omega) (by omega)  (lv_sub hl [3, 4, 1, 0] rfl) _ hρ
    have c_26 : (f 0 (ix (62 + (nI i)))) = 1 := c_26
    refine lv_iconst (v := 1) hx hb dX6_headSet_29 (by decide) ?_
    refine lv_goto (tgt := 50) hx hb dX6_headSet_30 (by decide) ?_
    refine lv_istore (lv' := [(4, .int 1), (0, .ref h), (1, .int x1), (2, .int v2), (3, .int (nI i))]) hx hb dX6_headSet_50 hl (by decide) rfl (fun ls hl => ?_)
    refine lv_iload_n hx hb dX6_headSet_52 rfl (lv_at hl 3 rfl) ?_
    refine lv_iload hx hb dX6_headSet_53 (lv_at hl 0 rfl) ?_
    refine lv_if_eq (tgt := 64) hx hb dX6_headSet_55 (by decide) (fun c_55 => absurd c_55 (by decide)) (fun c_55 => ?_)
    refine lv_iconst (v := 1) hx hb dX6_headSet_58 (by decide) ?_
    refine lv_iload_n hx hb dX6_headSet_59 rfl (lv_at hl 4 rfl) ?_
    refine lv_ishl hx hb dX6_headSet_60 ?_
    refine lv_goto (tgt := 65) hx hb dX6_headSet_61 (by decide) ?_
    refine lv_ior hx hb dX6_headSet_65 ?_
    refine lv_istore_n (lv' := [(2, .int (v2 ||| ((1 : Int32) <<< ((nI i) &&& 31)))), (4, .int 1), (0, .ref h), (1, .int x1), (3, .int (nI i))]) hx hb dX6_headSet_66 rfl hl (by decide) rfl (fun ls hl => ?_)
    refine lv_iinc (v := (nI (i + 1))) (lv' := [(3, .int (nI (i + 1))), (2, .int (v2 ||| ((1 : Int32) <<< ((nI i) &&& 31)))), (4, .int 1), (0, .ref h), (1, .int x1)]) hx hb dX6_headSet_67 hl (k := 4) rfl (nI_1 i) (by decide) rfl (fun ls hl => ?_)
    refine lv_goto (tgt := 4) hx hb dX6_headSet_70 (by decide) ?_
    have hρ : kX6_headSet_4 x1 (n + 1) i f v2 = kX6_headSet_4 x1 n (i + 1) f (v2 ||| ((1 : Int32) <<< ((nI i) &&& 31))) := (if_neg c_9).trans ((if_neg c_13).trans ((if_pos c_26)))
    have hρ := hρ0.trans hρ
    exact ih  (i + 1) (v2 ||| ((1 : Int32) <<< ((nI i) &&& 31)))   (by omega) (by omega)  (lv_sub hl [3, 4, 1, 0] rfl) _ hρ
set_option maxHeartbeats 4000000 in
set_option maxRecDepth 100000 in
theorem okX6_headSet (l : Launch) (D : va_G) (cI cZ cQ : ClassId) (h : Nat) (a : Nat → Nat) (X : va_W) (f : Nat → Nat → Int32) (x1 : Int32) (hok : okM f) : Met l yX6_headSet wsX6_headSet ({ frames := 3, cells := 0, slots := 0, locals := 70 }) (PR [.ref h, .int x1] D (TY cI cZ cQ) (MW cI h a f ++ X)) (QR (kX6_headSet f x1)) 0 0 (fun _ => False) := by
  refine m_rd (cc := cX6_headSet) (maxL := 5) (ret := (some .int)) (by decide) rfl (Nat.le_of_ble_eq_true rfl) (lv0 := [(0, .ref h), (1, .int x1)]) rfl ?_
  intro p e s m below meth c ls S hr hlk hP hK hl
  have S : CallFix p m c cX6_headSet 5 s ([.ref h, .int x1] : List Value).toArray wsX6_headSet RX6 := S
  have hx := S.1
  have hb := S.2.1
  have hown : s.vm.findClass RX6 = some m.cls := S.2.2.2.1
  have hts := S.2.2.2.2
  have hinX6 : ∀ w ∈ wsX60, w ∈ wsX6_headSet := by decide +kernel
  refine lv_iconst (v := 0) hx hb dX6_headSet_0 (by decide) ?_
  refine lv_istore_n (lv' := [(2, .int 0), (0, .ref h), (1, .int x1)]) hx hb dX6_headSet_1 rfl hl (by decide) rfl (fun ls hl => ?_)
  refine lv_iconst (v := 0) hx hb dX6_headSet_2 (by decide) ?_
  refine lv_istore_n (lv' := [(3, .int 0), (2, .int 0), (0, .ref h), (1, .int x1)]) hx hb dX6_headSet_3 rfl hl (by decide) rfl (fun ls hl => ?_)
  have hρ : kX6_headSet f x1 = kX6_headSet_4 x1 8 0 f 0 := rfl
  exact lpX6_headSet_4 l D cI cZ cQ h a X x1 f S hr hlk hK hok hP 8 0 0   (by omega) (by omega)  (lv_sub hl [2, 3, 1, 0] rfl) _ hρ
theorem ndX6_allOf : yX6_allOf.cls = RX6 ∧ yX6_allOf.cls ≠ "java/lang/invoke/MethodHandle" ∧ yX6_allOf.cls ≠ "java/lang/invoke/VarHandle" ∧ (parseMethodDescriptor yX6_allOf.desc).map (fun d => d.parameters.length) = some 1 := by decide +kernel
set_option maxHeartbeats 4000000 in
set_option maxRecDepth 100000 in
theorem lpX6_allOf_4 {p : Program} {e : Env} {s : State} {m : MethodId} {below : List Frame} {meth : Method} {c : Code} (l : Launch) (D : va_G) (cI cZ cQ : ClassId) (h : Nat) (a : Nat → Nat) (X : va_W) (x1 : Int32) (f : Nat → Nat → Int32) (S : CallFix p m c cX6_allOf 4 s ([.ref h, .int x1] : List Value).toArray wsX6_allOf RX6) (hr : meth.sig.returnType = (some .int)) (hlk : meth.locks = false) (hK : va_K D vwCl (TY cI cZ cQ) s) (hok : okM f) (h1 : vp_in x1 1597) (hP : va_P D vwCl (MW cI h a f ++ X) s.heap) : ∀ (n i : Nat) (v2 : Int32), i ≤ 6 → 6 - i < n → ∀ {ls : Array Slot}, lv_has ls 4 [(0, .ref h), (1, .int x1), (2, .int v2), (3, .int (nI i))] → ∀ ρ : Int32, ρ = kX6_allOf_4 x1 n i f v2 → W p l e { frames := 0, cells := 0, slots := 0, locals := 0 } s m ([.ref h, .int x1] : List Value).toArray below meth c s.heap [] 0 0 (MQ below (QR ρ) ([.ref h, .int x1] : List Value).toArray s 0 0 (fun _ => False)) (F0 m 4 ls []) := by
  have hx := S.1
  have hb := S.2.1
  have hown : s.vm.findClass RX6 = some m.cls := S.2.2.2.1
  have hts := S.2.2.2.2
  have hinX6 : ∀ w ∈ wsX60, w ∈ wsX6_allOf := by decide +kernel
  intro n
  induction n with
  | zero =>
    intro i _ hi hn
    exact absurd hn (Nat.not_lt_zero _)
  | succ n ih =>
    intro i v2 hi hn  ls hl ρ hρ0
    refine lv_iload_n hx hb dX6_allOf_4 rfl (lv_at hl 3 rfl) ?_
    refine lv_aload_n hx hb dX6_allOf_5 rfl (lv_at hl 0 rfl) ?_
    refine va_get (v := .ref (a 0)) (C := RX6) (T := TX6) (N := 6) (ci := 6) hx hb hts hinX6 hown hK hP 0 rfl rfl 0 (by decide) (hts (.fieldLink RX6 7 "AxleKeeperModel" "w" "[I") (by decide +kernel)) (fun _ h9 => h9) rfl dX6_allOf_6 ?_
    refine lv_iconst (v := 0) hx hb dX6_allOf_9 (by decide) ?_
    refine va_iald hx hb hK hP 1 0 rfl rfl (n := 1680) (vin_c (by decide)) dX6_allOf_10 ?_
    refine lv_icmp_ge (tgt := 31) hx hb dX6_allOf_11 (by decide) (fun c_11 => ?_) (fun c_11 => ?_)
    · have c_11 : (f 0 (ix 0)) ≤ (nI i) := c_11
      refine lv_iload_n hx hb dX6_allOf_31 rfl (lv_at hl 2 rfl) ?_
      have hρ : kX6_allOf_4 x1 (n + 1) i f v2 = v2 := (if_pos c_11)
      have hρ := hρ0.trans hρ
      exact e_rd hx hb hr hlk dX6_allOf_32 hρ.symm
    have c_11 : ¬ ((f 0 (ix 0)) ≤ (nI i)) := c_11
    have hlt : i < 6 := il_lt hok.2 (by decide) hi c_11
    have hvi : vp_in (nI i) 6 := vp_in_nI hlt (by decide)
    refine lv_iload_n hx hb dX6_allOf_14 rfl (lv_at hl 2 rfl) ?_
    refine lv_aload_n hx hb dX6_allOf_15 rfl (lv_at hl 0 rfl) ?_
    refine va_get (v := .ref (a 0)) (C := RX6) (T := TX6) (N := 6) (ci := 6) hx hb hts hinX6 hown hK hP 0 rfl rfl 0 (by decide) (hts (.fieldLink RX6 7 "AxleKeeperModel" "w" "[I") (by decide +kernel)) (fun _ h9 => h9) rfl dX6_allOf_16 ?_
    refine lv_iload_n hx hb dX6_allOf_19 rfl (lv_at hl 1 rfl) ?_
    refine lv_iload_n hx hb dX6_allOf_20 rfl (lv_at hl 3 rfl) ?_
    refine lv_iadd hx hb dX6_allOf_21 ?_
    refine va_iald hx hb hK hP 1 0 rfl rfl (n := 1680) (vinA (by assumption) (by assumption) (by decide)) dX6_allOf_22 ?_
    refine lv_iadd hx hb dX6_allOf_23 ?_
    refine lv_istore_n (lv' := [(2, .int (v2 + (f 0 (ix (x1 + (nI i)))))), (0, .ref h), (1, .int x1), (3, .int (nI i))]) hx hb dX6_allOf_24 rfl hl (by decide) rfl (fun ls hl => ?_)
    refine lv_iinc (v := (nI (i + 1))) (lv' := [(3, .int (nI (i + 1))), (2, .int (v2 + (f 0 (ix (x1 + (nI i)))))), (0, .ref h), (1, .int x1)]) hx hb dX6_allOf_25 hl (k := 3) rfl (nI_1 i) (by decide) rfl (fun ls hl => ?_)
    refine lv_goto (tgt := 4) hx hb dX6_allOf_28 (by decide) ?_
    have hρ : kX6_allOf_4 x1 (n + 1) i f v2 = kX6_allOf_4 x1 n (i + 1) f (v2 + (f 0 (ix (x1 + (nI i))))) := (if_neg c_11)
    have hρ := hρ0.trans hρ
    exact ih  (i + 1) (v2 + (f 0 (ix (x1 + (nI i)))))   (by omega) (by omega)  (lv_sub hl [2, 3, 1, 0] rfl) _ hρ
set_option maxHeartbeats 4000000 in
set_option maxRecDepth 100000 in
theorem okX6_allOf (l : Launch) (D : va_G) (cI cZ cQ : ClassId) (h : Nat) (a : Nat → Nat) (X : va_W) (f : Nat → Nat → Int32) (x1 : Int32) (hok : okM f) (h1 : vp_in x1 1597) : Met l yX6_allOf wsX6_allOf ({ frames := 0, cells := 0, slots := 0, locals := 0 }) (PR [.ref h, .int x1] D (TY cI cZ cQ) (MW cI h a f ++ X)) (QR (kX6_allOf f x1)) 0 0 (fun _ => False) := by
  refine m_rd (cc := cX6_allOf) (maxL := 4) (ret := (some .int)) (by decide) rfl (Nat.le_of_ble_eq_true rfl) (lv0 := [(0, .ref h), (1, .int x1)]) rfl ?_
  intro p e s m below meth c ls S hr hlk hP hK hl
  have S : CallFix p m c cX6_allOf 4 s ([.ref h, .int x1] : List Value).toArray wsX6_allOf RX6 := S
  have hx := S.1
  have hb := S.2.1
  have hown : s.vm.findClass RX6 = some m.cls := S.2.2.2.1
  have hts := S.2.2.2.2
  have hinX6 : ∀ w ∈ wsX60, w ∈ wsX6_allOf := by decide +kernel
  refine lv_iconst (v := 0) hx hb dX6_allOf_0 (by decide) ?_
  refine lv_istore_n (lv' := [(2, .int 0), (0, .ref h), (1, .int x1)]) hx hb dX6_allOf_1 rfl hl (by decide) rfl (fun ls hl => ?_)
  refine lv_iconst (v := 0) hx hb dX6_allOf_2 (by decide) ?_
  refine lv_istore_n (lv' := [(3, .int 0), (2, .int 0), (0, .ref h), (1, .int x1)]) hx hb dX6_allOf_3 rfl hl (by decide) rfl (fun ls hl => ?_)
  have hρ : kX6_allOf f x1 = kX6_allOf_4 x1 7 0 f 0 := rfl
  exact lpX6_allOf_4 l D cI cZ cQ h a X x1 f S hr hlk hK hok h1 hP 7 0 0   (by omega) (by omega)  (lv_sub hl [2, 3, 1, 0] rfl) _ hρ
theorem ndX6_wrongEntry : yX6_wrongEntry.cls = RX6 ∧ yX6_wrongEntry.cls ≠ "java/lang/invoke/MethodHandle" ∧ yX6_wrongEntry.cls ≠ "java/lang/invoke/VarHandle" ∧ (parseMethodDescriptor yX6_wrongEntry.desc).map (fun d => d.parameters.length) = some 0 := by decide +kernel
set_option maxHeartbeats 4000000 in
set_option maxRecDepth 100000 in
theorem lpX6_wrongEntry_2 {p : Program} {e : Env} {s : State} {m : MethodId} {below : List Frame} {meth : Method} {c : Code} (l : Launch) (D : va_G) (cI cZ cQ : ClassId) (h : Nat) (a : Nat → Nat) (X : va_W) (f : Nat → Nat → Int32) (S : CallFix p m c cX6_wrongEntry 2 s ([.ref h] : List Value).toArray wsX6_wrongEntry RX6) (hr : meth.sig.returnType = (some .int)) (hlk : meth.locks = false) (hK : va_K D vwCl (TY cI cZ cQ) s) (hok : okM f) (hw : vp_in (f 5 0) 21) (hP : va_P D vwCl (MW cI h a f ++ X) s.heap) : ∀ (n i : Nat), i ≤ 20 → 20 - i < n → ∀ {ls : Array Slot}, lv_has ls 2 [(0, .ref h), (1, .int (nI i))] → ∀ ρ : Int32, ρ = kX6_wrongEntry_2  n i f → W p l e { frames := 2, cells := 0, slots := 0, locals := 43 } s m ([.ref h] : List Value).toArray below meth c s.heap [] 0 0 (MQ below (QR ρ) ([.ref h] : List Value).toArray s 0 0 (fun _ => False)) (F0 m 2 ls []) := by
  have hx := S.1
  have hb := S.2.1
  have hown : s.vm.findClass RX6 = some m.cls := S.2.2.2.1
  have hts := S.2.2.2.2
  have hinX6 : ∀ w ∈ wsX60, w ∈ wsX6_wrongEntry := by decide +kernel
  intro n
  induction n with
  | zero =>
    intro i  hi hn
    exact absurd hn (Nat.not_lt_zero _)
  | succ n ih =>
    intro i  hi hn  ls hl ρ hρ0
    refine lv_iload_n hx hb dX6_wrongEntry_2 rfl (lv_at hl 1 rfl) ?_
    refine lv_aload_n hx hb dX6_wrongEntry_3 rfl (lv_at hl 0 rfl) ?_
    refine va_get (v := .int (f 5 0)) (C := RX6) (T := TX6) (N := 6) (ci := 6) hx hb hts hinX6 hown hK hP 0 rfl rfl 5 (by decide) (hts (.fieldLink RX6 74 "AxleKeeperModel" "written" "I") (by decide +kernel)) (fun _ h9 => h9) rfl dX6_wrongEntry_4 ?_
    refine lv_icmp_ge (tgt := 53) hx hb dX6_wrongEntry_7 (by decide) (fun c_7 => ?_) (fun c_7 => ?_)
    · have c_7 : (f 5 0) ≤ (nI i) := c_7
      refine lv_iconst (v := (-1)) hx hb dX6_wrongEntry_53 (by decide) ?_
      have hρ : kX6_wrongEntry_2  (n + 1) i f = (-1) := (if_pos c_7)
      have hρ := hρ0.trans hρ
      exact e_rd hx hb hr hlk dX6_wrongEntry_54 hρ.symm
    have c_7 : ¬ ((f 5 0) ≤ (nI i)) := c_7
    have hlt : i < 20 := il_lt (le20 hw) (by decide) hi c_7
    have hvi : vp_in (nI i) 20 := vp_in_nI hlt (by decide)
    refine lv_aload_n hx hb dX6_wrongEntry_10 rfl (lv_at hl 0 rfl) ?_
    refine lv_aload_n hx hb dX6_wrongEntry_11 rfl (lv_at hl 0 rfl) ?_
    refine va_get (v := .ref (a 3)) (C := RX6) (T := TX6) (N := 6) (ci := 6) hx hb hts hinX6 hown hK hP 0 rfl rfl 3 (by decide) (hts (.fieldLink RX6 13 "AxleKeeperModel" "bookOf" "[I") (by decide +kernel)) (fun _ h9 => h9) rfl dX6_wrongEntry_12 ?_
    refine lv_iload_n hx hb dX6_wrongEntry_15 rfl (lv_at hl 1 rfl) ?_
    refine va_iald hx hb hK hP 2 0 rfl rfl (n := 20) (by assumption) dX6_wrongEntry_16 ?_
    refine k_rd (As := [.int (f 3 (ix (nI i)))]) (rest := []) (bytes := cX6_isSection) (C := RX6) S (okX6_isSection l D cI cZ cQ h a X f (f 3 (ix (nI i)))) gX6_wrongEntry_X6_isSection rfl ⟨rfl, rfl⟩ ndX6_isSection ⟨Nat.le_of_ble_eq_true rfl, Nat.le_of_ble_eq_true rfl⟩ hK hP 0 rfl rfl rfl hl rfl (Nat.le_of_ble_eq_true rfl) dX6_wrongEntry_17 ⟨Nat.zero_le _, Nat.zero_le _⟩ ?_
    refine lv_if_eq (tgt := 45) hx hb dX6_wrongEntry_20 (by decide) (fun c_20 => ?_) (fun c_20 => ?_)
    · have c_20 : (kX6_isSection f (f 3 (ix (nI i)))) = 0 := c_20
      refine lv_iload_n hx hb dX6_wrongEntry_45 rfl (lv_at hl 1 rfl) ?_
      have hρ : kX6_wrongEntry_2  (n + 1) i f = (nI i) := (if_neg c_7).trans ((if_pos c_20))
      have hρ := hρ0.trans hρ
      exact e_rd hx hb hr hlk dX6_wrongEntry_46 hρ.symm
    have c_20 : ¬ ((kX6_isSection f (f 3 (ix (nI i)))) = 0) := c_20
    have hv1 : vp_in _ 6 := ms_in hok c_20
    refine lv_aload_n hx hb dX6_wrongEntry_23 rfl (lv_at hl 0 rfl) ?_
    refine va_get (v := .ref (a 0)) (C := RX6) (T := TX6) (N := 6) (ci := 6) hx hb hts hinX6 hown hK hP 0 rfl rfl 0 (by decide) (hts (.fieldLink RX6 7 "AxleKeeperModel" "w" "[I") (by decide +kernel)) (fun _ h9 => h9) rfl dX6_wrongEntry_24 ?_
    refine lv_iconst (v := 3) hx hb dX6_wrongEntry_27 (by decide) ?_
    refine lv_aload_n hx hb dX6_wrongEntry_28 rfl (lv_at hl 0 rfl) ?_
    refine va_get (v := .ref (a 3)) (C := RX6) (T := TX6) (N := 6) (ci := 6) hx hb hts hinX6 hown hK hP 0 rfl rfl 3 (by decide) (hts (.fieldLink RX6 13 "AxleKeeperModel" "bookOf" "[I") (by decide +kernel)) (fun _ h9 => h9) rfl dX6_wrongEntry_29 ?_
    refine lv_iload_n hx hb dX6_wrongEntry_32 rfl (lv_at hl 1 rfl) ?_
    refine va_iald hx hb hK hP 2 0 rfl rfl (n := 20) (by assumption) dX6_wrongEntry_33 ?_
    refine lv_iadd hx hb dX6_wrongEntry_34 ?_
    refine va_iald hx hb hK hP 1 0 rfl rfl (n := 1680) (vin2 (by assumption) (by decide)) dX6_wrongEntry_35 ?_
    refine lv_aload_n hx hb dX6_wrongEntry_36 rfl (lv_at hl 0 rfl) ?_
    refine va_get (v := .ref (a 4)) (C := RX6) (T := TX6) (N := 6) (ci := 6) hx hb hts hinX6 hown hK hP 0 rfl rfl 4 (by decide) (hts (.fieldLink RX6 16 "AxleKeeperModel" "bookCall" "[I") (by decide +kernel)) (fun _ h9 => h9) rfl dX6_wrongEntry_37 ?_
    refine lv_iload_n hx hb dX6_wrongEntry_40 rfl (lv_at hl 1 rfl) ?_
    refine va_iald hx hb hK hP 3 0 rfl rfl (n := 20) (by assumption) dX6_wrongEntry_41 ?_
    refine lv_icmp_eq (tgt := 47) hx hb dX6_wrongEntry_42 (by decide) (fun c_42 => ?_) (fun c_42 => ?_)
    · have c_42 : (f 0 (ix (3 + (f 3 (ix (nI i)))))) = (f 4 (ix (nI i))) := c_42
      refine lv_iinc (v := (nI (i + 1))) (lv' := [(1, .int (nI (i + 1))), (0, .ref h)]) hx hb dX6_wrongEntry_47 hl (k := 1) rfl (nI_1 i) (by decide) rfl (fun ls hl => ?_)
      refine lv_goto (tgt := 2) hx hb dX6_wrongEntry_50 (by decide) ?_
      have hρ : kX6_wrongEntry_2  (n + 1) i f = kX6_wrongEntry_2  n (i + 1) f := (if_neg c_7).trans ((if_neg c_20).trans ((if_pos c_42)))
      have hρ := hρ0.trans hρ
      exact ih  (i + 1)    (by omega) (by omega)  (lv_sub hl [1, 0] rfl) _ hρ
    have c_42 : ¬ ((f 0 (ix (3 + (f 3 (ix (nI i)))))) = (f 4 (ix (nI i)))) := c_42
    refine lv_iload_n hx hb dX6_wrongEntry_45 rfl (lv_at hl 1 rfl) ?_
    have hρ : kX6_wrongEntry_2  (n + 1) i f = (nI i) := (if_neg c_7).trans ((if_neg c_20).trans ((if_neg c_42)))
    have hρ := hρ0.trans hρ
    exact e_rd hx hb hr hlk dX6_wrongEntry_46 hρ.symm
set_option maxHeartbeats 4000000 in
set_option maxRecDepth 100000 in
theorem okX6_wrongEntry (l : Launch) (D : va_G) (cI cZ cQ : ClassId) (h : Nat) (a : Nat → Nat) (X : va_W) (f : Nat → Nat → Int32) (hok : okM f) (hw : vp_in (f 5 0) 21) : Met l yX6_wrongEntry wsX6_wrongEntry ({ frames := 2, cells := 0, slots := 0, locals := 43 }) (PR [.ref h] D (TY cI cZ cQ) (MW cI h a f ++ X)) (QR (kX6_wrongEntry f)) 0 0 (fun _ => False) := by
  refine m_rd (cc := cX6_wrongEntry) (maxL := 2) (ret := (some .int)) (by decide) rfl (Nat.le_of_ble_eq_true rfl) (lv0 := [(0, .ref h)]) rfl ?_
  intro p e s m below meth c ls S hr hlk hP hK hl
  have S : CallFix p m c cX6_wrongEntry 2 s ([.ref h] : List Value).toArray wsX6_wrongEntry RX6 := S
  have hx := S.1
  have hb := S.2.1
  have hown : s.vm.findClass RX6 = some m.cls := S.2.2.2.1
  have hts := S.2.2.2.2
  have hinX6 : ∀ w ∈ wsX60, w ∈ wsX6_wrongEntry := by decide +kernel
  refine lv_iconst (v := 0) hx hb dX6_wrongEntry_0 (by decide) ?_
  refine lv_istore_n (lv' := [(1, .int 0), (0, .ref h)]) hx hb dX6_wrongEntry_1 rfl hl (by decide) rfl (fun ls hl => ?_)
  have hρ : kX6_wrongEntry f = kX6_wrongEntry_2  21 0 f := rfl
  exact lpX6_wrongEntry_2 l D cI cZ cQ h a X f S hr hlk hK hok hw hP 21 0    (by omega) (by omega)  (lv_sub hl [1, 0] rfl) _ hρ
