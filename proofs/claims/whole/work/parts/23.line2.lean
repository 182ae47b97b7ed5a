theorem ndX3_called : yX3_called.cls = RX3 ∧ yX3_called.cls ≠ "java/lang/invoke/MethodHandle" ∧ yX3_called.cls ≠ "java/lang/invoke/VarHandle" ∧ (parseMethodDescriptor yX3_called.desc).map (fun d => d.parameters.length) = some 1 := by decide +kernel
set_option maxHeartbeats 4000000 in
set_option maxRecDepth 100000 in
theorem lpX3_called_4 {p : Program} {e : Env} {s : State} {m : MethodId} {below : List Frame} {meth : Method} {c : Code} (l : Launch) (D : va_G) (cI cZ cQ : ClassId) (h : Nat) (a : Nat → Nat) (X : va_W) (x1 : Int32) (f : Nat → Nat → Int32) (S : CallFix p m c cX3_called 4 s ([.ref h, .int x1] : List Value).toArray wsX3_called RX3) (hr : meth.sig.returnType = (some .int)) (hlk : meth.locks = false) (hK : va_K D vwCl (TY cI cZ cQ) s) (hok : okL f) (hP : va_P D vwCl (LW cI h a f ++ X) s.heap) : ∀ (n i : Nat) (v2 : Int32), i ≤ 6 → 6 - i < n → ∀ {ls : Array Slot}, lv_has ls 4 [(0, .ref h), (1, .int x1), (2, .int v2), (3, .int (nI i))] → ∀ ρ : Int32, ρ = kX3_called_4 x1 n i f v2 → W p l e { frames := 0, cells := 0, slots := 0, locals := 0 } s m ([.ref h, .int x1] : List Value).toArray below meth c s.heap [] 0 0 (MQ below (QR ρ) ([.ref h, .int x1] : List Value).toArray s 0 0 (fun _ => False)) (F0 m 4 ls []) := by
  have hx := S.1
  have hb := S.2.1
  have hown : s.vm.findClass RX3 = some m.cls := S.2.2.2.1
  have hts := S.2.2.2.2
  have hinX3 : ∀ w ∈ wsX30, w ∈ wsX3_called := by decide +kernel
  intro n
  induction n with
  | zero =>
    intro i _ hi hn
    exact absurd hn (Nat.not_lt_zero _)
  | succ n ih =>
    intro i v2 hi hn  ls hl ρ hρ0
    refine lv_iload_n hx hb dX3_called_4 rfl (lv_at hl 3 rfl) ?_
    refine lv_aload_n hx hb dX3_called_5 rfl (lv_at hl 0 rfl) ?_
    refine va_get (v := .int (f 0 0)) (C := RX3) (T := TX3) (N := 15) (ci := 3) hx hb hts hinX3 hown hK hP 0 rfl rfl 0 (by decide) (hts (.fieldLink RX3 48 "AxleKeeper$Line" "sections" "I") (by decide +kernel)) (fun _ h9 => h9) rfl dX3_called_6 ?_
    refine lv_icmp_ge (tgt := 34) hx hb dX3_called_9 (by decide) (fun c_9 => ?_) (fun c_9 => ?_)
    · have c_9 : (f 0 0) ≤ (nI i) := c_9
      refine lv_iload_n hx hb dX3_called_34 rfl (lv_at hl 2 rfl) ?_
      have hρ : kX3_called_4 x1 (n + 1) i f v2 = v2 := (if_pos c_9)
      have hρ := hρ0.trans hρ
      exact e_rd hx hb hr hlk dX3_called_35 hρ.symm
    have c_9 : ¬ ((f 0 0) ≤ (nI i)) := c_9
    have hlt : i < 6 := il_lt hok.2 (by decide) hi c_9
    have hvi : vp_in (nI i) 6 := vp_in_nI hlt (by decide)
    refine lv_aload_n hx hb dX3_called_12 rfl (lv_at hl 0 rfl) ?_
    refine va_get (v := .ref (a 12)) (C := RX3) (T := TX3) (N := 15) (ci := 3) hx hb hts hinX3 hown hK hP 0 rfl rfl 12 (by decide) (hts (.fieldLink RX3 39 "AxleKeeper$Line" "call" "[I") (by decide +kernel)) (fun _ h9 => h9) rfl dX3_called_13 ?_
    refine lv_iload_n hx hb dX3_called_16 rfl (lv_at hl 3 rfl) ?_
    refine va_iald hx hb hK hP 10 0 rfl rfl (n := 6) (by assumption) dX3_called_17 ?_
    refine lv_iload_n hx hb dX3_called_18 rfl (lv_at hl 1 rfl) ?_
    refine lv_icmp_ne (tgt := 28) hx hb dX3_called_19 (by decide) (fun c_19 => ?_) (fun c_19 => ?_)
    · have c_19 : ¬ ((f 12 (ix (nI i))) = x1) := c_19
      refine lv_iinc (v := (nI (i + 1))) (lv' := [(3, .int (nI (i + 1))), (0, .ref h), (1, .int x1), (2, .int v2)]) hx hb dX3_called_28 hl (k := 3) rfl (nI_1 i) (by decide) rfl (fun ls hl => ?_)
      refine lv_goto (tgt := 4) hx hb dX3_called_31 (by decide) ?_
      have hρ : kX3_called_4 x1 (n + 1) i f v2 = kX3_called_4 x1 n (i + 1) f v2 := (if_neg c_9).trans ((if_neg c_19))
      have hρ := hρ0.trans hρ
      exact ih  (i + 1) v2   (by omega) (by omega)  (lv_sub hl [1, 2, 3, 0] rfl) _ hρ
    have c_19 : (f 12 (ix (nI i))) = x1 := c_19
    refine lv_iload_n hx hb dX3_called_22 rfl (lv_at hl 2 rfl) ?_
    refine lv_iconst (v := 1) hx hb dX3_called_23 (by decide) ?_
    refine lv_iload_n hx hb dX3_called_24 rfl (lv_at hl 3 rfl) ?_
    refine lv_ishl hx hb dX3_called_25 ?_
    refine lv_ior hx hb dX3_called_26 ?_
    refine lv_istore_n (lv' := [(2, .int (v2 ||| ((1 : Int32) <<< ((nI i) &&& 31)))), (0, .ref h), (1, .int x1), (3, .int (nI i))]) hx hb dX3_called_27 rfl hl (by decide) rfl (fun ls hl => ?_)
    refine lv_iinc (v := (nI (i + 1))) (lv' := [(3, .int (nI (i + 1))), (2, .int (v2 ||| ((1 : Int32) <<< ((nI i) &&& 31)))), (0, .ref h), (1, .int x1)]) hx hb dX3_called_28 hl (k := 3) rfl (nI_1 i) (by decide) rfl (fun ls hl => ?_)
    refine lv_goto (tgt := 4) hx hb dX3_called_31 (by decide) ?_
    have hρ : kX3_called_4 x1 (n + 1) i f v2 = kX3_called_4 x1 n (i + 1) f (v2 ||| ((1 : Int32) <<< ((nI i) &&& 31))) := (if_neg c_9).trans ((if_pos c_19))
    have hρ := hρ0.trans hρ
    exact ih  (i + 1) (v2 ||| ((1 : Int32) <<< ((nI i) &&& 31)))   (by omega) (by omega)  (lv_sub hl [2, 3, 1, 0] rfl) _ hρ
set_option maxHeartbeats 4000000 in
set_option maxRecDepth 100000 in
theorem okX3_called (l : Launch) (D : va_G) (cI cZ cQ : ClassId) (h : Nat) (a : Nat → Nat) (X : va_W) (f : Nat → Nat → Int32) (x1 : Int32) (hok : okL f) : Met l yX3_called wsX3_called ({ frames := 0, cells := 0, slots := 0, locals := 0 }) (PR [.ref h, .int x1] D (TY cI cZ cQ) (LW cI h a f ++ X)) (QR (kX3_called f x1)) 0 0 (fun _ => False) := by
  refine m_rd (cc := cX3_called) (maxL := 4) (ret := (some .int)) (by decide) rfl (Nat.le_of_ble_eq_true rfl) (lv0 := [(0, .ref h), (1, .int x1)]) rfl ?_
  intro p e s m below meth c ls S hr hlk hP hK hl
  have S : CallFix p m c cX3_called 4 s ([.ref h, .int x1] : List Value).toArray wsX3_called RX3 := S
  have hx := S.1
  have hb := S.2.1
  have hown : s.vm.findClass RX3 = some m.cls := S.2.2.2.1
  have hts := S.2.2.2.2
  have hinX3 : ∀ w ∈ wsX30, w ∈ wsX3_called := by decide +kernel
  refine lv_iconst (v := 0) hx hb dX3_called_0 (by decide) ?_
  refine lv_istore_n (lv' := [(2, .int 0), (0, .ref h), (1, .int x1)]) hx hb dX3_called_1 rfl hl (by decide) rfl (fun ls hl => ?_)
  refine lv_iconst (v := 0) hx hb dX3_called_2 (by decide) ?_
  refine lv_istore_n (lv' := [(3, .int 0), (2, .int 0), (0, .ref h), (1, .int x1)]) hx hb dX3_called_3 rfl hl (by decide) rfl (fun ls hl => ?_)
  have hρ : kX3_called f x1 = kX3_called_4 x1 7 0 f 0 := rfl
  exact lpX3_called_4 l D cI cZ cQ h a X x1 f S hr hlk hK hok hP 7 0 0   (by omega) (by omega)  (lv_sub hl [2, 3, 1, 0] rfl) _ hρ
theorem ndX3_empty : yX3_empty.cls = RX3 ∧ yX3_empty.cls ≠ "java/lang/invoke/MethodHandle" ∧ yX3_empty.cls ≠ "java/lang/invoke/VarHandle" ∧ (parseMethodDescriptor yX3_empty.desc).map (fun d => d.parameters.length) = some 0 := by decide +kernel
set_option maxHeartbeats 4000000 in
set_option maxRecDepth 100000 in
theorem lpX3_empty_4 {p : Program} {e : Env} {s : State} {m : MethodId} {below : List Frame} {meth : Method} {c : Code} (l : Launch) (D : va_G) (cI cZ cQ : ClassId) (h : Nat) (a : Nat → Nat) (X : va_W) (f : Nat → Nat → Int32) (S : CallFix p m c cX3_empty 3 s ([.ref h] : List Value).toArray wsX3_empty RX3) (hr : meth.sig.returnType = (some .int)) (hlk : meth.locks = false) (hK : va_K D vwCl (TY cI cZ cQ) s) (hok : okL f) (hP : va_P D vwCl (LW cI h a f ++ X) s.heap) : ∀ (n i : Nat) (v1 : Int32), i ≤ 6 → 6 - i < n → ∀ {ls : Array Slot}, lv_has ls 3 [(0, .ref h), (1, .int v1), (2, .int (nI i))] → ∀ ρ : Int32, ρ = kX3_empty_4  n i f v1 → W p l e { frames := 0, cells := 0, slots := 0, locals := 0 } s m ([.ref h] : List Value).toArray below meth c s.heap [] 0 0 (MQ below (QR ρ) ([.ref h] : List Value).toArray s 0 0 (fun _ => False)) (F0 m 4 ls []) := by
  have hx := S.1
  have hb := S.2.1
  have hown : s.vm.findClass RX3 = some m.cls := S.2.2.2.1
  have hts := S.2.2.2.2
  have hinX3 : ∀ w ∈ wsX30, w ∈ wsX3_empty := by decide +kernel
  intro n
  induction n with
  | zero =>
    intro i _ hi hn
    exact absurd hn (Nat.not_lt_zero _)
  | succ n ih =>
    intro i v1 hi hn  ls hl ρ hρ0
    refine lv_iload_n hx hb dX3_empty_4 rfl (lv_at hl 2 rfl) ?_
    refine lv_aload_n hx hb dX3_empty_5 rfl (lv_at hl 0 rfl) ?_
    refine va_get (v := .int (f 0 0)) (C := RX3) (T := TX3) (N := 15) (ci := 3) hx hb hts hinX3 hown hK hP 0 rfl rfl 0 (by decide) (hts (.fieldLink RX3 48 "AxleKeeper$Line" "sections" "I") (by decide +kernel)) (fun _ h9 => h9) rfl dX3_empty_6 ?_
    refine lv_icmp_ge (tgt := 33) hx hb dX3_empty_9 (by decide) (fun c_9 => ?_) (fun c_9 => ?_)
    · have c_9 : (f 0 0) ≤ (nI i) := c_9
      refine lv_iload_n hx hb dX3_empty_33 rfl (lv_at hl 1 rfl) ?_
      have hρ : kX3_empty_4  (n + 1) i f v1 = v1 := (if_pos c_9)
      have hρ := hρ0.trans hρ
      exact e_rd hx hb hr hlk dX3_empty_34 hρ.symm
    have c_9 : ¬ ((f 0 0) ≤ (nI i)) := c_9
    have hlt : i < 6 := il_lt hok.2 (by decide) hi c_9
    have hvi : vp_in (nI i) 6 := vp_in_nI hlt (by decide)
    refine lv_aload_n hx hb dX3_empty_12 rfl (lv_at hl 0 rfl) ?_
    refine va_get (v := .ref (a 14)) (C := RX3) (T := TX3) (N := 15) (ci := 3) hx hb hts hinX3 hown hK hP 0 rfl rfl 14 (by decide) (hts (.fieldLink RX3 45 "AxleKeeper$Line" "axles" "[I") (by decide +kernel)) (fun _ h9 => h9) rfl dX3_empty_13 ?_
    refine lv_iload_n hx hb dX3_empty_16 rfl (lv_at hl 2 rfl) ?_
    refine va_iald hx hb hK hP 12 0 rfl rfl (n := 6) (by assumption) dX3_empty_17 ?_
    refine lv_if_ne (tgt := 27) hx hb dX3_empty_18 (by decide) (fun c_18 => ?_) (fun c_18 => ?_)
    · have c_18 : ¬ ((f 14 (ix (nI i))) = 0) := c_18
      refine lv_iinc (v := (nI (i + 1))) (lv' := [(2, .int (nI (i + 1))), (0, .ref h), (1, .int v1)]) hx hb dX3_empty_27 hl (k := 2) rfl (nI_1 i) (by decide) rfl (fun ls hl => ?_)
      refine lv_goto (tgt := 4) hx hb dX3_empty_30 (by decide) ?_
      have hρ : kX3_empty_4  (n + 1) i f v1 = kX3_empty_4  n (i + 1) f v1 := (if_neg c_9).trans ((if_neg c_18))
      have hρ := hρ0.trans hρ
      exact ih  (i + 1) v1   (by omega) (by omega)  (lv_sub hl [1, 2, 0] rfl) _ hρ
    have c_18 : (f 14 (ix (nI i))) = 0 := c_18
    refine lv_iload_n hx hb dX3_empty_21 rfl (lv_at hl 1 rfl) ?_
    refine lv_iconst (v := 1) hx hb dX3_empty_22 (by decide) ?_
    refine lv_iload_n hx hb dX3_empty_23 rfl (lv_at hl 2 rfl) ?_
    refine lv_ishl hx hb dX3_empty_24 ?_
    refine lv_ior hx hb dX3_empty_25 ?_
    refine lv_istore_n (lv' := [(1, .int (v1 ||| ((1 : Int32) <<< ((nI i) &&& 31)))), (0, .ref h), (2, .int (nI i))]) hx hb dX3_empty_26 rfl hl (by decide) rfl (fun ls hl => ?_)
    refine lv_iinc (v := (nI (i + 1))) (lv' := [(2, .int (nI (i + 1))), (1, .int (v1 ||| ((1 : Int32) <<< ((nI i) &&& 31)))), (0, .ref h)]) hx hb dX3_empty_27 hl (k := 2) rfl (nI_1 i) (by decide) rfl (fun ls hl => ?_)
    refine lv_goto (tgt := 4) hx hb dX3_empty_30 (by decide) ?_
    have hρ : kX3_empty_4  (n + 1) i f v1 = kX3_empty_4  n (i + 1) f (v1 ||| ((1 : Int32) <<< ((nI i) &&& 31))) := (if_neg c_9).trans ((if_pos c_18))
    have hρ := hρ0.trans hρ
    exact ih  (i + 1) (v1 ||| ((1 : Int32) <<< ((nI i) &&& 31)))   (by omega) (by omega)  (lv_sub hl [2, 1, 0] rfl) _ hρ
set_option maxHeartbeats 4000000 in
set_option maxRecDepth 100000 in
theorem okX3_empty (l : Launch) (D : va_G) (cI cZ cQ : ClassId) (h : Nat) (a : Nat → Nat) (X : va_W) (f : Nat → Nat → Int32) (hok : okL f) : Met l yX3_empty wsX3_empty ({ frames := 0, cells := 0, slots := 0, locals := 0 }) (PR [.ref h] D (TY cI cZ cQ) (LW cI h a f ++ X)) (QR (kX3_empty f)) 0 0 (fun _ => False) := by
  refine m_rd (cc := cX3_empty) (maxL := 3) (ret := (some .int)) (by decide) rfl (Nat.le_of_ble_eq_true rfl) (lv0 := [(0, .ref h)]) rfl ?_
  intro p e s m below meth c ls S hr hlk hP hK hl
  have S : CallFix p m c cX3_empty 3 s ([.ref h] : List Value).toArray wsX3_empty RX3 := S
  have hx := S.1
  have hb := S.2.1
  have hown : s.vm.findClass RX3 = some m.cls := S.2.2.2.1
  have hts := S.2.2.2.2
  have hinX3 : ∀ w ∈ wsX30, w ∈ wsX3_empty := by decide +kernel
  refine lv_iconst (v := 0) hx hb dX3_empty_0 (by decide) ?_
  refine lv_istore_n (lv' := [(1, .int 0), (0, .ref h)]) hx hb dX3_empty_1 rfl hl (by decide) rfl (fun ls hl => ?_)
  refine lv_iconst (v := 0) hx hb dX3_empty_2 (by decide) ?_
  refine lv_istore_n (lv' := [(2, .int 0), (1, .int 0), (0, .ref h)]) hx hb dX3_empty_3 rfl hl (by decide) rfl (fun ls hl => ?_)
  have hρ : kX3_empty f = kX3_empty_4  7 0 f 0 := rfl
  exact lpX3_empty_4 l D cI cZ cQ h a X f S hr hlk hK hok hP 7 0 0   (by omega) (by omega)  (lv_sub hl [2, 1, 0] rfl) _ hρ
theorem ndX3_wronglyClear : yX3_wronglyClear.cls = RX3 ∧ yX3_wronglyClear.cls ≠ "java/lang/invoke/MethodHandle" ∧ yX3_wronglyClear.cls ≠ "java/lang/invoke/VarHandle" ∧ (parseMethodDescriptor yX3_wronglyClear.desc).map (fun d => d.parameters.length) = some 0 := by decide +kernel
set_option maxHeartbeats 4000000 in
set_option maxRecDepth 100000 in
theorem okX3_wronglyClear (l : Launch) (D : va_G) (cI cZ cQ : ClassId) (h : Nat) (a : Nat → Nat) (X : va_W) (f : Nat → Nat → Int32) (hok : okL f) : Met l yX3_wronglyClear wsX3_wronglyClear ({ frames := 1, cells := 0, slots := 0, locals := 23 }) (PR [.ref h] D (TY cI cZ cQ) (LW cI h a f ++ X)) (QR (kX3_wronglyClear f)) 0 0 (fun _ => False) := by
  refine m_rd (cc := cX3_wronglyClear) (maxL := 1) (ret := (some .int)) (by decide) rfl (Nat.le_of_ble_eq_true rfl) (lv0 := [(0, .ref h)]) rfl ?_
  intro p e s m below meth c ls S hr hlk hP hK hl
  have S : CallFix p m c cX3_wronglyClear 1 s ([.ref h] : List Value).toArray wsX3_wronglyClear RX3 := S
  have hx := S.1
  have hb := S.2.1
  have hown : s.vm.findClass RX3 = some m.cls := S.2.2.2.1
  have hts := S.2.2.2.2
  refine lv_aload_n hx hb dX3_wronglyClear_0 rfl (lv_at hl 0 rfl) ?_
  refine lv_iconst (v := 0) hx hb dX3_wronglyClear_1 (by decide) ?_
  refine k_rd (As := [.int 0]) (rest := []) (bytes := cX3_called) (C := RX3) S (okX3_called l D cI cZ cQ h a X f 0 (by assumption)) gX3_wronglyClear_X3_called rfl ⟨rfl, rfl⟩ ndX3_called ⟨Nat.le_of_ble_eq_true rfl, Nat.le_of_ble_eq_true rfl⟩ hK hP 0 rfl rfl rfl hl rfl (Nat.le_of_ble_eq_true rfl) dX3_wronglyClear_2 ⟨Nat.zero_le _, Nat.zero_le _⟩ ?_
  refine lv_aload_n hx hb dX3_wronglyClear_5 rfl (lv_at hl 0 rfl) ?_
  refine k_rd (As := []) (rest := [.int (kX3_called f 0)]) (bytes := cX3_empty) (C := RX3) S (okX3_empty l D cI cZ cQ h a X f  (by assumption)) gX3_wronglyClear_X3_empty rfl ⟨rfl, rfl⟩ ndX3_empty ⟨Nat.le_of_ble_eq_true rfl, Nat.le_of_ble_eq_true rfl⟩ hK hP 0 rfl rfl rfl hl rfl (Nat.le_of_ble_eq_true rfl) dX3_wronglyClear_6 ⟨Nat.zero_le _, Nat.zero_le _⟩ ?_
  refine lv_iconst (v := (-1)) hx hb dX3_wronglyClear_9 (by decide) ?_
  refine lv_ixor hx hb dX3_wronglyClear_10 ?_
  refine lv_iand hx hb dX3_wronglyClear_11 ?_
  have hρ : kX3_wronglyClear f = ((kX3_called f 0) &&& ((kX3_empty f) ^^^ (-1))) := rfl
  exact e_rd hx hb hr hlk dX3_wronglyClear_12 hρ.symm
theorem ndX3_idle : yX3_idle.cls = RX3 ∧ yX3_idle.cls ≠ "java/lang/invoke/MethodHandle" ∧ yX3_idle.cls ≠ "java/lang/invoke/VarHandle" ∧ (parseMethodDescriptor yX3_idle.desc).map (fun d => d.parameters.length) = some 0 := by decide +kernel
set_option maxHeartbeats 4000000 in
set_option maxRecDepth 100000 in
theorem okX3_idle (l : Launch) (D : va_G) (cI cZ cQ : ClassId) (h : Nat) (a : Nat → Nat) (X : va_W) (f : Nat → Nat → Int32) (hok : okL f) : Met l yX3_idle wsX3_idle ({ frames := 1, cells := 0, slots := 0, locals := 23 }) (PR [.ref h] D (TY cI cZ cQ) (LW cI h a f ++ X)) (QR (kX3_idle f)) 0 0 (fun _ => False) := by
  refine m_rd (cc := cX3_idle) (maxL := 1) (ret := (some .int)) (by decide) rfl (Nat.le_of_ble_eq_true rfl) (lv0 := [(0, .ref h)]) rfl ?_
  intro p e s m below meth c ls S hr hlk hP hK hl
  have S : CallFix p m c cX3_idle 1 s ([.ref h] : List Value).toArray wsX3_idle RX3 := S
  have hx := S.1
  have hb := S.2.1
  have hown : s.vm.findClass RX3 = some m.cls := S.2.2.2.1
  have hts := S.2.2.2.2
  refine lv_aload_n hx hb dX3_idle_0 rfl (lv_at hl 0 rfl) ?_
  refine k_rd (As := []) (rest := []) (bytes := cX3_empty) (C := RX3) S (okX3_empty l D cI cZ cQ h a X f  (by assumption)) gX3_idle_X3_empty rfl ⟨rfl, rfl⟩ ndX3_empty ⟨Nat.le_of_ble_eq_true rfl, Nat.le_of_ble_eq_true rfl⟩ hK hP 0 rfl rfl rfl hl rfl (Nat.le_of_ble_eq_true rfl) dX3_idle_1 ⟨Nat.zero_le _, Nat.zero_le _⟩ ?_
  refine lv_aload_n hx hb dX3_idle_4 rfl (lv_at hl 0 rfl) ?_
  refine lv_iconst (v := 0) hx hb dX3_idle_5 (by decide) ?_
  refine k_rd (As := [.int 0]) (rest := [.int (kX3_empty f)]) (bytes := cX3_called) (C := RX3) S (okX3_called l D cI cZ cQ h a X f 0 (by assumption)) gX3_idle_X3_called rfl ⟨rfl, rfl⟩ ndX3_called ⟨Nat.le_of_ble_eq_true rfl, Nat.le_of_ble_eq_true rfl⟩ hK hP 0 rfl rfl rfl hl rfl (Nat.le_of_ble_eq_true rfl) dX3_idle_6 ⟨Nat.zero_le _, Nat.zero_le _⟩ ?_
  refine lv_iconst (v := (-1)) hx hb dX3_idle_9 (by decide) ?_
  refine lv_ixor hx hb dX3_idle_10 ?_
  refine lv_iand hx hb dX3_idle_11 ?_
  have hρ : kX3_idle f = ((kX3_empty f) &&& ((kX3_called f 0) ^^^ (-1))) := rfl
  exact e_rd hx hb hr hlk dX3_idle_12 hρ.symm
theorem ndX3_faultyHeads : yX3_faultyHeads.cls = RX3 ∧ yX3_faultyHeads.cls ≠ "java/lang/invoke/MethodHandle" ∧ yX3_faultyHeads.cls ≠ "java/lang/invoke/VarHandle" ∧ (parseMethodDescriptor yX3_faultyHeads.desc).map (fun d => d.parameters.length) = some 0 := by decide +kernel
set_option maxHeartbeats 4000000 in
set_option maxRecDepth 100000 in
theorem lpX3_faultyHeads_4 {p : Program} {e : Env} {s : State} {m : MethodId} {below : List Frame} {meth : Method} {c : Code} (l : Launch) (D : va_G) (cI cZ cQ : ClassId) (h : Nat) (a : Nat → Nat) (X : va_W) (f : Nat → Nat → Int32) (S : CallFix p m c cX3_faultyHeads 3 s ([.ref h] : List Value).toArray wsX3_faultyHeads RX3) (hr : meth.sig.returnType = (some .int)) (hlk : meth.locks = false) (hK : va_K D vwCl (TY cI cZ cQ) s) (hok : okL f) (hP : va_P D vwCl (LW cI h a f ++ X) s.heap) : ∀ (n i : Nat) (v1 : Int32), i ≤ 7 → 7 - i < n → ∀ {ls : Array Slot}, lv_has ls 3 [(0, .ref h), (1, .int v1), (2, .int (nI i))] → ∀ ρ : Int32, ρ = kX3_faultyHeads_4  n i f v1 → W p l e { frames := 1, cells := 0, slots := 0, locals := 20 } s m ([.ref h] : List Value).toArray below meth c s.heap [] 0 0 (MQ below (QR ρ) ([.ref h] : List Value).toArray s 0 0 (fun _ => False)) (F0 m 4 ls []) := by
  have hx := S.1
  have hb := S.2.1
  have hown : s.vm.findClass RX3 = some m.cls := S.2.2.2.1
  have hts := S.2.2.2.2
  have hinX3 : ∀ w ∈ wsX30, w ∈ wsX3_faultyHeads := by decide +kernel
  intro n
  induction n with
  | zero =>
    intro i _ hi hn
    exact absurd hn (Nat.not_lt_zero _)
  | succ n ih =>
    intro i v1 hi hn  ls hl ρ hρ0
    refine lv_iload_n hx hb dX3_faultyHeads_4 rfl (lv_at hl 2 rfl) ?_
    refine lv_aload_n hx hb dX3_faultyHeads_5 rfl (lv_at hl 0 rfl) ?_
    refine k_rd (As := []) (rest := [.int (nI i)]) (bytes := cX3_heads) (C := RX3) S (okX3_heads l D cI cZ cQ h a X f ) gX3_faultyHeads_X3_heads rfl ⟨rfl, rfl⟩ ndX3_heads ⟨Nat.le_of_ble_eq_true rfl, Nat.le_of_ble_eq_true rfl⟩ hK hP 0 rfl rfl rfl hl rfl (Nat.le_of_ble_eq_true rfl) dX3_faultyHeads_6 ⟨Nat.zero_le _, Nat.zero_le _⟩ ?_
    refine lv_icmp_ge (tgt := 29) hx hb dX3_faultyHeads_9 (by decide) (fun c_9 => ?_) (fun c_9 => ?_)
    · have c_9 : (kX3_heads f) ≤ (nI i) := c_9
      refine lv_iload_n hx hb dX3_faultyHeads_29 rfl (lv_at hl 1 rfl) ?_
      have hρ : kX3_faultyHeads_4  (n + 1) i f v1 = v1 := (if_pos c_9)
      have hρ := hρ0.trans hρ
      exact e_rd hx hb hr hlk dX3_faultyHeads_30 hρ.symm
    have c_9 : ¬ ((kX3_heads f) ≤ (nI i)) := c_9
    have hlt : i < 7 := il_lt (heads_le hok) (by decide) hi c_9
    have hvi : vp_in (nI i) 7 := vp_in_nI hlt (by decide)
    refine lv_iload_n hx hb dX3_faultyHeads_12 rfl (lv_at hl 1 rfl) ?_
    refine lv_aload_n hx hb dX3_faultyHeads_13 rfl (lv_at hl 0 rfl) ?_
    refine va_get (v := .ref (a 6)) (C := RX3) (T := TX3) (N := 15) (ci := 3) hx hb hts hinX3 hown hK hP 0 rfl rfl 6 (by decide) (hts (.fieldLink RX3 21 "AxleKeeper$Line" "faulty" "[I") (by decide +kernel)) (fun _ h9 => h9) rfl dX3_faultyHeads_14 ?_
    refine lv_iload_n hx hb dX3_faultyHeads_17 rfl (lv_at hl 2 rfl) ?_
    refine va_iald hx hb hK hP 4 0 rfl rfl (n := 7) (by assumption) dX3_faultyHeads_18 ?_
    refine lv_iload_n hx hb dX3_faultyHeads_19 rfl (lv_at hl 2 rfl) ?_
    refine lv_ishl hx hb dX3_faultyHeads_20 ?_
    refine lv_ior hx hb dX3_faultyHeads_21 ?_
    refine lv_istore_n (lv' := [(1, .int (v1 ||| ((f 6 (ix (nI i))) <<< ((nI i) &&& 31)))), (0, .ref h), (2, .int (nI i))]) hx hb dX3_faultyHeads_22 rfl hl (by decide) rfl (fun ls hl => ?_)
    refine lv_iinc (v := (nI (i + 1))) (lv' := [(2, .int (nI (i + 1))), (1, .int (v1 ||| ((f 6 (ix (nI i))) <<< ((nI i) &&& 31)))), (0, .ref h)]) hx hb dX3_faultyHeads_23 hl (k := 2) rfl (nI_1 i) (by decide) rfl (fun ls hl => ?_)
    refine lv_goto (tgt := 4) hx hb dX3_faultyHeads_26 (by decide) ?_
    have hρ : kX3_faultyHeads_4  (n + 1) i f v1 = kX3_faultyHeads_4  n (i + 1) f (v1 ||| ((f 6 (ix (nI i))) <<< ((nI i) &&& 31))) := (if_neg c_9)
    have hρ := hρ0.trans hρ
    exact ih  (i + 1) (v1 ||| ((f 6 (ix (nI i))) <<< ((nI i) &&& 31)))   (by omega) (by omega)  (lv_sub hl [2, 1, 0] rfl) _ hρ
set_option maxHeartbeats 4000000 in
set_option maxRecDepth 100000 in
theorem okX3_faultyHeads (l : Launch) (D : va_G) (cI cZ cQ : ClassId) (h : Nat) (a : Nat → Nat) (X : va_W) (f : Nat → Nat → Int32) (hok : okL f) : Met l yX3_faultyHeads wsX3_faultyHeads ({ frames := 1, cells := 0, slots := 0, locals := 20 }) (PR [.ref h] D (TY cI cZ cQ) (LW cI h a f ++ X)) (QR (kX3_faultyHeads f)) 0 0 (fun _ => False) := by
  refine m_rd (cc := cX3_faultyHeads) (maxL := 3) (ret := (some .int)) (by decide) rfl (Nat.le_of_ble_eq_true rfl) (lv0 := [(0, .ref h)]) rfl ?_
  intro p e s m below meth c ls S hr hlk hP hK hl
  have S : CallFix p m c cX3_faultyHeads 3 s ([.ref h] : List Value).toArray wsX3_faultyHeads RX3 := S
  have hx := S.1
  have hb := S.2.1
  have hown : s.vm.findClass RX3 = some m.cls := S.2.2.2.1
  have hts := S.2.2.2.2
  have hinX3 : ∀ w ∈ wsX30, w ∈ wsX3_faultyHeads := by decide +kernel
  refine lv_iconst (v := 0) hx hb dX3_faultyHeads_0 (by decide) ?_
  refine lv_istore_n (lv' := [(1, .int 0), (0, .ref h)]) hx hb dX3_faultyHeads_1 rfl hl (by decide) rfl (fun ls hl => ?_)
  refine lv_iconst (v := 0) hx hb dX3_faultyHeads_2 (by decide) ?_
  refine lv_istore_n (lv' := [(2, .int 0), (1, .int 0), (0, .ref h)]) hx hb dX3_faultyHeads_3 rfl hl (by decide) rfl (fun ls hl => ?_)
  have hρ : kX3_faultyHeads f = kX3_faultyHeads_4  8 0 f 0 := rfl
  exact lpX3_faultyHeads_4 l D cI cZ cQ h a X f S hr hlk hK hok hP 8 0 0   (by omega) (by omega)  (lv_sub hl [2, 1, 0] rfl) _ hρ
theorem ndX3_axlesInAll : yX3_axlesInAll.cls = RX3 ∧ yX3_axlesInAll.cls ≠ "java/lang/invoke/MethodHandle" ∧ yX3_axlesInAll.cls ≠ "java/lang/invoke/VarHandle" ∧ (parseMethodDescriptor yX3_axlesInAll.desc).map (fun d => d.parameters.length) = some 0 := by decide +kernel
set_option maxHeartbeats 4000000 in
set_option maxRecDepth 100000 in
theorem lpX3_axlesInAll_4 {p : Program} {e : Env} {s : State} {m : MethodId} {below : List Frame} {meth : Method} {c : Code} (l : Launch) (D : va_G) (cI cZ cQ : ClassId) (h : Nat) (a : Nat → Nat) (X : va_W) (f : Nat → Nat → Int32) (S : CallFix p m c cX3_axlesInAll 3 s ([.ref h] : List Value).toArray wsX3_axlesInAll RX3) (hr : meth.sig.returnType = (some .int)) (hlk : meth.locks = false) (hK : va_K D vwCl (TY cI cZ cQ) s) (hok : okL f) (hP : va_P D vwCl (LW cI h a f ++ X) s.heap) : ∀ (n i : Nat) (v1 : Int32), i ≤ 6 → 6 - i < n → ∀ {ls : Array Slot}, lv_has ls 3 [(0, .ref h), (1, .int v1), (2, .int (nI i))] → ∀ ρ : Int32, ρ = kX3_axlesInAll_4  n i f v1 → W p l e { frames := 0, cells := 0, slots := 0, locals := 0 } s m ([.ref h] : List Value).toArray below meth c s.heap [] 0 0 (MQ below (QR ρ) ([.ref h] : List Value).toArray s 0 0 (fun _ => False)) (F0 m 4 ls []) := by
  have hx := S.1
  have hb := S.2.1
  have hown : s.vm.findClass RX3 = some m.cls := S.2.2.2.1
  have hts := S.2.2.2.2
  have hinX3 : ∀ w ∈ wsX30, w ∈ wsX3_axlesInAll := by decide +kernel
  intro n
  induction n with
  | zero =>
    intro i _ hi hn
    exact absurd hn (Nat.not_lt_zero _)
  | succ n ih =>
    intro i v1 hi hn  ls hl ρ hρ0
    refine lv_iload_n hx hb dX3_axlesInAll_4 rfl (lv_at hl 2 rfl) ?_
    refine lv_aload_n hx hb dX3_axlesInAll_5 rfl (lv_at hl 0 rfl) ?_
    refine va_get (v := .int (f 0 0)) (C := RX3) (T := TX3) (N := 15) (ci := 3) hx hb hts hinX3 hown hK hP 0 rfl rfl 0 (by decide) (hts (.fieldLink RX3 48 "AxleKeeper$Line" "sections" "I") (by decide +kernel)) (fun _ h9 => h9) rfl dX3_axlesInAll_6 ?_
    refine lv_icmp_ge (tgt := 27) hx hb dX3_axlesInAll_9 (by decide) (fun c_9 => ?_) (fun c_9 => ?_)
    · have c_9 : (f 0 0) ≤ (nI i) := c_9
      refine lv_iload_n hx hb dX3_axlesInAll_27 rfl (lv_at hl 1 rfl) ?_
      have hρ : kX3_axlesInAll_4  (n + 1) i f v1 = v1 := (if_pos c_9)
      have hρ := hρ0.trans hρ
      exact e_rd hx hb hr hlk dX3_axlesInAll_28 hρ.symm
    have c_9 : ¬ ((f 0 0) ≤ (nI i)) := c_9
    have hlt : i < 6 := il_lt hok.2 (by decide) hi c_9
    have hvi : vp_in (nI i) 6 := vp_in_nI hlt (by decide)
    refine lv_iload_n hx hb dX3_axlesInAll_12 rfl (lv_at hl 1 rfl) ?_
    refine lv_aload_n hx hb dX3_axlesInAll_13 rfl (lv_at hl 0 rfl) ?_
    refine va_get (v := .ref (a 14)) (C := RX3) (T := TX3) (N := 15) (ci := 3) hx hb hts hinX3 hown hK hP 0 rfl rfl 14 (by decide) (hts (.fieldLink RX3 45 "AxleKeeper$Line" "axles" "[I") (by decide +kernel)) (fun _ h9 => h9) rfl dX3_axlesInAll_14 ?_
    refine lv_iload_n hx hb dX3_axlesInAll_17 rfl (lv_at hl 2 rfl) ?_
    refine va_iald hx hb hK hP 12 0 rfl rfl (n := 6) (by assumption) dX3_axlesInAll_18 ?_
    refine lv_iadd hx hb dX3_axlesInAll_19 ?_
    refine lv_istore_n (lv' := [(1, .int (v1 + (f 14 (ix (nI i))))), (0, .ref h), (2, .int (nI i))]) hx hb dX3_axlesInAll_20 rfl hl (by decide) rfl (fun ls hl => ?_)
    refine lv_iinc (v := (nI (i + 1))) (lv' := [(2, .int (nI (i + 1))), (1, .int (v1 + (f 14 (ix (nI i))))), (0, .ref h)]) hx hb dX3_axlesInAll_21 hl (k := 2) rfl (nI_1 i) (by decide) rfl (fun ls hl => ?_)
    refine lv_goto (tgt := 4) hx hb dX3_axlesInAll_24 (by decide) ?_
    have hρ : kX3_axlesInAll_4  (n + 1) i f v1 = kX3_axlesInAll_4  n (i + 1) f (v1 + (f 14 (ix (nI i)))) := (if_neg c_9)
    have hρ := hρ0.trans hρ
    exact ih  (i + 1) (v1 + (f 14 (ix (nI i))))   (by omega) (by omega)  (lv_sub hl [2, 1, 0] rfl) _ hρ
set_option maxHeartbeats 4000000 in
set_option maxRecDepth 100000 in
theorem okX3_axlesInAll (l : Launch) (D : va_G) (cI cZ cQ : ClassId) (h : Nat) (a : Nat → Nat) (X : va_W) (f : Nat → Nat → Int32) (hok : okL f) : Met l yX3_axlesInAll wsX3_axlesInAll ({ frames := 0, cells := 0, slots := 0, locals := 0 }) (PR [.ref h] D (TY cI cZ cQ) (LW cI h a f ++ X)) (QR (kX3_axlesInAll f)) 0 0 (fun _ => False) := by
  refine m_rd (cc := cX3_axlesInAll) (maxL := 3) (ret := (some .int)) (by decide) rfl (Nat.le_of_ble_eq_true rfl) (lv0 := [(0, .ref h)]) rfl ?_
  intro p e s m below meth c ls S hr hlk hP hK hl
  have S : CallFix p m c cX3_axlesInAll 3 s ([.ref h] : List Value).toArray wsX3_axlesInAll RX3 := S
  have hx := S.1
  have hb := S.2.1
  have hown : s.vm.findClass RX3 = some m.cls := S.2.2.2.1
  have hts := S.2.2.2.2
  have hinX3 : ∀ w ∈ wsX30, w ∈ wsX3_axlesInAll := by decide +kernel
  refine lv_iconst (v := 0) hx hb dX3_axlesInAll_0 (by decide) ?_
  refine lv_istore_n (lv' := [(1, .int 0), (0, .ref h)]) hx hb dX3_axlesInAll_1 rfl hl (by decide) rfl (fun ls hl => ?_)
  refine lv_iconst (v := 0) hx hb dX3_axlesInAll_2 (by decide) ?_
  refine lv_istore_n (lv' := [(2, .int 0), (1, .int 0), (0, .ref h)]) hx hb dX3_axlesInAll_3 rfl hl (by decide) rfl (fun ls hl => ?_)
  have hρ : kX3_axlesInAll f = kX3_axlesInAll_4  7 0 f 0 := rfl
  exact lpX3_axlesInAll_4 l D cI cZ cQ h a X f S hr hlk hK hok hP 7 0 0   (by omega) (by omega)  (lv_sub hl [2, 1, 0] rfl) _ hρ
theorem ndX3_sumOfAll : yX3_sumOfAll.cls = RX3 ∧ yX3_sumOfAll.cls ≠ "java/lang/invoke/MethodHandle" ∧ yX3_sumOfAll.cls ≠ "java/lang/invoke/VarHandle" ∧ (parseMethodDescriptor yX3_sumOfAll.desc).map (fun d => d.parameters.length) = some 0 := by decide +kernel
set_option maxHeartbeats 4000000 in
set_option maxRecDepth 100000 in
theorem lpX3_sumOfAll_4 {p : Program} {e : Env} {s : State} {m : MethodId} {below : List Frame} {meth : Method} {c : Code} (l : Launch) (D : va_G) (cI cZ cQ : ClassId) (h : Nat) (a : Nat → Nat) (X : va_W) (f : Nat → Nat → Int32) (S : CallFix p m c cX3_sumOfAll 3 s ([.ref h] : List Value).toArray wsX3_sumOfAll RX3) (hr : meth.sig.returnType = (some .int)) (hlk : meth.locks = false) (hK : va_K D vwCl (TY cI cZ cQ) s) (hok : okL f) (hP : va_P D vwCl (LW cI h a f ++ X) s.heap) : ∀ (n i : Nat) (v1 : Int32), i ≤ 6 → 6 - i < n → ∀ {ls : Array Slot}, lv_has ls 3 [(0, .ref h), (1, .int v1), (2, .int (nI i))] → ∀ ρ : Int32, ρ = kX3_sumOfAll_4  n i f v1 → W p l e { frames := 0, cells := 0, slots := 0, locals := 0 } s m ([.ref h] : List Value).toArray below meth c s.heap [] 0 0 (MQ below (QR ρ) ([.ref h] : List Value).toArray s 0 0 (fun _ => False)) (F0 m 4 ls []) := by
  have hx := S.1
  have hb := S.2.1
  have hown : s.vm.findClass RX3 = some m.cls := S.2.2.2.1
  have hts := S.2.2.2.2
  have hinX3 : ∀ w ∈ wsX30, w ∈ wsX3_sumOfAll := by decide +kernel
  intro n
  induction n with
  | zero =>
    intro i _ hi hn
    exact absurd hn (Nat.not_lt_zero _)
  | succ n ih =>
    intro i v1 hi hn  ls hl ρ hρ0
    refine lv_iload_n hx hb dX3_sumOfAll_4 rfl (lv_at hl 2 rfl) ?_
    refine lv_aload_n hx hb dX3_sumOfAll_5 rfl (lv_at hl 0 rfl) ?_
    refine va_get (v := .int (f 0 0)) (C := RX3) (T := TX3) (N := 15) (ci := 3) hx hb hts hinX3 hown hK hP 0 rfl rfl 0 (by decide) (hts (.fieldLink RX3 48 "AxleKeeper$Line" "sections" "I") (by decide +kernel)) (fun _ h9 => h9) rfl dX3_sumOfAll_6 ?_
    refine lv_icmp_ge (tgt := 27) hx hb dX3_sumOfAll_9 (by decide) (fun c_9 => ?_) (fun c_9 => ?_)
    · have c_9 : (f 0 0) ≤ (nI i) := c_9
      refine lv_iload_n hx hb dX3_sumOfAll_27 rfl (lv_at hl 1 rfl) ?_
      have hρ : kX3_sumOfAll_4  (n + 1) i f v1 = v1 := (if_pos c_9)
      have hρ := hρ0.trans hρ
      exact e_rd hx hb hr hlk dX3_sumOfAll_28 hρ.symm
    have c_9 : ¬ ((f 0 0) ≤ (nI i)) := c_9
    have hlt : i < 6 := il_lt hok.2 (by decide) hi c_9
    have hvi : vp_in (nI i) 6 := vp_in_nI hlt (by decide)
    refine lv_iload_n hx hb dX3_sumOfAll_12 rfl (lv_at hl 1 rfl) ?_
    refine lv_aload_n hx hb dX3_sumOfAll_13 rfl (lv_at hl 0 rfl) ?_
    refine va_get (v := .ref (a 11)) (C := RX3) (T := TX3) (N := 15) (ci := 3) hx hb hts hinX3 hown hK hP 0 rfl rfl 11 (by decide) (hts (.fieldLink RX3 36 "AxleKeeper$Line" "sum" "[I") (by decide +kernel)) (fun _ h9 => h9) rfl dX3_sumOfAll_14 ?_
    refine lv_iload_n hx hb dX3_sumOfAll_17 rfl (lv_at hl 2 rfl) ?_
    refine va_iald hx hb hK hP 9 0 rfl rfl (n := 6) (by assumption) dX3_sumOfAll_18 ?_
    refine lv_iadd hx hb dX3_sumOfAll_19 ?_
    refine lv_istore_n (lv' := [(1, .int (v1 + (f 11 (ix (nI i))))), (0, .ref h), (2, .int (nI i))]) hx hb dX3_sumOfAll_20 rfl hl (by decide) rfl (fun ls hl => ?_)
    refine lv_iinc (v := (nI (i + 1))) (lv' := [(2, .int (nI (i + 1))), (1, .int (v1 + (f 11 (ix (nI i))))), (0, .ref h)]) hx hb dX3_sumOfAll_21 hl (k := 2) rfl (nI_1 i) (by decide) rfl (fun ls hl => ?_)
    refine lv_goto (tgt := 4) hx hb dX3_sumOfAll_24 (by decide) ?_
    have hρ : kX3_sumOfAll_4  (n + 1) i f v1 = kX3_sumOfAll_4  n (i + 1) f (v1 + (f 11 (ix (nI i)))) := (if_neg c_9)
    have hρ := hρ0.trans hρ
    exact ih  (i + 1) (v1 + (f 11 (ix (nI i))))   (by omega) (by omega)  (lv_sub hl [2, 1, 0] rfl) _ hρ
set_option maxHeartbeats 4000000 in
set_option maxRecDepth 100000 in
theorem okX3_sumOfAll (l : Launch) (D : va_G) (cI cZ cQ : ClassId) (h : Nat) (a : Nat → Nat) (X : va_W) (f : Nat → Nat → Int32) (hok : okL f) : Met l yX3_sumOfAll wsX3_sumOfAll ({ frames := 0, cells := 0, slots := 0, locals := 0 }) (PR [.ref h] D (TY cI cZ cQ) (LW cI h a f ++ X)) (QR (kX3_sumOfAll f)) 0 0 (fun _ => False) := by
  refine m_rd (cc := cX3_sumOfAll) (maxL := 3) (ret := (some .int)) (by decide) rfl (Nat.le_of_ble_eq_true rfl) (lv0 := [(0, .ref h)]) rfl ?_
  intro p e s m below meth c ls S hr hlk hP hK hl
  have S : CallFix p m c cX3_sumOfAll 3 s ([.ref h] : List Value).toArray wsX3_sumOfAll RX3 := S
  have hx := S.1
  have hb := S.2.1
  have hown : s.vm.findClass RX3 = some m.cls := S.2.2.2.1
  have hts := S.2.2.2.2
  have hinX3 : ∀ w ∈ wsX30, w ∈ wsX3_sumOfAll := by decide +kernel
  refine lv_iconst (v := 0) hx hb dX3_sumOfAll_0 (by decide) ?_
  refine lv_istore_n (lv' := [(1, .int 0), (0, .ref h)]) hx hb dX3_sumOfAll_1 rfl hl (by decide) rfl (fun ls hl => ?_)
  refine lv_iconst (v := 0) hx hb dX3_sumOfAll_2 (by decide) ?_
  refine lv_istore_n (lv' := [(2, .int 0), (1, .int 0), (0, .ref h)]) hx hb dX3_sumOfAll_3 rfl hl (by decide) rfl (fun ls hl => ?_)
  have hρ : kX3_sumOfAll f = kX3_sumOfAll_4  7 0 f 0 := rfl
  exact lpX3_sumOfAll_4 l D cI cZ cQ h a X f S hr hlk hK hok hP 7 0 0   (by omega) (by omega)  (lv_sub hl [2, 1, 0] rfl) _ hρ
theorem ndX3_explains : yX3_explains.cls = RX3 ∧ yX3_explains.cls ≠ "java/lang/invoke/MethodHandle" ∧ yX3_explains.cls ≠ "java/lang/invoke/VarHandle" ∧ (parseMethodDescriptor yX3_explains.desc).map (fun d => d.parameters.length) = some 2 := by decide +kernel
set_option maxHeartbeats 4000000 in
set_option maxRecDepth 100000 in
theorem lpX3_explains_2 {p : Program} {e : Env} {s : State} {m : MethodId} {below : List Frame} {meth : Method} {c : Code} (l : Launch) (D : va_G) (cI cZ cQ : ClassId) (h : Nat) (a : Nat → Nat) (X : va_W) (x1 x2 : Int32) (f : Nat → Nat → Int32) (S : CallFix p m c cX3_explains 5 s ([.ref h, .int x1, .int x2] : List Value).toArray wsX3_explains RX3) (hr : meth.sig.returnType = (some .boolean)) (hlk : meth.locks = false) (hK : va_K D vwCl (TY cI cZ cQ) s) (hok : okL f) (hP : va_P D vwCl (LW cI h a f ++ X) s.heap) : ∀ (n i : Nat), i ≤ 6 → 6 - i < n → ∀ {ls : Array Slot}, lv_has ls 5 [(0, .ref h), (1, .int x1), (2, .int x2), (3, .int (nI i))] → ∀ ρ : Int32, ρ = kX3_explains_2 x1 x2 n i f → W p l e { frames := 1, cells := 0, slots := 0, locals := 21 } s m ([.ref h, .int x1, .int x2] : List Value).toArray below meth c s.heap [] 0 0 (MQ below (QR ρ) ([.ref h, .int x1, .int x2] : List Value).toArray s 0 0 (fun _ => False)) (F0 m 2 ls []) := by
  have hx := S.1
  have hb := S.2.1
  have hown : s.vm.findClass RX3 = some m.cls := S.2.2.2.1
  have hts := S.2.2.2.2
  have hinX3 : ∀ w ∈ wsX30, w ∈ wsX3_explains := by decide +kernel
  intro n
  induction n with
  | zero =>
    intro i  hi hn
    exact absurd hn (Nat.not_lt_zero _)
  | succ n ih =>
    intro i  hi hn  ls hl ρ hρ0
    refine lv_iload_n hx hb dX3_explains_2 rfl (lv_at hl 3 rfl) ?_
    refine lv_aload_n hx hb dX3_explains_3 rfl (lv_at hl 0 rfl) ?_
    refine va_get (v := .int (f 0 0)) (C := RX3) (T := TX3) (N := 15) (ci := 3) hx hb hts hinX3 hown hK hP 0 rfl rfl 0 (by decide) (hts (.fieldLink RX3 48 "AxleKeeper$Line" "sections" "I") (by decide +kernel)) (fun _ h9 => h9) rfl dX3_explains_4 ?_
    refine lv_icmp_ge (tgt := 61) hx hb dX3_explains_7 (by decide) (fun c_7 => ?_) (fun c_7 => ?_)
    · have c_7 : (f 0 0) ≤ (nI i) := c_7
      refine lv_iconst (v := 1) hx hb dX3_explains_61 (by decide) ?_
      have hρ : kX3_explains_2 x1 x2 (n + 1) i f = 1 := (if_pos c_7)
      have hρ := hρ0.trans hρ
      exact e_rz hx hb hr hlk dX3_explains_62 rfl hρ.symm
    have c_7 : ¬ ((f 0 0) ≤ (nI i)) := c_7
    have hlt : i < 6 := il_lt hok.2 (by decide) hi c_7
    have hvi : vp_in (nI i) 6 := vp_in_nI hlt (by decide)
    refine lv_aload_n hx hb dX3_explains_10 rfl (lv_at hl 0 rfl) ?_
    refine va_get (v := .ref (a 11)) (C := RX3) (T := TX3) (N := 15) (ci := 3) hx hb hts hinX3 hown hK hP 0 rfl rfl 11 (by decide) (hts (.fieldLink RX3 36 "AxleKeeper$Line" "sum" "[I") (by decide +kernel)) (fun _ h9 => h9) rfl dX3_explains_11 ?_
    refine lv_iload_n hx hb dX3_explains_14 rfl (lv_at hl 3 rfl) ?_
    refine va_iald hx hb hK hP 9 0 rfl rfl (n := 6) (by assumption) dX3_explains_15 ?_
    refine lv_istore (lv' := [(4, .int (f 11 (ix (nI i)))), (0, .ref h), (1, .int x1), (2, .int x2), (3, .int (nI i))]) hx hb dX3_explains_16 hl (by decide) rfl (fun ls hl => ?_)
    refine lv_iload_n hx hb dX3_explains_18 rfl (lv_at hl 4 rfl) ?_
    refine lv_aload_n hx hb dX3_explains_19 rfl (lv_at hl 1 rfl) ?_
    refine lv_iload_n hx hb dX3_explains_20 rfl (lv_at hl 2 rfl) ?_
    refine k_rd (As := [.int x1]) (rest := [.int (nI i)]) (bytes := cX3_rightOf) (C := RX3) S (okX3_rightOf l D cI cZ cQ h a X f x1) gX3_explains_X3_rightOf rfl ⟨rfl, rfl⟩ ndX3_rightOf ⟨Nat.le_of_ble_eq_true rfl, Nat.le_of_ble_eq_true rfl⟩ hK hP 0 rfl rfl rfl hl rfl (Nat.le_of_ble_eq_true rfl) dX3_explains_21 ⟨Nat.zero_le _, Nat.zero_le _⟩ ?_
    refine lv_icmp_ne (tgt := 33) hx hb dX3_explains_24 (by decide) (fun c_24 => ?_) (fun c_24 => ?_)
    · have c_24 : ¬ ((nI i) = (kX3_rightOf f x1)) := c_24
      refine lv_iload_n hx hb dX3_explains_33 rfl (lv_at hl 4 rfl) ?_
      refine lv_aload_n hx hb dX3_explains_34 rfl (lv_at hl 1 rfl) ?_
      refine lv_iload_n hx hb dX3_explains_35 rfl (lv_at hl 2 rfl) ?_
      refine k_rd (As := [.int x1]) (rest := [.int (nI i)]) (bytes := cX3_leftOf) (C := RX3) S (okX3_leftOf l D cI cZ cQ h a X f x1) gX3_explains_X3_leftOf rfl ⟨rfl, rfl⟩ ndX3_leftOf ⟨Nat.le_of_ble_eq_true rfl, Nat.le_of_ble_eq_true rfl⟩ hK hP 0 rfl rfl rfl hl rfl (Nat.le_of_ble_eq_true rfl) dX3_explains_36 ⟨Nat.zero_le _, Nat.zero_le _⟩ ?_
      refine lv_icmp_ne (tgt := 48) hx hb dX3_explains_39 (by decide) (fun c_39 => ?_) (fun c_39 => ?_)
      · have c_39 : ¬ ((nI i) = (kX3_leftOf f x1)) := c_39
        refine lv_iload hx hb dX3_explains_48 (lv_at hl 0 rfl) ?_
        refine lv_if_ge (tgt := 55) hx hb dX3_explains_50 (by decide) (fun c_50 => ?_) (fun c_50 => ?_)
        · have c_50 : 0 ≤ (f 11 (ix (nI i))) := c_50
          refine lv_iinc (v := (nI (i + 1))) (lv' := [(3, .int (nI (i + 1))), (4, .int (f 11 (ix (nI i)))), (0, .ref h), (1, .int x1), (2, .int x2)]) hx hb dX3_explains_55 hl (k := 4) rfl (nI_1 i) (by decide) rfl (fun ls hl => ?_)
          refine lv_goto (tgt := 2) hx hb dX3_explains_58 (by decide) ?_
          have hρ : kX3_explains_2 x1 x2 (n + 1) i f = kX3_explains_2 x1 x2 n (i + 1) f := (if_neg c_7).trans ((if_neg c_24).trans ((if_neg c_39).trans ((if_pos c_50))))
          have hρ := hρ0.trans hρ
          exact ih  (i + 1)    (by omega) (by omega)  (lv_sub hl [2, 3, 4, 0] rfl) _ hρ
        have c_50 : ¬ (0 ≤ (f 11 (ix (nI i)))) := c_50
        refine lv_iconst (v := 0) hx hb dX3_explains_53 (by decide) ?_
        have hρ : kX3_explains_2 x1 x2 (n + 1) i f = 0 := (if_neg c_7).trans ((if_neg c_24).trans ((if_neg c_39).trans ((if_neg c_50))))
        have hρ := hρ0.trans hρ
        exact e_rz hx hb hr hlk dX3_explains_54 rfl hρ.symm
      have c_39 : (nI i) = (kX3_leftOf f x1) := c_39
      refine lv_iload hx hb dX3_explains_42 (lv_at hl 0 rfl) ?_
      refine lv_iload_n hx hb dX3_explains_44 rfl (lv_at hl 3 rfl) ?_
      refine lv_isub hx hb dX3_explains_45 ?_
      refine lv_istore (lv' := [(4, .int ((f 11 (ix (nI i))) - x2)), (0, .ref h), (1, .int x1), (2, .int x2), (3, .int (nI i))]) hx hb dX3_explains_46 hl (by decide) rfl (fun ls hl => ?_)
      refine lv_iload hx hb dX3_explains_48 (lv_at hl 0 rfl) ?_
      refine lv_if_ge (tgt := 55) hx hb dX3_explains_50 (by decide) (fun c_50 => ?_) (fun c_50 => ?_)
      · have c_50 : 0 ≤ ((f 11 (ix (nI i))) - x2) := c_50
        refine lv_iinc (v := (nI (i + 1))) (lv' := [(3, .int (nI (i + 1))), (4, .int ((f 11 (ix (nI i))) - x2)), (0, .ref h), (1, .int x1), (2, .int x2)]) hx hb dX3_explains_55 hl (k := 4) rfl (nI_1 i) (by decide) rfl (fun ls hl => ?_)
        refine lv_goto (tgt := 2) hx hb dX3_explains_58 (by decide) ?_
        have hρ : kX3_explains_2 x1 x2 (n + 1) i f = kX3_explains_2 x1 x2 n (i + 1) f := (if_neg c_7).trans ((if_neg c_24).trans ((if_pos c_39).trans ((if_pos c_50))))
        have hρ := hρ0.trans hρ
        exact ih  (i + 1)    (by omega) (by omega)  (lv_sub hl [2, 3, 4, 0] rfl) _ hρ
      have c_50 : ¬ (0 ≤ ((f 11 (ix (nI i))) - x2)) := c_50
      refine lv_iconst (v := 0) hx hb dX3_explains_53 (by decide) ?_
      have hρ : kX3_explains_2 x1 x2 (n + 1) i f = 0 := (if_neg c_7).trans ((if_neg c_24).trans ((if_pos c_39).trans ((if_neg c_50))))
      have hρ := hρ0.trans hρ
      exact e_rz hx hb hr hlk dX3_explains_54 rfl hρ.symm
    have c_24 : (nI i) = (kX3_rightOf f x1) := c_24
    refine lv_iload hx hb dX3_explains_27 (lv_at hl 0 rfl) ?_
    refine lv_iload_n hx hb dX3_explains_29 rfl (lv_at hl 3 rfl) ?_
    refine lv_iadd hx hb dX3_explains_30 ?_
    refine lv_istore (lv' := [(4, .int ((f 11 (ix (nI i))) + x2)), (0, .ref h), (1, .int x1), (2, .int x2), (3, .int (nI i))]) hx hb dX3_explains_31 hl (by decide) rfl (fun ls hl => ?_)
    refine lv_iload_n hx hb dX3_explains_33 rfl (lv_at hl 4 rfl) ?_
    refine lv_aload_n hx hb dX3_explains_34 rfl (lv_at hl 1 rfl) ?_
    refine lv_iload_n hx hb dX3_explains_35 rfl (lv_at hl 2 rfl) ?_
    refine k_rd (As := [.int x1]) (rest := [.int (nI i)]) (bytes := cX3_leftOf) (C := RX3) S (okX3_leftOf l D cI cZ cQ h a X f x1) gX3_explains_X3_leftOf rfl ⟨rfl, rfl⟩ ndX3_leftOf ⟨Nat.le_of_ble_eq_true rfl, Nat.le_of_ble_eq_true rfl⟩ hK hP 0 rfl rfl rfl hl rfl (Nat.le_of_ble_eq_true rfl) dX3_explains_36 ⟨Nat.zero_le _, Nat.zero_le _⟩ ?_
    refine lv_icmp_ne (tgt := 48) hx hb dX3_explains_39 (by decide) (fun c_39 => ?_) (fun c_39 => ?_)
    · have c_39 : ¬ ((nI i) = (kX3_leftOf f x1)) := c_39
      refine lv_iload hx hb dX3_explains_48 (lv_at hl 0 rfl) ?_
      refine lv_if_ge (tgt := 55) hx hb dX3_explains_50 (by decide) (fun c_50 => ?_) (fun c_50 => ?_)
      · have c_50 : 0 ≤ ((f 11 (ix (nI i))) + x2) := c_50
        refine lv_iinc (v := (nI (i + 1))) (lv' := [(3, .int (nI (i + 1))), (4, .int ((f 11 (ix (nI i))) + x2)), (0, .ref h), (1, .int x1), (2, .int x2)]) hx hb dX3_explains_55 hl (k := 4) rfl (nI_1 i) (by decide) rfl (fun ls hl => ?_)
        refine lv_goto (tgt := 2) hx hb dX3_explains_58 (by decide) ?_
        have hρ : kX3_explains_2 x1 x2 (n + 1) i f = kX3_explains_2 x1 x2 n (i + 1) f := (if_neg c_7).trans ((if_pos c_24).trans ((if_neg c_39).trans ((if_pos c_50))))
        have hρ := hρ0.trans hρ
        exact ih  (i + 1)    (by omega) (by omega)  (lv_sub hl [2, 3, 4, 0] rfl) _ hρ
      have c_50 : ¬ (0 ≤ ((f 11 (ix (nI i))) + x2)) := c_50
      refine lv_iconst (v := 0) hx hb dX3_explains_53 (by decide) ?_
      have hρ : kX3_explains_2 x1 x2 (n + 1) i f = 0 := (if_neg c_7).trans ((if_pos c_24).trans ((if_neg c_39).trans ((if_neg c_50))))
      have hρ := hρ0.trans hρ
      exact e_rz hx hb hr hlk dX3_explains_54 rfl hρ.symm
    have c_39 : (nI i) = (kX3_leftOf f x1) := c_39
    refine lv_iload hx hb dX3_explains_42 (lv_at hl 0 rfl) ?_
    refine lv_iload_n hx hb dX3_explains_44 rfl (lv_at hl 3 rfl) ?_
    refine lv_isub hx hb dX3_explains_45 ?_
    refine lv_istore (lv' := [(4, .int (((f 11 (ix (nI i))) + x2) - x2)), (0, .ref h), (1, .int x1), (2, .int x2), (3, .int (nI i))]) hx hb dX3_explains_46 hl (by decide) rfl (fun ls hl => ?_)
    refine lv_iload hx hb dX3_explains_48 (lv_at hl 0 rfl) ?_
    refine lv_if_ge (tgt := 55) hx hb dX3_explains_50 (by decide) (fun c_50 => ?_) (fun c_50 => ?_)
    · have c_50 : 0 ≤ (((f 11 (ix (nI i))) + x2) - x2) := c_50
      refine lv_iinc (v := (nI (i + 1))) (lv' := [(3, .int (nI (i + 1))), (4, .int (((f 11 (ix (nI i))) + x2) - x2)), (0, .ref h), (1, .int x1), (2, .int x2)]) hx hb dX3_explains_55 hl (k := 4) rfl (nI_1 i) (by decide) rfl (fun ls hl => ?_)
      refine lv_goto (tgt := 2) hx hb dX3_explains_58 (by decide) ?_
      have hρ : kX3_explains_2 x1 x2 (n + 1) i f = kX3_explains_2 x1 x2 n (i + 1) f := (if_neg c_7).trans ((if_pos c_24).trans ((if_pos c_39).trans ((if_pos c_50))))
      have hρ := hρ0.trans hρ
      exact ih  (i + 1)    (by omega) (by omega)  (lv_sub hl [2, 3, 4, 0] rfl) _ hρ
    have c_50 : ¬ (0 ≤ (((f 11 (ix (nI i))) + x2) - x2)) := c_50
    refine lv_iconst (v := 0) hx hb dX3_explains_53 (by decide) ?_
    have hρ : kX3_explains_2 x1 x2 (n + 1) i f = 0 := (if_neg c_7).trans ((if_pos c_24).trans ((if_pos c_39).trans ((if_neg c_50))))
    have hρ := hρ0.trans hρ
    exact e_rz hx hb hr hlk dX3_explains_54 rfl hρ.symm
set_option maxHeartbeats 4000000 in
set_option maxRecDepth 100000 in
theorem okX3_explains (l : Launch) (D : va_G) (cI cZ cQ : ClassId) (h : Nat) (a : Nat → Nat) (X : va_W) (f : Nat → Nat → Int32) (x1 x2 : Int32) (hok : okL f) : Met l yX3_explains wsX3_explains ({ frames := 1, cells := 0, slots := 0, locals := 21 }) (PR [.ref h, .int x1, .int x2] D (TY cI cZ cQ) (LW cI h a f ++ X)) (QR (kX3_explains f x1 x2)) 0 0 (fun _ => False) := by
  refine m_rd (cc := cX3_explains) (maxL := 5) (ret := (some .boolean)) (by decide) rfl (Nat.le_of_ble_eq_true rfl) (lv0 := [(0, .ref h), (1, .int x1), (2, .int x2)]) rfl ?_
  intro p e s m below meth c ls S hr hlk hP hK hl
  have S : CallFix p m c cX3_explains 5 s ([.ref h, .int x1, .int x2] : List Value).toArray wsX3_explains RX3 := S
  have hx := S.1
  have hb := S.2.1
  have hown : s.vm.findClass RX3 = some m.cls := S.2.2.2.1
  have hts := S.2.2.2.2
  have hinX3 : ∀ w ∈ wsX30, w ∈ wsX3_explains := by decide +kernel
  refine lv_iconst (v := 0) hx hb dX3_explains_0 (by decide) ?_
  refine lv_istore_n (lv' := [(3, .int 0), (0, .ref h), (1, .int x1), (2, .int x2)]) hx hb dX3_explains_1 rfl hl (by decide) rfl (fun ls hl => ?_)
  have hρ : kX3_explains f x1 x2 = kX3_explains_2 x1 x2 7 0 f := rfl
  exact lpX3_explains_2 l D cI cZ cQ h a X x1 x2 f S hr hlk hK hok hP 7 0    (by omega) (by omega)  (lv_sub hl [1, 2, 3, 0] rfl) _ hρ
theorem ndX3_miscount : yX3_miscount.cls = RX3 ∧ yX3_miscount.cls ≠ "java/lang/invoke/MethodHandle" ∧ yX3_miscount.cls ≠ "java/lang/invoke/VarHandle" ∧ (parseMethodDescriptor yX3_miscount.desc).map (fun d => d.parameters.length) = some 1 := by decide +kernel
set_option maxHeartbeats 4000000 in
set_option maxRecDepth 100000 in
theorem lpX3_miscount_13 {p : Program} {e : Env} {s : State} {m : MethodId} {below : List Frame} {meth : Method} {c : Code} (l : Launch) (D : va_G) (cI cZ cQ : ClassId) (h : Nat) (a : Nat → Nat) (X : va_W) (x1 : Int32) (f : Nat → Nat → Int32) (S : CallFix p m c cX3_miscount 3 s ([.ref h, .int x1] : List Value).toArray wsX3_miscount RX3) (hr : meth.sig.returnType = (some .int)) (hlk : meth.locks = false) (hK : va_K D vwCl (TY cI cZ cQ) s) (hok : okL f) (hP : va_P D vwCl (LW cI h a f ++ X) s.heap) : ∀ (n i : Nat), i ≤ 10 → 10 - i < n → ∀ {ls : Array Slot}, lv_has ls 3 [(0, .ref h), (1, .int x1), (2, .int (nI i))] → ∀ ρ : Int32, ρ = kX3_miscount_13 x1 n i f → W p l e { frames := 2, cells := 0, slots := 0, locals := 45 } s m ([.ref h, .int x1] : List Value).toArray below meth c s.heap [] 0 0 (MQ below (QR ρ) ([.ref h, .int x1] : List Value).toArray s 0 0 (fun _ => False)) (F0 m 13 ls []) := by
  have hx := S.1
  have hb := S.2.1
  have hown : s.vm.findClass RX3 = some m.cls := S.2.2.2.1
  have hts := S.2.2.2.2
  intro n
  induction n with
  | zero =>
    intro i  hi hn
    exact absurd hn (Nat.not_lt_zero _)
  | succ n ih =>
    intro i  hi hn  ls hl ρ hρ0
    refine lv_iload_n hx hb dX3_miscount_13 rfl (lv_at hl 2 rfl) ?_
    refine lv_bipush (v := 9) hx hb dX3_miscount_14 (by decide) ?_
    refine lv_icmp_gt (tgt := 49) hx hb dX3_miscount_16 (by decide) (fun c_16 => ?_) (fun c_16 => ?_)
    · have c_16 : 9 < (nI i) := c_16
      refine lv_iconst (v := 0) hx hb dX3_miscount_49 (by decide) ?_
      have hρ : kX3_miscount_13 x1 (n + 1) i f = 0 := (if_pos c_16)
      have hρ := hρ0.trans hρ
      exact e_rd hx hb hr hlk dX3_miscount_50 hρ.symm
    have c_16 : ¬ (9 < (nI i)) := c_16
    have hlt : i < 10 := il_gt hi c_16
    refine lv_aload_n hx hb dX3_miscount_19 rfl (lv_at hl 0 rfl) ?_
    refine lv_iload_n hx hb dX3_miscount_20 rfl (lv_at hl 1 rfl) ?_
    refine lv_iload_n hx hb dX3_miscount_21 rfl (lv_at hl 2 rfl) ?_
    refine k_rd (As := [.int x1, .int (nI i)]) (rest := []) (bytes := cX3_explains) (C := RX3) S (okX3_explains l D cI cZ cQ h a X f x1 (nI i) (by assumption)) gX3_miscount_X3_explains rfl ⟨rfl, rfl⟩ ndX3_explains ⟨Nat.le_of_ble_eq_true rfl, Nat.le_of_ble_eq_true rfl⟩ hK hP 0 rfl rfl rfl hl rfl (Nat.le_of_ble_eq_true rfl) dX3_miscount_22 ⟨Nat.zero_le _, Nat.zero_le _⟩ ?_
    refine lv_if_eq (tgt := 30) hx hb dX3_miscount_25 (by decide) (fun c_25 => ?_) (fun c_25 => ?_)
    · have c_25 : (kX3_explains f x1 (nI i)) = 0 := c_25
      refine lv_aload_n hx hb dX3_miscount_30 rfl (lv_at hl 0 rfl) ?_
      refine lv_iload_n hx hb dX3_miscount_31 rfl (lv_at hl 1 rfl) ?_
      refine lv_iload_n hx hb dX3_miscount_32 rfl (lv_at hl 2 rfl) ?_
      refine lv_ineg hx hb dX3_miscount_33 ?_
      refine k_rd (As := [.int x1, .int (-(nI i))]) (rest := []) (bytes := cX3_explains) (C := RX3) S (okX3_explains l D cI cZ cQ h a X f x1 (-(nI i)) (by assumption)) gX3_miscount_X3_explains rfl ⟨rfl, rfl⟩ ndX3_explains ⟨Nat.le_of_ble_eq_true rfl, Nat.le_of_ble_eq_true rfl⟩ hK hP 0 rfl rfl rfl hl rfl (Nat.le_of_ble_eq_true rfl) dX3_miscount_34 ⟨Nat.zero_le _, Nat.zero_le _⟩ ?_
      refine lv_if_eq (tgt := 43) hx hb dX3_miscount_37 (by decide) (fun c_37 => ?_) (fun c_37 => ?_)
      · have c_37 : (kX3_explains f x1 (-(nI i))) = 0 := c_37
        refine lv_iinc (v := (nI (i + 1))) (lv' := [(2, .int (nI (i + 1))), (0, .ref h), (1, .int x1)]) hx hb dX3_miscount_43 hl (k := 2) rfl (nI_1 i) (by decide) rfl (fun ls hl => ?_)
        refine lv_goto (tgt := 13) hx hb dX3_miscount_46 (by decide) ?_
        have hρ : kX3_miscount_13 x1 (n + 1) i f = kX3_miscount_13 x1 n (i + 1) f := (if_neg c_16).trans ((if_pos c_25).trans ((if_pos c_37)))
        have hρ := hρ0.trans hρ
        exact ih  (i + 1)    (by omega) (by omega)  (lv_sub hl [1, 2, 0] rfl) _ hρ
      have c_37 : ¬ ((kX3_explains f x1 (-(nI i))) = 0) := c_37
      refine lv_iload_n hx hb dX3_miscount_40 rfl (lv_at hl 2 rfl) ?_
      refine lv_ineg hx hb dX3_miscount_41 ?_
      have hρ : kX3_miscount_13 x1 (n + 1) i f = (-(nI i)) := (if_neg c_16).trans ((if_pos c_25).trans ((if_neg c_37)))
      have hρ := hρ0.trans hρ
      exact e_rd hx hb hr hlk dX3_miscount_42 hρ.symm
    have c_25 : ¬ ((kX3_explains f x1 (nI i)) = 0) := c_25
    refine lv_iload_n hx hb dX3_miscount_28 rfl (lv_at hl 2 rfl) ?_
    have hρ : kX3_miscount_13 x1 (n + 1) i f = (nI i) := (if_neg c_16).trans ((if_neg c_25))
    have hρ := hρ0.trans hρ
    exact e_rd hx hb hr hlk dX3_miscount_29 hρ.symm
set_option maxHeartbeats 4000000 in
set_option maxRecDepth 100000 in
theorem okX3_miscount (l : Launch) (D : va_G) (cI cZ cQ : ClassId) (h : Nat) (a : Nat → Nat) (X : va_W) (f : Nat → Nat → Int32) (x1 : Int32) (hok : okL f) : Met l yX3_miscount wsX3_miscount ({ frames := 2, cells := 0, slots := 0, locals := 45 }) (PR [.ref h, .int x1] D (TY cI cZ cQ) (LW cI h a f ++ X)) (QR (kX3_miscount f x1)) 0 0 (fun _ => False) := by
  refine m_rd (cc := cX3_miscount) (maxL := 3) (ret := (some .int)) (by decide) rfl (Nat.le_of_ble_eq_true rfl) (lv0 := [(0, .ref h), (1, .int x1)]) rfl ?_
  intro p e s m below meth c ls S hr hlk hP hK hl
  have S : CallFix p m c cX3_miscount 3 s ([.ref h, .int x1] : List Value).toArray wsX3_miscount RX3 := S
  have hx := S.1
  have hb := S.2.1
  have hown : s.vm.findClass RX3 = some m.cls := S.2.2.2.1
  have hts := S.2.2.2.2
  refine lv_aload_n hx hb dX3_miscount_0 rfl (lv_at hl 0 rfl) ?_
  refine lv_iload_n hx hb dX3_miscount_1 rfl (lv_at hl 1 rfl) ?_
  refine lv_iconst (v := 0) hx hb dX3_miscount_2 (by decide) ?_
  refine k_rd (As := [.int x1, .int 0]) (rest := []) (bytes := cX3_explains) (C := RX3) S (okX3_explains l D cI cZ cQ h a X f x1 0 (by assumption)) gX3_miscount_X3_explains rfl ⟨rfl, rfl⟩ ndX3_explains ⟨Nat.le_of_ble_eq_true rfl, Nat.le_of_ble_eq_true rfl⟩ hK hP 0 rfl rfl rfl hl rfl (Nat.le_of_ble_eq_true rfl) dX3_miscount_3 ⟨Nat.zero_le _, Nat.zero_le _⟩ ?_
  refine lv_if_eq (tgt := 11) hx hb dX3_miscount_6 (by decide) (fun c_6 => ?_) (fun c_6 => ?_)
  · have c_6 : (kX3_explains f x1 0) = 0 := c_6
    refine lv_iconst (v := 1) hx hb dX3_miscount_11 (by decide) ?_
    refine lv_istore_n (lv' := [(2, .int 1), (0, .ref h), (1, .int x1)]) hx hb dX3_miscount_12 rfl hl (by decide) rfl (fun ls hl => ?_)
    have hρ : kX3_miscount f x1 = kX3_miscount_13 x1 10 1 f := (if_pos c_6)
    exact lpX3_miscount_13 l D cI cZ cQ h a X x1 f S hr hlk hK hok hP 10 1    (by omega) (by omega)  (lv_sub hl [1, 2, 0] rfl) _ hρ
  have c_6 : ¬ ((kX3_explains f x1 0) = 0) := c_6
  refine lv_iconst (v := 0) hx hb dX3_miscount_9 (by decide) ?_
  have hρ : kX3_miscount f x1 = 0 := (if_neg c_6)
  exact e_rd hx hb hr hlk dX3_miscount_10 hρ.symm
theorem ndX3_suspects : yX3_suspects.cls = RX3 ∧ yX3_suspects.cls ≠ "java/lang/invoke/MethodHandle" ∧ yX3_suspects.cls ≠ "java/lang/invoke/VarHandle" ∧ (parseMethodDescriptor yX3_suspects.desc).map (fun d => d.parameters.length) = some 0 := by decide +kernel
set_option maxHeartbeats 4000000 in
set_option maxRecDepth 100000 in
theorem lpX3_suspects_4 {p : Program} {e : Env} {s : State} {m : MethodId} {below : List Frame} {meth : Method} {c : Code} (l : Launch) (D : va_G) (cI cZ cQ : ClassId) (h : Nat) (a : Nat → Nat) (X : va_W) (f : Nat → Nat → Int32) (S : CallFix p m c cX3_suspects 3 s ([.ref h] : List Value).toArray wsX3_suspects RX3) (hr : meth.sig.returnType = (some .int)) (hlk : meth.locks = false) (hK : va_K D vwCl (TY cI cZ cQ) s) (hok : okL f) (hP : va_P D vwCl (LW cI h a f ++ X) s.heap) : ∀ (n i : Nat) (v1 : Int32), i ≤ 7 → 7 - i < n → ∀ {ls : Array Slot}, lv_has ls 3 [(0, .ref h), (1, .int v1), (2, .int (nI i))] → ∀ ρ : Int32, ρ = kX3_suspects_4  n i f v1 → W p l e { frames := 3, cells := 0, slots := 0, locals := 67 } s m ([.ref h] : List Value).toArray below meth c s.heap [] 0 0 (MQ below (QR ρ) ([.ref h] : List Value).toArray s 0 0 (fun _ => False)) (F0 m 4 ls []) := by
  have hx := S.1
  have hb := S.2.1
  have hown : s.vm.findClass RX3 = some m.cls := S.2.2.2.1
  have hts := S.2.2.2.2
  intro n
  induction n with
  | zero =>
    intro i _ hi hn
    exact absurd hn (Nat.not_lt_zero _)
  | succ n ih =>
    intro i v1 hi hn  ls hl ρ hρ0
    refine lv_iload_n hx hb dX3_suspects_4 rfl (lv_at hl 2 rfl) ?_
    refine lv_aload_n hx hb dX3_suspects_5 rfl (lv_at hl 0 rfl) ?_
    refine k_rd (As := []) (rest := [.int (nI i)]) (bytes := cX3_heads) (C := RX3) S (okX3_heads l D cI cZ cQ h a X f ) gX3_suspects_X3_heads rfl ⟨rfl, rfl⟩ ndX3_heads ⟨Nat.le_of_ble_eq_true rfl, Nat.le_of_ble_eq_true rfl⟩ hK hP 0 rfl rfl rfl hl rfl (Nat.le_of_ble_eq_true rfl) dX3_suspects_6 ⟨Nat.zero_le _, Nat.zero_le _⟩ ?_
    refine lv_icmp_ge (tgt := 32) hx hb dX3_suspects_9 (by decide) (fun c_9 => ?_) (fun c_9 => ?_)
    · have c_9 : (kX3_heads f) ≤ (nI i) := c_9
      refine lv_iload_n hx hb dX3_suspects_32 rfl (lv_at hl 1 rfl) ?_
      have hρ : kX3_suspects_4  (n + 1) i f v1 = v1 := (if_pos c_9)
      have hρ := hρ0.trans hρ
      exact e_rd hx hb hr hlk dX3_suspects_33 hρ.symm
    have c_9 : ¬ ((kX3_heads f) ≤ (nI i)) := c_9
    have hlt : i < 7 := il_lt (heads_le hok) (by decide) hi c_9
    have hvi : vp_in (nI i) 7 := vp_in_nI hlt (by decide)
    refine lv_aload_n hx hb dX3_suspects_12 rfl (lv_at hl 0 rfl) ?_
    refine lv_iload_n hx hb dX3_suspects_13 rfl (lv_at hl 2 rfl) ?_
    refine k_rd (As := [.int (nI i)]) (rest := []) (bytes := cX3_miscount) (C := RX3) S (okX3_miscount l D cI cZ cQ h a X f (nI i) (by assumption)) gX3_suspects_X3_miscount rfl ⟨rfl, rfl⟩ ndX3_miscount ⟨Nat.le_of_ble_eq_true rfl, Nat.le_of_ble_eq_true rfl⟩ hK hP 0 rfl rfl rfl hl rfl (Nat.le_of_ble_eq_true rfl) dX3_suspects_14 ⟨Nat.zero_le _, Nat.zero_le _⟩ ?_
    refine lv_if_eq (tgt := 26) hx hb dX3_suspects_17 (by decide) (fun c_17 => ?_) (fun c_17 => ?_)
    · have c_17 : (kX3_miscount f (nI i)) = 0 := c_17
      refine lv_iinc (v := (nI (i + 1))) (lv' := [(2, .int (nI (i + 1))), (0, .ref h), (1, .int v1)]) hx hb dX3_suspects_26 hl (k := 2) rfl (nI_1 i) (by decide) rfl (fun ls hl => ?_)
      refine lv_goto (tgt := 4) hx hb dX3_suspects_29 (by decide) ?_
      have hρ : kX3_suspects_4  (n + 1) i f v1 = kX3_suspects_4  n (i + 1) f v1 := (if_neg c_9).trans ((if_pos c_17))
      have hρ := hρ0.trans hρ
      exact ih  (i + 1) v1   (by omega) (by omega)  (lv_sub hl [1, 2, 0] rfl) _ hρ
    have c_17 : ¬ ((kX3_miscount f (nI i)) = 0) := c_17
    refine lv_iload_n hx hb dX3_suspects_20 rfl (lv_at hl 1 rfl) ?_
    refine lv_iconst (v := 1) hx hb dX3_suspects_21 (by decide) ?_
    refine lv_iload_n hx hb dX3_suspects_22 rfl (lv_at hl 2 rfl) ?_
    refine lv_ishl hx hb dX3_suspects_23 ?_
    refine lv_ior hx hb dX3_suspects_24 ?_
    refine lv_istore_n (lv' := [(1, .int (v1 ||| ((1 : Int32) <<< ((nI i) &&& 31)))), (0, .ref h), (2, .int (nI i))]) hx hb dX3_suspects_25 rfl hl (by decide) rfl (fun ls hl => ?_)
    refine lv_iinc (v := (nI (i + 1))) (lv' := [(2, .int (nI (i + 1))), (1, .int (v1 ||| ((1 : Int32) <<< ((nI i) &&& 31)))), (0, .ref h)]) hx hb dX3_suspects_26 hl (k := 2) rfl (nI_1 i) (by decide) rfl (fun ls hl => ?_)
    refine lv_goto (tgt := 4) hx hb dX3_suspects_29 (by decide) ?_
    have hρ : kX3_suspects_4  (n + 1) i f v1 = kX3_suspects_4  n (i + 1) f (v1 ||| ((1 : Int32) <<< ((nI i) &&& 31))) := (if_neg c_9).trans ((if_neg c_17))
    have hρ := hρ0.trans hρ
    exact ih  (i + 1) (v1 ||| ((1 : Int32) <<< ((nI i) &&& 31)))   (by omega) (by omega)  (lv_sub hl [2, 1, 0] rfl) _ hρ
set_option maxHeartbeats 4000000 in
set_option maxRecDepth 100000 in
theorem okX3_suspects (l : Launch) (D : va_G) (cI cZ cQ : ClassId) (h : Nat) (a : Nat → Nat) (X : va_W) (f : Nat → Nat → Int32) (hok : okL f) : Met l yX3_suspects wsX3_suspects ({ frames := 3, cells := 0, slots := 0, locals := 67 }) (PR [.ref h] D (TY cI cZ cQ) (LW cI h a f ++ X)) (QR (kX3_suspects f)) 0 0 (fun _ => False) := by
  refine m_rd (cc := cX3_suspects) (maxL := 3) (ret := (some .int)) (by decide) rfl (Nat.le_of_ble_eq_true rfl) (lv0 := [(0, .ref h)]) rfl ?_
  intro p e s m below meth c ls S hr hlk hP hK hl
  have S : CallFix p m c cX3_suspects 3 s ([.ref h] : List Value).toArray wsX3_suspects RX3 := S
  have hx := S.1
  have hb := S.2.1
  have hown : s.vm.findClass RX3 = some m.cls := S.2.2.2.1
  have hts := S.2.2.2.2
  refine lv_iconst (v := 0) hx hb dX3_suspects_0 (by decide) ?_
  refine lv_istore_n (lv' := [(1, .int 0), (0, .ref h)]) hx hb dX3_suspects_1 rfl hl (by decide) rfl (fun ls hl => ?_)
  refine lv_iconst (v := 0) hx hb dX3_suspects_2 (by decide) ?_
  refine lv_istore_n (lv' := [(2, .int 0), (1, .int 0), (0, .ref h)]) hx hb dX3_suspects_3 rfl hl (by decide) rfl (fun ls hl => ?_)
  have hρ : kX3_suspects f = kX3_suspects_4  8 0 f 0 := rfl
  exact lpX3_suspects_4 l D cI cZ cQ h a X f S hr hlk hK hok hP 8 0 0   (by omega) (by omega)  (lv_sub hl [2, 1, 0] rfl) _ hρ
theorem ndX3_lossesLeft : yX3_lossesLeft.cls = RX3 ∧ yX3_lossesLeft.cls ≠ "java/lang/invoke/MethodHandle" ∧ yX3_lossesLeft.cls ≠ "java/lang/invoke/VarHandle" ∧ (parseMethodDescriptor yX3_lossesLeft.desc).map (fun d => d.parameters.length) = some 1 := by decide +kernel
set_option maxHeartbeats 4000000 in
set_option maxRecDepth 100000 in
theorem okX3_lossesLeft (l : Launch) (D : va_G) (cI cZ cQ : ClassId) (h : Nat) (a : Nat → Nat) (X : va_W) (f : Nat → Nat → Int32) (x1 : Int32) (h1 : vp_in x1 6) : Met l yX3_lossesLeft wsX3_lossesLeft ({ frames := 1, cells := 0, slots := 0, locals := 21 }) (PR [.ref h, .int x1] D (TY cI cZ cQ) (LW cI h a f ++ X)) (QR (kX3_lossesLeft f x1)) 0 0 (fun _ => False) := by
  refine m_rd (cc := cX3_lossesLeft) (maxL := 3) (ret := (some .int)) (by decide) rfl (Nat.le_of_ble_eq_true rfl) (lv0 := [(0, .ref h), (1, .int x1)]) rfl ?_
  intro p e s m below meth c ls S hr hlk hP hK hl
  have S : CallFix p m c cX3_lossesLeft 3 s ([.ref h, .int x1] : List Value).toArray wsX3_lossesLeft RX3 := S
  have hx := S.1
  have hb := S.2.1
  have hown : s.vm.findClass RX3 = some m.cls := S.2.2.2.1
  have hts := S.2.2.2.2
  have hinX3 : ∀ w ∈ wsX30, w ∈ wsX3_lossesLeft := by decide +kernel
  refine lv_aload_n hx hb dX3_lossesLeft_0 rfl (lv_at hl 0 rfl) ?_
  refine va_get (v := .ref (a 9)) (C := RX3) (T := TX3) (N := 15) (ci := 3) hx hb hts hinX3 hown hK hP 0 rfl rfl 9 (by decide) (hts (.fieldLink RX3 30 "AxleKeeper$Line" "age" "[I") (by decide +kernel)) (fun _ h9 => h9) rfl dX3_lossesLeft_1 ?_
  refine lv_iload_n hx hb dX3_lossesLeft_4 rfl (lv_at hl 1 rfl) ?_
  refine va_iald hx hb hK hP 7 0 rfl rfl (n := 7) (in67 h1) dX3_lossesLeft_5 ?_
  refine lv_aload_n hx hb dX3_lossesLeft_6 rfl (lv_at hl 0 rfl) ?_
  refine va_get (v := .ref (a 9)) (C := RX3) (T := TX3) (N := 15) (ci := 3) hx hb hts hinX3 hown hK hP 0 rfl rfl 9 (by decide) (hts (.fieldLink RX3 30 "AxleKeeper$Line" "age" "[I") (by decide +kernel)) (fun _ h9 => h9) rfl dX3_lossesLeft_7 ?_
  refine lv_aload_n hx hb dX3_lossesLeft_10 rfl (lv_at hl 0 rfl) ?_
  refine lv_iload_n hx hb dX3_lossesLeft_11 rfl (lv_at hl 1 rfl) ?_
  refine k_rd (As := [.int x1]) (rest := [.ref (a 9), .int (f 9 (ix x1))]) (bytes := cX3_rightHead) (C := RX3) S (okX3_rightHead l D cI cZ cQ h a X f x1) gX3_lossesLeft_X3_rightHead rfl ⟨rfl, rfl⟩ ndX3_rightHead ⟨Nat.le_of_ble_eq_true rfl, Nat.le_of_ble_eq_true rfl⟩ hK hP 0 rfl rfl rfl hl rfl (Nat.le_of_ble_eq_true rfl) dX3_lossesLeft_12 ⟨Nat.zero_le _, Nat.zero_le _⟩ ?_
  refine va_iald hx hb hK hP 7 0 rfl rfl (n := 7) (rh_in h1) dX3_lossesLeft_15 ?_
  refine va_mmax hx hb (by rw [S.2.2.1]; exact hl.1.symm) hown (hts (.methodLink RX3 149 Lib.Math.max.name) (by decide +kernel)) (hts (.static Lib.Math.max.name) (by decide +kernel)) (hts (.initialized "java/lang/Math") (by decide +kernel)) (hts (.code Lib.Math.max.name Lib.Math.max.code 2 (some .int)) (by decide +kernel)) (Nat.le_of_ble_eq_true rfl) (Nat.le_of_ble_eq_true rfl) (Nat.zero_le _) (Nat.zero_le _) dX3_lossesLeft_16 ?_
  refine lv_istore_n (lv' := [(2, .int (if (f 9 (ix x1)) < (f 9 (ix (kX3_rightHead f x1))) then (f 9 (ix (kX3_rightHead f x1))) else (f 9 (ix x1)))), (0, .ref h), (1, .int x1)]) hx hb dX3_lossesLeft_19 rfl hl (by decide) rfl (fun ls hl => ?_)
  refine lv_iconst (v := 0) hx hb dX3_lossesLeft_20 (by decide) ?_
  refine lv_iconst (v := 4) hx hb dX3_lossesLeft_21 (by decide) ?_
  refine lv_iload_n hx hb dX3_lossesLeft_22 rfl (lv_at hl 0 rfl) ?_
  refine lv_isub hx hb dX3_lossesLeft_23 ?_
  refine va_mmax hx hb (by rw [S.2.2.1]; exact hl.1.symm) hown (hts (.methodLink RX3 149 Lib.Math.max.name) (by decide +kernel)) (hts (.static Lib.Math.max.name) (by decide +kernel)) (hts (.initialized "java/lang/Math") (by decide +kernel)) (hts (.code Lib.Math.max.name Lib.Math.max.code 2 (some .int)) (by decide +kernel)) (Nat.le_of_ble_eq_true rfl) (Nat.le_of_ble_eq_true rfl) (Nat.zero_le _) (Nat.zero_le _) dX3_lossesLeft_24 ?_
  have hρ : kX3_lossesLeft f x1 = (if 0 < (4 - (if (f 9 (ix x1)) < (f 9 (ix (kX3_rightHead f x1))) then (f 9 (ix (kX3_rightHead f x1))) else (f 9 (ix x1)))) then (4 - (if (f 9 (ix x1)) < (f 9 (ix (kX3_rightHead f x1))) then (f 9 (ix (kX3_rightHead f x1))) else (f 9 (ix x1)))) else 0) := rfl
  exact e_rd hx hb hr hlk dX3_lossesLeft_27 hρ.symm
theorem ndX3_clearRun : yX3_clearRun.cls = RX3 ∧ yX3_clearRun.cls ≠ "java/lang/invoke/MethodHandle" ∧ yX3_clearRun.cls ≠ "java/lang/invoke/VarHandle" ∧ (parseMethodDescriptor yX3_clearRun.desc).map (fun d => d.parameters.length) = some 1 := by decide +kernel
set_option maxHeartbeats 4000000 in
set_option maxRecDepth 100000 in
theorem lpX3_clearRun_4 {p : Program} {e : Env} {s : State} {m : MethodId} {below : List Frame} {meth : Method} {c : Code} (l : Launch) (D : va_G) (cI cZ cQ : ClassId) (h : Nat) (a : Nat → Nat) (X : va_W) (x1 : Int32) (f : Nat → Nat → Int32) (S : CallFix p m c cX3_clearRun 4 s ([.ref h, .int x1] : List Value).toArray wsX3_clearRun RX3) (hr : meth.sig.returnType = (some .int)) (hlk : meth.locks = false) (hK : va_K D vwCl (TY cI cZ cQ) s) (hok : okL f) (hP : va_P D vwCl (LW cI h a f ++ X) s.heap) : ∀ (n i : Nat) (v3 : Int32), i ≤ 6 → 6 - i < n → ∀ {ls : Array Slot}, lv_has ls 4 [(0, .ref h), (1, .int x1), (2, .int (nI i)), (3, .int v3)] → ∀ ρ : Int32, ρ = kX3_clearRun_4 x1 n i f v3 → W p l e { frames := 1, cells := 0, slots := 0, locals := 21 } s m ([.ref h, .int x1] : List Value).toArray below meth c s.heap [] 0 0 (MQ below (QR ρ) ([.ref h, .int x1] : List Value).toArray s 0 0 (fun _ => False)) (F0 m 4 ls []) := by
  have hx := S.1
  have hb := S.2.1
  have hown : s.vm.findClass RX3 = some m.cls := S.2.2.2.1
  have hts := S.2.2.2.2
  have hinX3 : ∀ w ∈ wsX30, w ∈ wsX3_clearRun := by decide +kernel
  intro n
  induction n with
  | zero =>
    intro i _ hi hn
    exact absurd hn (Nat.not_lt_zero _)
  | succ n ih =>
    intro i v3 hi hn  ls hl ρ hρ0
    refine lv_iload_n hx hb dX3_clearRun_4 rfl (lv_at hl 2 rfl) ?_
    refine lv_aload_n hx hb dX3_clearRun_5 rfl (lv_at hl 0 rfl) ?_
    refine va_get (v := .int (f 0 0)) (C := RX3) (T := TX3) (N := 15) (ci := 3) hx hb hts hinX3 hown hK hP 0 rfl rfl 0 (by decide) (hts (.fieldLink RX3 48 "AxleKeeper$Line" "sections" "I") (by decide +kernel)) (fun _ h9 => h9) rfl dX3_clearRun_6 ?_
    refine lv_icmp_ge (tgt := 60) hx hb dX3_clearRun_9 (by decide) (fun c_9 => ?_) (fun c_9 => ?_)
    · have c_9 : (f 0 0) ≤ (nI i) := c_9
      refine lv_iload_n hx hb dX3_clearRun_60 rfl (lv_at hl 2 rfl) ?_
      have hρ : kX3_clearRun_4 x1 (n + 1) i f v3 = (nI i) := (if_pos c_9)
      have hρ := hρ0.trans hρ
      exact e_rd hx hb hr hlk dX3_clearRun_61 hρ.symm
    have c_9 : ¬ ((f 0 0) ≤ (nI i)) := c_9
    have hlt : i < 6 := il_lt hok.2 (by decide) hi c_9
    refine lv_aload_n hx hb dX3_clearRun_12 rfl (lv_at hl 0 rfl) ?_
    refine lv_iload_n hx hb dX3_clearRun_13 rfl (lv_at hl 3 rfl) ?_
    refine k_rd (As := [.int v3]) (rest := []) (bytes := cX3_hasSection) (C := RX3) S (okX3_hasSection l D cI cZ cQ h a X f v3) gX3_clearRun_X3_hasSection rfl ⟨rfl, rfl⟩ ndX3_hasSection ⟨Nat.le_of_ble_eq_true rfl, Nat.le_of_ble_eq_true rfl⟩ hK hP 0 rfl rfl rfl hl rfl (Nat.le_of_ble_eq_true rfl) dX3_clearRun_14 ⟨Nat.zero_le _, Nat.zero_le _⟩ ?_
    refine lv_if_eq (tgt := 60) hx hb dX3_clearRun_17 (by decide) (fun c_17 => ?_) (fun c_17 => ?_)
    · have c_17 : (kX3_hasSection f v3) = 0 := c_17
      refine lv_iload_n hx hb dX3_clearRun_60 rfl (lv_at hl 2 rfl) ?_
      have hρ : kX3_clearRun_4 x1 (n + 1) i f v3 = (nI i) := (if_neg c_9).trans ((if_pos c_17))
      have hρ := hρ0.trans hρ
      exact e_rd hx hb hr hlk dX3_clearRun_61 hρ.symm
    have c_17 : ¬ ((kX3_hasSection f v3) = 0) := c_17
    have hv1 : vp_in _ 6 := hs_in hok c_17
    refine lv_aload_n hx hb dX3_clearRun_20 rfl (lv_at hl 0 rfl) ?_
    refine va_get (v := .ref (a 12)) (C := RX3) (T := TX3) (N := 15) (ci := 3) hx hb hts hinX3 hown hK hP 0 rfl rfl 12 (by decide) (hts (.fieldLink RX3 39 "AxleKeeper$Line" "call" "[I") (by decide +kernel)) (fun _ h9 => h9) rfl dX3_clearRun_21 ?_
    refine lv_iload_n hx hb dX3_clearRun_24 rfl (lv_at hl 3 rfl) ?_
    refine va_iald hx hb hK hP 10 0 rfl rfl (n := 6) (by assumption) dX3_clearRun_25 ?_
    refine lv_if_ne (tgt := 60) hx hb dX3_clearRun_26 (by decide) (fun c_26 => ?_) (fun c_26 => ?_)
    · have c_26 : ¬ ((f 12 (ix v3)) = 0) := c_26
      refine lv_iload_n hx hb dX3_clearRun_60 rfl (lv_at hl 2 rfl) ?_
      have hρ : kX3_clearRun_4 x1 (n + 1) i f v3 = (nI i) := (if_neg c_9).trans ((if_neg c_17).trans ((if_neg c_26)))
      have hρ := hρ0.trans hρ
      exact e_rd hx hb hr hlk dX3_clearRun_61 hρ.symm
    have c_26 : (f 12 (ix v3)) = 0 := c_26
    refine lv_iinc (v := (nI (i + 1))) (lv' := [(2, .int (nI (i + 1))), (0, .ref h), (1, .int x1), (3, .int v3)]) hx hb dX3_clearRun_29 hl (k := 2) rfl (nI_1 i) (by decide) rfl (fun ls hl => ?_)
    refine lv_iload_n hx hb dX3_clearRun_32 rfl (lv_at hl 3 rfl) ?_
    refine lv_iconst (v := 1) hx hb dX3_clearRun_33 (by decide) ?_
    refine lv_iadd hx hb dX3_clearRun_34 ?_
    refine lv_aload_n hx hb dX3_clearRun_35 rfl (lv_at hl 1 rfl) ?_
    refine va_get (v := .int (f 0 0)) (C := RX3) (T := TX3) (N := 15) (ci := 3) hx hb hts hinX3 hown hK hP 0 rfl rfl 0 (by decide) (hts (.fieldLink RX3 48 "AxleKeeper$Line" "sections" "I") (by decide +kernel)) (fun _ h9 => h9) rfl dX3_clearRun_36 ?_
    refine lv_icmp_ne (tgt := 53) hx hb dX3_clearRun_39 (by decide) (fun c_39 => ?_) (fun c_39 => ?_)
    · have c_39 : ¬ ((v3 + 1) = (f 0 0)) := c_39
      refine lv_iload_n hx hb dX3_clearRun_53 rfl (lv_at hl 3 rfl) ?_
      refine lv_iconst (v := 1) hx hb dX3_clearRun_54 (by decide) ?_
      refine lv_iadd hx hb dX3_clearRun_55 ?_
      refine lv_istore_n (lv' := [(3, .int (v3 + 1)), (2, .int (nI (i + 1))), (0, .ref h), (1, .int x1)]) hx hb dX3_clearRun_56 rfl hl (by decide) rfl (fun ls hl => ?_)
      refine lv_goto (tgt := 4) hx hb dX3_clearRun_57 (by decide) ?_
      have hρ : kX3_clearRun_4 x1 (n + 1) i f v3 = kX3_clearRun_4 x1 n (i + 1) f (v3 + 1) := (if_neg c_9).trans ((if_neg c_17).trans ((if_pos c_26).trans ((if_neg c_39))))
      have hρ := hρ0.trans hρ
      exact ih  (i + 1) (v3 + 1)   (by omega) (by omega)  (lv_sub hl [2, 3, 1, 0] rfl) _ hρ
    have c_39 : (v3 + 1) = (f 0 0) := c_39
    refine lv_aload_n hx hb dX3_clearRun_42 rfl (lv_at hl 1 rfl) ?_
    refine va_get (v := .int (f 1 0)) (C := RX3) (T := TX3) (N := 15) (ci := 3) hx hb hts hinX3 hown hK hP 0 rfl rfl 1 (by decide) (hts (.fieldLink RX3 52 "AxleKeeper$Line" "ring" "Z") (by decide +kernel)) (fun _ h9 => h9) rfl dX3_clearRun_43 ?_
    refine lv_if_eq (tgt := 53) hx hb dX3_clearRun_46 (by decide) (fun c_46 => ?_) (fun c_46 => ?_)
    · have c_46 : (f 1 0) = 0 := c_46
      refine lv_iload_n hx hb dX3_clearRun_53 rfl (lv_at hl 3 rfl) ?_
      refine lv_iconst (v := 1) hx hb dX3_clearRun_54 (by decide) ?_
      refine lv_iadd hx hb dX3_clearRun_55 ?_
      refine lv_istore_n (lv' := [(3, .int (v3 + 1)), (2, .int (nI (i + 1))), (0, .ref h), (1, .int x1)]) hx hb dX3_clearRun_56 rfl hl (by decide) rfl (fun ls hl => ?_)
      refine lv_goto (tgt := 4) hx hb dX3_clearRun_57 (by decide) ?_
      have hρ : kX3_clearRun_4 x1 (n + 1) i f v3 = kX3_clearRun_4 x1 n (i + 1) f (v3 + 1) := (if_neg c_9).trans ((if_neg c_17).trans ((if_pos c_26).trans ((if_pos c_39).trans ((if_pos c_46)))))
      have hρ := hρ0.trans hρ
      exact ih  (i + 1) (v3 + 1)   (by omega) (by omega)  (lv_sub hl [2, 3, 1, 0] rfl) _ hρ
    have c_46 : ¬ ((f 1 0) = 0) := c_46
    refine lv_iconst (v := 0) hx hb dX3_clearRun_49 (by decide) ?_
    refine lv_goto (tgt := 56) hx hb dX3_clearRun_50 (by decide) ?_
    refine lv_istore_n (lv' := [(3, .int 0), (2, .int (nI (i + 1))), (0, .ref h), (1, .int x1)]) hx hb dX3_clearRun_56 rfl hl (by decide) rfl (fun ls hl => ?_)
    refine lv_goto (tgt := 4) hx hb dX3_clearRun_57 (by decide) ?_
    have hρ : kX3_clearRun_4 x1 (n + 1) i f v3 = kX3_clearRun_4 x1 n (i + 1) f 0 := (if_neg c_9).trans ((if_neg c_17).trans ((if_pos c_26).trans ((if_pos c_39).trans ((if_neg c_46)))))
    have hρ := hρ0.trans hρ
    exact ih  (i + 1) 0   (by omega) (by omega)  (lv_sub hl [2, 3, 1, 0] rfl) _ hρ
set_option maxHeartbeats 4000000 in
set_option maxRecDepth 100000 in
theorem okX3_clearRun (l : Launch) (D : va_G) (cI cZ cQ : ClassId) (h : Nat) (a : Nat → Nat) (X : va_W) (f : Nat → Nat → Int32) (x1 : Int32) (hok : okL f) : Met l yX3_clearRun wsX3_clearRun ({ frames := 1, cells := 0, slots := 0, locals := 21 }) (PR [.ref h, .int x1] D (TY cI cZ cQ) (LW cI h a f ++ X)) (QR (kX3_clearRun f x1)) 0 0 (fun _ => False) := by
  refine m_rd (cc := cX3_clearRun) (maxL := 4) (ret := (some .int)) (by decide) rfl (Nat.le_of_ble_eq_true rfl) (lv0 := [(0, .ref h), (1, .int x1)]) rfl ?_
  intro p e s m below meth c ls S hr hlk hP hK hl
  have S : CallFix p m c cX3_clearRun 4 s ([.ref h, .int x1] : List Value).toArray wsX3_clearRun RX3 := S
  have hx := S.1
  have hb := S.2.1
  have hown : s.vm.findClass RX3 = some m.cls := S.2.2.2.1
  have hts := S.2.2.2.2
  have hinX3 : ∀ w ∈ wsX30, w ∈ wsX3_clearRun := by decide +kernel
  refine lv_iconst (v := 0) hx hb dX3_clearRun_0 (by decide) ?_
  refine lv_istore_n (lv' := [(2, .int 0), (0, .ref h), (1, .int x1)]) hx hb dX3_clearRun_1 rfl hl (by decide) rfl (fun ls hl => ?_)
  refine lv_iload_n hx hb dX3_clearRun_2 rfl (lv_at hl 2 rfl) ?_
  refine lv_istore_n (lv' := [(3, .int x1), (2, .int 0), (0, .ref h), (1, .int x1)]) hx hb dX3_clearRun_3 rfl hl (by decide) rfl (fun ls hl => ?_)
  have hρ : kX3_clearRun f x1 = kX3_clearRun_4 x1 7 0 f x1 := rfl
  exact lpX3_clearRun_4 l D cI cZ cQ h a X x1 f S hr hlk hK hok hP 7 0 x1   (by omega) (by omega)  (lv_sub hl [2, 3, 1, 0] rfl) _ hρ
