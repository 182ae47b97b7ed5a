/-- a new keeper and a new reference belong together -/
theorem row0 : rowR mM0 0 fL0 := by
  unfold rowR
  decide +kernel
theorem rel0 : Rel fL0 zL mM0 0 0 0 := by
  have hv : invB fL0 0 := ib_ag (ag_symm (ag_bg 3 0)) (ib_bg (n := 3) (by decide) (by decide) (Or.inl rfl))
  refine ⟨hv, row0, ⟨rfl, (show (0 : Int32) ≤ 0 by decide)⟩, ⟨⟨by decide, rfl⟩, ⟨by decide, rfl, rfl⟩, fun t ht => absurd ht (Nat.not_lt_zero _)⟩, ⟨fun i _ => Or.inl rfl, (by decide +kernel), fun i _ e => absurd (show (0 : Int32) = 1 from e) (by decide)⟩, rfl, (show vp_in (0 : Int32) 21 from vin_c (by decide)), fun j _ => ⟨rfl, rfl⟩⟩
theorem mL {w : Cond} (i : Nat) (h : wsL_law[i]? = some w) : w ∈ wsL_law := List.mem_of_getElem? h
theorem lw_PT {args : Array Value} {s : State} (hts : ∀ w ∈ lw_tbl, w.before args s = true) (hgv : (Jvm.Cond.and given_1 narrow_1).before args s = true) : ∃ t, PT t (fun q : Nat => s.heap.size ≤ q) s := by
  have hs := flat_of_before _ hgv
  have hA : ∀ q : Nat, q < s.heap.size → ¬ (fun q : Nat => s.heap.size ≤ q) q := fun q hq => Nat.not_le.mpr hq
  have harr : (Cond.arrayOf (.static "AxleKeeper$Line" "PLACE" "[I") .int).before args s = true := hs _ (by decide +kernel)
  have hlen : (Cond.eq (.length (.static "AxleKeeper$Line" "PLACE" "[I")) (.int 4)).before args s = true := hs _ (by decide +kernel)
  have e0 : (Cond.eq (.elem (.static "AxleKeeper$Line" "PLACE" "[I") (.int 0)) (.int 0)).before args s = true := hs _ (by decide +kernel)
  have e1 : (Cond.eq (.elem (.static "AxleKeeper$Line" "PLACE" "[I") (.int 1)) (.int 3)).before args s = true := hs _ (by decide +kernel)
  have e2 : (Cond.eq (.elem (.static "AxleKeeper$Line" "PLACE" "[I") (.int 2)) (.int 1)).before args s = true := hs _ (by decide +kernel)
  have e3 : (Cond.eq (.elem (.static "AxleKeeper$Line" "PLACE" "[I") (.int 3)) (.int 2)).before args s = true := hs _ (by decide +kernel)
  obtain ⟨t, ht, hT⟩ := va_Tof (N := 4) (f := plcV) (A := fun q : Nat => s.heap.size ≤ q) (by decide) harr (va_eqt hlen) (fun j hj => by
    rcases (show j = 0 ∨ j = 1 ∨ j = 2 ∨ j = 3 by omega) with rfl | rfl | rfl | rfl
    · exact va_eqt e0
    · exact va_eqt e1
    · exact va_eqt e2
    · exact va_eqt e3) hA
  exact ⟨t, va_Zof (hts (.laysStatic "AxleKeeper$Line" "PLACE" "[I") (by decide +kernel)) (hts (.initialized "AxleKeeper$Line") (by decide +kernel)) ht hA, hT⟩
set_option maxHeartbeats 4000000 in
set_option maxRecDepth 100000 in
theorem lw_known {args : Array Value} {s : State} (hts : ∀ w ∈ lw_tbl, w.before args s = true) : ∃ (D : va_G) (cI cZ cQ : ClassId), va_K D vwCl (TY cI cZ cQ) s ∧ FX s := by
  obtain ⟨c0, iS0, hKn0⟩ := u_known (C := RX0) (T := TX0) (N := 3) (n := 3) hts wsL_in_X0 (hts (.instantiable RX0 3) (wsL_law_in _ (mL 21 (by decide +kernel))))
  obtain ⟨c1, iS1, hKn1⟩ := u_known (C := RX1) (T := TX1) (N := 1) (n := 1) hts wsL_in_X1 (hts (.instantiable RX1 1) (wsL_law_in _ (mL 25 (by decide +kernel))))
  obtain ⟨c2, iS2, hKn2⟩ := u_known (C := RX2) (T := TX2) (N := 3) (n := 3) hts wsL_in_X2 (hts (.instantiable RX2 3) (wsL_law_in _ (mL 29 (by decide +kernel))))
  obtain ⟨c3, iS3, hKn3⟩ := u_known (C := RX3) (T := TX3) (N := 15) (n := 15) hts wsL_in_X3 (hts (.instantiable RX3 15) (wsL_law_in _ (mL 13 (by decide +kernel))))
  obtain ⟨c4, iS4, hKn4⟩ := u_known (C := RX4) (T := TX4) (N := 3) (n := 3) hts wsL_in_X4 (hts (.instantiable RX4 3) (wsL_law_in _ (mL 17 (by decide +kernel))))
  obtain ⟨c5, iS5, hKn5⟩ := u_known (C := RX5) (T := TX5) (N := 6) (n := 6) hts wsL_in_X5 (hts (.instantiable RX5 6) (wsL_law_in _ (mL 1 (by decide +kernel))))
  obtain ⟨c6, iS6, hKn6⟩ := u_known (C := RX6) (T := TX6) (N := 6) (n := 6) hts wsL_in_X6 (hts (.instantiable RX6 6) (wsL_law_in _ (mL 4 (by decide +kernel))))
  obtain ⟨dC, dI, hKc⟩ : ∃ (dC : Nat → ClassId) (dI : Nat → Nat → Nat), ∀ (k : Nat) (q : vw_C), vwCl[k]? = some q → u_Kn s q.1 q.2.1 q.2.2 (dC k) (dI k) := by
    refine ⟨fun k => if k = 0 then c0 else if k = 1 then c1 else if k = 2 then c2 else if k = 3 then c3 else if k = 4 then c4 else if k = 5 then c5 else c6, fun k => if k = 0 then iS0 else if k = 1 then iS1 else if k = 2 then iS2 else if k = 3 then iS3 else if k = 4 then iS4 else if k = 5 then iS5 else iS6, ?_⟩
    intro k q hq
    match k, hq with
    | 0, hq => cases hq; exact hKn0
    | 1, hq => cases hq; exact hKn1
    | 2, hq => cases hq; exact hKn2
    | 3, hq => cases hq; exact hKn3
    | 4, hq => cases hq; exact hKn4
    | 5, hq => cases hq; exact hKn5
    | 6, hq => cases hq; exact hKn6
    | k + 7, hq => simp [vwCl] at hq
  have hK0 : va_K (dC, dI) vwCl [] s := ⟨hKc, fun k q h => by simp at h⟩
  have hover : mz_over .int s := mz_over_of (hts (.arrayOver (.array .int)) (by decide +kernel))
  obtain ⟨cI, cZ, cQ, hK⟩ := TY_of (hts (.arrayClass .int) (wsL_law_in _ (mL 32 (by decide +kernel)))) (hts (.arrayClass .boolean) (wsL_law_in _ (mL 68 (by decide +kernel)))) hover hK0
  exact ⟨(dC, dI), cI, cZ, cQ, hK, hover, va_Nw.of rfl (hts (.methodLinkNest RX5 9 yX3_init RX5) (by decide +kernel)), va_Nw.of rfl (hts (.methodLinkNest RX5 18 yX4_init RX5) (by decide +kernel)), va_Nw.of rfl (hts (.methodLinkNest RX5 25 yX0_init RX5) (by decide +kernel)), va_Nw.of rfl (hts (.methodLinkNest RX5 32 yX1_init RX5) (by decide +kernel)), va_Nw.of rfl (hts (.methodLinkNest RX5 39 yX2_init RX5) (by decide +kernel))⟩
set_option maxHeartbeats 4000000 in
set_option maxRecDepth 100000 in
/-- the law, from its entry -/
theorem whole_start {p : Program} {e : Env} {s : State} {m : MethodId} {below : List Frame} {meth : Method} {c : Code} (l : Launch) (hflags : l.flags = flags0) {b L : Nat} {xs : Nat → Int32} (hL : L ≤ 2048) (C0 : lw_At p s m meth c b L xs) : W p l e room_1 s m #[Value.ref b] below meth c s.heap [] 0 0 (lw_Z below #[Value.ref b] s) (entryFrame m ([Value.ref b] : List Value).toArray 4) := by
  obtain ⟨hx, hb, hr, hml, hown, hts0, hX, hbl, hlk, hgv⟩ := id C0
  obtain ⟨D, cI, cZ, cQ, hK, hF⟩ := lw_known hts0
  have hts : ∀ w ∈ wsL_law, w.before #[Value.ref b] s = true := fun w hw => hts0 w (wsL_law_in w hw)
  have hown : s.vm.findClass RL = some m.cls := hown
  have S : CallFix p m c cL_law 4 s #[Value.ref b] wsL_law RL := ⟨hx, hb, hml, hown, hts⟩
  have C1 : lw_C p s m c b L xs D cI cZ cQ := ⟨S, hX, hbl, hK, lw_PT hts0 hgv⟩
  have hb : c.code = cL_law := hb
  have hA : ∀ q : Nat, s.heap.size ≤ q → (fun q : Nat => s.heap.size ≤ q) q := fun _ h => h
  have hS : va_S (fun q : Nat => s.heap.size ≤ q) s.heap s.heap [] := va_S.rf
  have hP : va_P D vwCl [] s.heap := fun k q h => by simp at h
  have hD : va_D (fun q : Nat => s.heap.size ≤ q) [] := ⟨fun i j p q h => by simp at h, fun k q h => by simp at h⟩
  have hl := lv_entry ([.ref b]) (n := 4) (Nat.le_of_ble_eq_true rfl)
  rw [lg_entry_eq]
  generalize (lg_sl ([.ref b]) ++ List.replicate (4 - (lg_sl ([.ref b])).length) Slot.unset).toArray = ls at hl ⊢
  have hl : lv_has ls 4 [(0, .ref b)] := hl
  refine va_new (ci := 5) (fs := [.null, .null, .null, .null, .null, .null]) (C := RX5) (T := TX5) (N := 6) hx hb hts inlX5 tyX5 tyX5_ok hown (hts (.classLink RL 7 RX5) (mL 0 (by decide +kernel))) (hts (.instantiable RX5 6) (mL 1 (by decide +kernel))) (hts (.initialized RX5) (mL 2 (by decide +kernel))) hK hP hD hS hA rfl (fun j hj => by rcases (show j = 0 ∨ j = 1 ∨ j = 2 ∨ j = 3 ∨ j = 4 ∨ j = 5 by omega) with rfl | rfl | rfl | rfl | rfl | rfl <;> rfl) (Nat.le_of_ble_eq_true rfl) (Nat.le_of_ble_eq_true rfl) dL_law_0 (fun q1 H hP hD hS => ?_)
  have hP : va_P D vwCl [(q1, .inr (5, [.null, .null, .null, .null, .null, .null]))] H := hP
  have hD : va_D (fun q : Nat => s.heap.size ≤ q) [(q1, .inr (5, [.null, .null, .null, .null, .null, .null]))] := hD
  refine W.widen (k := 1) (n := 6) (Nat.le_of_ble_eq_true rfl) (Nat.le_of_ble_eq_true rfl) ?_
  refine lv_dup hx hb dL_law_3 rfl ?_
  refine k_ip (rest := [.ref q1]) (bytes := cX5_init) (wr := []) S (okX5_init l D cI cZ cQ q1 _) gL_law_X5_init rfl rfl rfl (hts (.methodLink RL 9 yX5_init) (mL 6 (by decide +kernel))) (hts (.initialized RX5) (mL 2 (by decide +kernel))) (hts (.instanceMethod yX5_init) (mL 7 (by decide +kernel))) rfl (by decide +kernel) ⟨Nat.le_of_ble_eq_true rfl, Nat.le_of_ble_eq_true rfl⟩ hK hP hD hS hA [0] [] rfl rfl rfl (by decide) (by decide) (by decide) FX.same (fun U hW => FX.warm hW hF) hl rfl (Nat.le_of_ble_eq_true rfl) dL_law_4 ⟨Nat.le_of_ble_eq_true rfl, Nat.le_of_ble_eq_true rfl⟩ (fun u H locs hpo hP hD hS => ?_)
  obtain ⟨h, a, bb⟩ := u
  have hpo : bb 0 = q1 := hpo
  have hP : va_P D vwCl (LW cI h a fL0 ++ (KR cI cZ cQ h bb zL ++ [])) H := hP
  have hD : va_D (fun q : Nat => s.heap.size ≤ q) (LW cI h a fL0 ++ (KR cI cZ cQ h bb zL ++ [])) := hD
  rw [List.append_nil] at hP hD
  refine W.widen (k := 43) (n := 1750) (Nat.le_of_ble_eq_true rfl) (Nat.le_of_ble_eq_true rfl) ?_
  refine lv_astore_n (lv' := [(1, .ref q1), (0, .ref b)]) hx hb dL_law_7 rfl hl (by decide) rfl (fun ls hl => ?_)
  refine va_new (ci := 6) (fs := [.null, .int 0, .int 0, .null, .null, .int 0]) (C := RX6) (T := TX6) (N := 6) hx hb hts inlX6 tyX6 tyX6_ok hown (hts (.classLink RL 10 RX6) (mL 3 (by decide +kernel))) (hts (.instantiable RX6 6) (mL 4 (by decide +kernel))) (hts (.initialized RX6) (mL 5 (by decide +kernel))) hK hP hD hS hA rfl (fun j hj => by rcases (show j = 0 ∨ j = 1 ∨ j = 2 ∨ j = 3 ∨ j = 4 ∨ j = 5 by omega) with rfl | rfl | rfl | rfl | rfl | rfl <;> rfl) (Nat.le_of_ble_eq_true rfl) (Nat.le_of_ble_eq_true rfl) dL_law_8 (fun q2 H hP hD hS => ?_)
  refine W.widen (k := 44) (n := 1756) (Nat.le_of_ble_eq_true rfl) (Nat.le_of_ble_eq_true rfl) ?_
  refine lv_dup hx hb dL_law_11 rfl ?_
  refine k_ip (rest := [.ref q2]) (bytes := cX6_init) (wr := LW cI h a fL0 ++ KR cI cZ cQ h bb zL) S (okX6_init l D cI cZ cQ q2 _) gL_law_X6_init rfl rfl rfl (hts (.methodLink RL 12 yX6_init) (mL 81 (by decide +kernel))) (hts (.initialized RX6) (mL 5 (by decide +kernel))) (hts (.instanceMethod yX6_init) (mL 82 (by decide +kernel))) rfl (by decide +kernel) ⟨Nat.le_of_ble_eq_true rfl, Nat.le_of_ble_eq_true rfl⟩ hK hP hD hS hA [43] [0, 1, 2, 3, 4, 5, 6, 7, 8, 9, 10, 11, 12, 13, 14, 15, 16, 17, 18, 19, 20, 21, 22, 23, 24, 25, 26, 27, 28, 29, 30, 31, 32, 33, 34, 35, 36, 37, 38, 39, 40, 41, 42] rfl rfl rfl (by decide) (by decide) (by decide) FT.same (fun _ _ => trivial) hl rfl (Nat.le_of_ble_eq_true rfl) dL_law_12 ⟨Nat.le_of_ble_eq_true rfl, Nat.le_of_ble_eq_true rfl⟩ (fun am H locs _ hP hD hS => ?_)
  have hP : va_P D vwCl ((LW cI h a fL0 ++ KR cI cZ cQ h bb zL) ++ MW cI q2 am mM0) H := hP
  have hD : va_D (fun q : Nat => s.heap.size ≤ q) ((LW cI h a fL0 ++ KR cI cZ cQ h bb zL) ++ MW cI q2 am mM0) := hD
  rw [List.append_assoc] at hP hD
  refine W.widen (k := 47) (n := 3476) (Nat.le_of_ble_eq_true rfl) (Nat.le_of_ble_eq_true rfl) ?_
  refine lv_astore_n (lv' := [(2, .ref q2), (1, .ref q1), (0, .ref b)]) hx hb dL_law_15 rfl hl (by decide) rfl (fun ls hl => ?_)
  refine lv_iconst (v := 0) hx hb dL_law_16 (by decide) ?_
  refine lv_istore_n (lv' := [(3, .int 0), (2, .ref q2), (1, .ref q1), (0, .ref b)]) hx hb dL_law_17 rfl hl (by decide) rfl (fun ls hl => ?_)
  have hl := lv_sub (l' := [(0, .ref b), (1, .ref q1), (2, .ref q2), (3, .int (nI 0))]) hl [3, 2, 1, 0] rfl
  rw [← hpo] at hl
  exact law_loop hL hr hlk C1 (L + 1) 0 0 0 0 fL0 zL mM0 H locs ls (Nat.zero_le L) (by omega) (Nat.le_refl 0) rel0 ⟨hP, hD, hS⟩ hl
