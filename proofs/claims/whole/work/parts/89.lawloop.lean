/-! THE CLAIM OUT OF ONE WALK OF THE LAW'S BODY. Your part is whole_start (and what it stands on); all else here is the same for every law, but numbers. -/
def R_law : String := "AxleKeeperLaw"
def lw_P (b : Addr) (xs : List Int32) (args : Array Value) (s : State) : Prop := args = #[.ref b] ∧ s.IntsAt b xs ∧ xs.length ≤ 2048 ∧ (Jvm.Cond.and given_1 narrow_1).before args s = true
def lw_Q (_ : Array Value) (s : State) (o : Outcome) (t : State) : Prop := o = .returned (some (.int 1)) ∧ Framed s o t [] 600000 7302250
def lw_Z (below : List Frame) (a : Array Value) (s : State) : State → Prop := fun t => ∃ o, t.status = .running ∧ Ended t below o ∧ lw_Q a s o t
/-- the law's own end, with 1 on the stack, nothing written that was there before, its room as the claim has it -/
theorem lw_ret {p : Program} {l : Launch} {e : Env} {s : State} {m : MethodId} {below : List Frame} {meth : Method} {c : Code} {b : Nat} (hx : p.tables.exec = Jvm.exec) (hb : c.code = code) (hr : meth.sig.returnType = ret) (hlocks : meth.locks = false) {pc : Nat} {H : Heap} {ls : Array Slot} (hdg : decode code pc = .ok (.ireturn, 1)) : W p l e room_1 s m #[Value.ref b] below meth c H [] 600000 7302250 (lw_Z below #[Value.ref b] s) (F0 m pc ls [.int 1]) := by
  intro T hT X
  obtain ⟨fs, hret, hrun, hended, hW, hframe⟩ := X.leave (v := some (.int 1)) (hlocks := hlocks) (fun h => by rw [hr] at h; cases h)
  have hmeth' : T.vm.method? m = some meth := X.method'
  refine ⟨T.setFrames fs, ?_, .returned (some (.int 1)), hrun, hended, rfl, ⟨_, rfl⟩, hW, hframe⟩
  jvm_step X.here [X.here.top, hx, hb, hdg, hmeth', hr, ret, narrow_b1]
  (try refine ⟨rfl, ?_⟩); (try refine ⟨rfl, ?_⟩)
  first | (intro acts; rw [hret _ acts rfl rfl rfl]) | rw [hret _ _ rfl rfl rfl]
  exact Steps.refl _
/-- what holds at the law's entry: the machine, the code, the tables' words (any of lw_tbl by 'hts w (by decide +kernel)'), the script of L ints xs at the cell b, what the Statement gives of the start (any of its parts by flat_of_before) -/
def lw_At (p : Program) (s : State) (m : MethodId) (meth : Method) (c : Code) (b L : Nat) (xs : Nat → Int32) : Prop :=
  p.tables.exec = Jvm.exec ∧ c.code = code ∧ meth.sig.returnType = ret ∧ c.maxLocals = 4 ∧ s.vm.findClass R_law = some m.cls ∧ (∀ w ∈ lw_tbl, w.before #[Value.ref b] s = true) ∧ va_X b L xs s s.heap ∧ b < s.heap.size ∧ meth.locks = false ∧ (Jvm.Cond.and given_1 narrow_1).before #[Value.ref b] s = true
theorem lt4 : ∀ L, L < 4 → ∀ i, i < 4 → nI L - 4 < nI i := by decide +kernel
theorem lw_len {L i : Nat} (hL : L ≤ 2048) (hi : i ≤ L) (hc : ¬ (nI L - 4 < nI i)) : i + 4 ≤ L := by
  by_cases h4 : 4 ≤ L
  · have e : nI L - 4 = nI (L - 4) := pk_sub (b := 4) h4
    rw [e, nI_ltI (by omega) (by omega)] at hc
    omega
  · exact absurd (lt4 L (by omega) i (by omega)) hc
set_option maxHeartbeats 4000000 in
set_option maxRecDepth 100000 in
theorem law_sw {p : Program} {l : Launch} {e : Env} {s : State} {m : MethodId} {below : List Frame} {meth : Method} {c : Code} {H : Heap} {locs : List Loc} {Q : State → Prop} {bs L : Nat} {xs : Nat → Int32} {D : va_G} {cI cZ cQ : ClassId} {h hm : Nat} {a b am : Nat → Nat} {f g M : Nat → Nat → Int32} {B pp k : Nat} {v3 : Int32} {ls : Array Slot} (C0 : lw_C p s m c bs L xs D cI cZ cQ) (hR : Rel f g M B pp k) (hB : B < 900000) (V : lw_V s D cI cZ cQ h a b f g hm am M H locs) (h1 : vp_in (v3 + 1) L) (h2 : vp_in (v3 + 2) L) (h3 : vp_in (v3 + 3) L) (hl : lv_has ls 4 [(0, .ref bs), (1, .ref (b 0)), (2, .ref hm), (3, .int v3)]) {j : Nat} (hj : j < 32)
    (kk : ∀ (f' g' M' : Nat → Nat → Int32) (pp' k' : Nat) (H' : Heap) (locs' : List Loc), Rel f' g' M' (B + 48) pp' k' → lw_V s D cI cZ cQ h a b f' g' hm am M' H' locs' → W p l e room_1 s m #[Value.ref bs] below meth c H' locs' 47 3476 Q (F0 m 630 ls [])) : W p l e room_1 s m #[Value.ref bs] below meth c H locs 47 3476 Q (F0 m 32 ls [.int (nI j)]) := by
  have hx := C0.1.1
  have hb := C0.1.2.1
  rcases (show 18 ≤ j ∨ j = 0 ∨ j = 1 ∨ j = 2 ∨ j = 3 ∨ j = 4 ∨ j = 5 ∨ j = 6 ∨ j = 7 ∨ j = 8 ∨ j = 9 ∨ j = 10 ∨ j = 11 ∨ j = 12 ∨ j = 13 ∨ j = 14 ∨ j = 15 ∨ j = 16 ∨ j = 17 by omega) with hq | rfl | rfl | rfl | rfl | rfl | rfl | rfl | rfl | rfl | rfl | rfl | rfl | rfl | rfl | rfl | rfl | rfl | rfl
  · refine lv_tableOut (tgt := 630) hx hb dL_law_32 (Or.inr (by rw [nI_toInt (by omega)]; omega)) (by decide) ?_
    exact kk f g M pp k H locs (rel_mono hR (by omega)) V
  · refine lv_tableIn (tgt := 120) (off := 88) hx hb dL_law_32 (by decide +kernel) (by decide +kernel) (by decide +kernel) (by decide) ?_
    exact cs_told C0 hR hB V h1 h2 h3 hl kk
  · refine lv_tableIn (tgt := 143) (off := 111) hx hb dL_law_32 (by decide +kernel) (by decide +kernel) (by decide +kernel) (by decide) ?_
    exact cs_section C0 hR hB V h1 h2 h3 hl kk
  · refine lv_tableIn (tgt := 176) (off := 144) hx hb dL_law_32 (by decide +kernel) (by decide +kernel) (by decide +kernel) (by decide) ?_
    exact cs_head C0 hR hB V h1 h2 h3 hl kk
  · refine lv_tableIn (tgt := 209) (off := 177) hx hb dL_law_32 (by decide +kernel) (by decide +kernel) (by decide +kernel) (by decide) ?_
    exact cs_line C0 hR hB V h1 h2 h3 hl kk
  · refine lv_tableIn (tgt := 258) (off := 226) hx hb dL_law_32 (by decide +kernel) (by decide +kernel) (by decide +kernel) (by decide) ?_
    exact cs_feel C0 hR hB V h1 h2 h3 hl kk
  · refine lv_tableIn (tgt := 291) (off := 259) hx hb dL_law_32 (by decide +kernel) (by decide +kernel) (by decide +kernel) (by decide) ?_
    exact cs_go C0 hR hB V h1 h2 h3 hl kk
  · refine lv_tableIn (tgt := 334) (off := 302) hx hb dL_law_32 (by decide +kernel) (by decide +kernel) (by decide +kernel) (by decide) ?_
    exact cs_miss C0 hR hB V h1 h2 h3 hl kk
  · refine lv_tableIn (tgt := 377) (off := 345) hx hb dL_law_32 (by decide +kernel) (by decide +kernel) (by decide +kernel) (by decide) ?_
    exact cs_tick C0 hR hB V h1 h2 h3 hl kk
  · refine lv_tableIn (tgt := 400) (off := 368) hx hb dL_law_32 (by decide +kernel) (by decide +kernel) (by decide +kernel) (by decide) ?_
    exact cs_reset C0 hR hB V h1 h2 h3 hl kk
  · refine lv_tableIn (tgt := 423) (off := 391) hx hb dL_law_32 (by decide +kernel) (by decide +kernel) (by decide +kernel) (by decide) ?_
    exact cs_repair C0 hR hB V h1 h2 h3 hl kk
  · refine lv_tableIn (tgt := 446) (off := 414) hx hb dL_law_32 (by decide +kernel) (by decide +kernel) (by decide +kernel) (by decide) ?_
    exact cs_drift C0 hR hB V h1 h2 h3 hl kk
  · refine lv_tableIn (tgt := 469) (off := 437) hx hb dL_law_32 (by decide +kernel) (by decide +kernel) (by decide +kernel) (by decide) ?_
    exact cs_undo C0 hR hB V h1 h2 h3 hl kk
  · refine lv_tableIn (tgt := 492) (off := 460) hx hb dL_law_32 (by decide +kernel) (by decide +kernel) (by decide +kernel) (by decide) ?_
    exact cs_would C0 hR hB V h1 h2 h3 hl kk
  · refine lv_tableIn (tgt := 515) (off := 483) hx hb dL_law_32 (by decide +kernel) (by decide +kernel) (by decide +kernel) (by decide) ?_
    exact cs_write C0 hR hB V h1 h2 h3 hl kk
  · refine lv_tableIn (tgt := 548) (off := 516) hx hb dL_law_32 (by decide +kernel) (by decide +kernel) (by decide +kernel) (by decide) ?_
    exact cs_tear C0 hR hB V h1 h2 h3 hl kk
  · refine lv_tableIn (tgt := 561) (off := 529) hx hb dL_law_32 (by decide +kernel) (by decide +kernel) (by decide +kernel) (by decide) ?_
    exact cs_seed C0 hR hB V h1 h2 h3 hl kk
  · refine lv_tableIn (tgt := 584) (off := 552) hx hb dL_law_32 (by decide +kernel) (by decide +kernel) (by decide +kernel) (by decide) ?_
    exact cs_keep C0 hR hB V h1 h2 h3 hl kk
  · refine lv_tableIn (tgt := 607) (off := 575) hx hb dL_law_32 (by decide +kernel) (by decide +kernel) (by decide +kernel) (by decide) ?_
    exact cs_goBack C0 hR hB V h1 h2 h3 hl kk
set_option maxHeartbeats 4000000 in
set_option maxRecDepth 100000 in
/-- the law's loop: at its head, with i ints read, class and reference belong together -/
theorem law_loop {p : Program} {l : Launch} {e : Env} {s : State} {m : MethodId} {below : List Frame} {meth : Method} {c : Code} {bs L : Nat} {xs : Nat → Int32} {D : va_G} {cI cZ cQ : ClassId} {h hm : Nat} {a b am : Nat → Nat} (hL : L ≤ 2048) (hr : meth.sig.returnType = ret) (hlk : meth.locks = false) (C0 : lw_C p s m c bs L xs D cI cZ cQ) :
    ∀ (n i B pp k : Nat) (f g M : Nat → Nat → Int32) (H : Heap) (locs : List Loc) (ls : Array Slot), i ≤ L → L + 1 ≤ i + n → B ≤ 48 * i → Rel f g M B pp k → lw_V s D cI cZ cQ h a b f g hm am M H locs → lv_has ls 4 [(0, .ref bs), (1, .ref (b 0)), (2, .ref hm), (3, .int (nI i))] → W p l e room_1 s m #[Value.ref bs] below meth c H locs 47 3476 (lw_Z below #[Value.ref bs] s) (F0 m 18 ls []) := by
  have hx := C0.1.1
  have hb := C0.1.2.1
  obtain ⟨-, hX, hbl, -⟩ := id C0
  have hbA : ¬ (fun q : Nat => s.heap.size ≤ q) bs := Nat.not_le.mpr hbl
  intro n
  induction n with
  | zero =>
    intro i B pp k f g M H locs ls h1 h2
    exact absurd h2 (by omega)
  | succ n ih =>
    intro i B pp k f g M H locs ls hi hn hB hR V hl
    have hS := V.2.2
    refine lv_iload_n hx hb dL_law_18 rfl (lv_at hl 3 rfl) ?_
    refine lv_aload_n hx hb dL_law_19 rfl (lv_at hl 0 rfl) ?_
    refine va_slen hx hb hX hbl hbA hS dL_law_20 ?_
    refine lv_iconst (v := 4) hx hb dL_law_21 (by decide) ?_
    refine lv_isub hx hb dL_law_22 ?_
    refine lv_icmp_gt (tgt := 636) hx hb dL_law_23 (by decide) (fun c_23 => ?_) (fun c_23 => ?_)
    · refine lv_iconst (v := 1) hx hb dL_law_636 (by decide) ?_
      refine va_forget (fun q hq => hS.2.2 q hq) ?_
      refine W.widen (k := 600000) (n := 7302250) (Nat.le_of_ble_eq_true rfl) (Nat.le_of_ble_eq_true rfl) ?_
      exact lw_ret hx hb hr hlk dL_law_637
    · have h4 : i + 4 ≤ L := lw_len hL hi c_23
      have h0 : vp_in (nI i) L := vp_in_nI (by omega) (by omega)
      have h1 : vp_in (nI i + 1) L := by
        rw [nI_1]
        exact vp_in_nI (by omega) (by omega)
      have h2 : vp_in (nI i + 2) L := by
        rw [show nI i + 2 = nI (i + 2) from nI_add i 2]
        exact vp_in_nI (by omega) (by omega)
      have h3 : vp_in (nI i + 3) L := by
        rw [show nI i + 3 = nI (i + 3) from nI_add i 3]
        exact vp_in_nI (by omega) (by omega)
      refine lv_aload_n hx hb dL_law_26 rfl (lv_at hl 0 rfl) ?_
      refine lv_iload_n hx hb dL_law_27 rfl (lv_at hl 3 rfl) ?_
      refine va_sld hx hb hX hbl hbA hS h0 dL_law_28 ?_
      refine lv_bipush (v := 31) hx hb dL_law_29 (by decide) ?_
      refine lv_iand hx hb dL_law_31 ?_
      obtain ⟨j, hj, ej⟩ := vp_in_of (pk_andIn (xs (nI i).toNatClampNeg) (m := 31) 5 (by decide) (by decide)) (by decide)
      rw [ej]
      refine law_sw C0 hR (by omega) V h1 h2 h3 hl hj (fun f' g' M' pp' k' H' locs' hR' V' => ?_)
      refine lv_iinc (v := nI (i + 4)) (lv' := [(3, .int (nI (i + 4))), (0, .ref bs), (1, .ref (b 0)), (2, .ref hm)]) hx hb dL_law_630 hl (k := 3) rfl (nI_add i 4) (by decide) rfl (fun ls hl => ?_)
      refine lv_goto (tgt := 18) hx hb dL_law_633 (by decide) ?_
      exact ih (i + 4) (B + 48) pp' k' f' g' M' H' locs' ls h4 (by omega) (by omega) hR' V' (lv_sub hl [1, 2, 3, 0] rfl)
