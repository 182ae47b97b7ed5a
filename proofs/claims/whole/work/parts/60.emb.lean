/-! the reference's row of numbers, read as a Line's rows -/
def offM : Nat → Nat
  | 0 => 0 | 1 => 1 | 2 => 2 | 3 => 27 | 4 => 34 | 5 => 41 | 6 => 62 | 7 => 48 | 8 => 69 | 9 => 55 | 10 => 76 | 11 => 9 | 12 => 3 | 13 => 21 | 14 => 15 | _ => 0
def lenM : Nat → Nat
  | 0 => 1 | 1 => 1 | 2 => 1 | 3 => 7 | 4 => 7 | 5 => 7 | 6 => 7 | 7 => 7 | 8 => 7 | 9 => 7 | 10 => 7 | 11 => 6 | 12 => 6 | 13 => 6 | 14 => 6 | _ => 0
def kOf (d : Nat) : Nat := if d < 1 then 0 else if d < 2 then 1 else if d < 3 then 2 else if d < 9 then 12 else if d < 15 then 11 else if d < 21 then 14 else if d < 27 then 13 else if d < 34 then 3 else if d < 41 then 4 else if d < 48 then 5 else if d < 55 then 7 else if d < 62 then 9 else if d < 69 then 6 else if d < 76 then 8 else 10
def emb (w : Nat → Int32) (x : Nat) (r : Nat → Nat → Int32) : Nat → Int32 := fun j => if x ≤ j ∧ j < x + 83 then r (kOf (j - x)) (j - x - offM (kOf (j - x))) else w j
theorem kOf_off : ∀ K, K < 15 → ∀ i, i < lenM K → kOf (offM K + i) = K ∧ offM K + i < 83 := by decide +kernel
theorem kOf_inv : ∀ d, d < 83 → kOf d < 15 ∧ offM (kOf d) ≤ d ∧ d - offM (kOf d) < lenM (kOf d) := by decide +kernel
section EMB
variable {w : Nat → Int32} {x : Nat} {r r' : Nat → Nat → Int32} {K i j : Nat} {v : Int32} {f0 : Nat → Nat → Int32}
theorem emb_rd (hK : K < 15) (hi : i < lenM K) : emb w x r (x + offM K + i) = r K i := by
  obtain ⟨h1, h2⟩ := kOf_off K hK i hi
  unfold emb
  rw [if_pos ⟨by omega, by omega⟩, show x + offM K + i - x = offM K + i by omega, h1, show offM K + i - offM K = i by omega]
theorem emb_out (h : j < x ∨ x + 83 ≤ j) : emb w x r j = w j := if_neg (by omega)
theorem emb_congr (h : ∀ K, K < 15 → ∀ i, i < lenM K → r K i = r' K i) : emb w x r = emb w x r' := by
  funext j
  unfold emb
  by_cases hj : x ≤ j ∧ j < x + 83
  · rw [if_pos hj, if_pos hj]
    obtain ⟨h1, h2, h3⟩ := kOf_inv (j - x) (by omega)
    exact h _ h1 _ h3
  · rw [if_neg hj, if_neg hj]
theorem emb_wr (hK : K < 15) (hi : i < lenM K) : upd (emb w x r) (x + offM K + i) v = emb w x (up2 r K i v) := by
  funext j
  unfold upd
  by_cases hj : j = x + offM K + i
  · rw [if_pos hj, hj, emb_rd hK hi, up2_eq]
  · rw [if_neg hj]
    unfold emb
    by_cases hr : x ≤ j ∧ j < x + 83
    · rw [if_pos hr, if_pos hr]
      obtain ⟨h1, h2, h3⟩ := kOf_inv (j - x) (by omega)
      by_cases hk : kOf (j - x) = K
      · rw [hk] at h2 h3 ⊢
        rw [up2_ne (by omega)]
      · rw [up2_o (by rw [← Bool.not_eq_true, Nat.beq_eq]; exact hk)]
    · rw [if_neg hr, if_neg hr]
theorem emb_self : emb w x (fun K i => w (x + offM K + i)) = w := by
  funext j
  unfold emb
  by_cases hj : x ≤ j ∧ j < x + 83
  · rw [if_pos hj]
    obtain ⟨h1, h2, h3⟩ := kOf_inv (j - x) (by omega)
    show w (x + offM (kOf (j - x)) + (j - x - offM (kOf (j - x)))) = w j
    rw [show x + offM (kOf (j - x)) + (j - x - offM (kOf (j - x))) = j by omega]
  · rw [if_neg hj]
theorem rp_up {q : Nat → Int32} : up2 (rp f0 0 q) 0 j v = rp f0 0 (upd q j v) := by
  funext k
  cases k with
  | zero => rfl
  | succ k => rfl
/-- the row x of the state is r -/
abbrev rM (f0 : Nat → Nat → Int32) (w : Nat → Int32) (x : Nat) (r : Nat → Nat → Int32) : Nat → Nat → Int32 := rp f0 0 (emb w x r)
theorem rM_rd (hK : K < 15) (hi : i < lenM K) (hj : j = x + offM K + i) : rM f0 w x r 0 j = r K i := by
  subst hj
  exact emb_rd hK hi
theorem rM_wr (hK : K < 15) (hi : i < lenM K) (hj : j = x + offM K + i) : up2 (rM f0 w x r) 0 j v = rM f0 w x (up2 r K i v) := by
  subst hj
  unfold rM
  rw [rp_up, emb_wr hK hi]
theorem e3 {k : Int32} {n : Nat} (hk : k = nI n) (hn : n < 100) (hx : x ≤ 1596) (hi : i < 7) : ix (nI x + k + nI i) = x + n + i := by
  rw [hk, nI_add, nI_add, ix_nI (by omega)]
theorem e2 {k : Int32} {n : Nat} (hk : k = nI n) (hn : n < 100) (hi : i < 7) : ix (k + nI i) = n + i := by
  rw [hk, nI_add, ix_nI (by omega)]
end EMB
section RW
variable {w : Nat → Int32} {x i : Nat} {r : Nat → Nat → Int32} {v : Int32} {f0 : Nat → Nat → Int32}
theorem rd_call (hx : x ≤ 1596) (hi : i < 6) : rM f0 w x r 0 (ix (nI x + 3 + nI i)) = r 12 i := rM_rd (by decide) hi (e3 (n := 3) rfl (by decide) hx (by omega))
theorem wr_call (hx : x ≤ 1596) (hi : i < 6) : up2 (rM f0 w x r) 0 (ix (nI x + 3 + nI i)) v = rM f0 w x (up2 r 12 i v) := rM_wr (by decide) hi (e3 (n := 3) rfl (by decide) hx (by omega))
theorem r0_call (hi : i < 6) : rM f0 w 0 r 0 (ix (3 + nI i)) = r 12 i := rM_rd (by decide) hi ((e2 (n := 3) rfl (by decide) (by omega)).trans (show 3 + i = 0 + 3 + i by omega))
theorem w0_call (hi : i < 6) : up2 (rM f0 w 0 r) 0 (ix (3 + nI i)) v = rM f0 w 0 (up2 r 12 i v) := rM_wr (by decide) hi ((e2 (n := 3) rfl (by decide) (by omega)).trans (show 3 + i = 0 + 3 + i by omega))
theorem rd_sum (hx : x ≤ 1596) (hi : i < 6) : rM f0 w x r 0 (ix (nI x + 9 + nI i)) = r 11 i := rM_rd (by decide) hi (e3 (n := 9) rfl (by decide) hx (by omega))
theorem wr_sum (hx : x ≤ 1596) (hi : i < 6) : up2 (rM f0 w x r) 0 (ix (nI x + 9 + nI i)) v = rM f0 w x (up2 r 11 i v) := rM_wr (by decide) hi (e3 (n := 9) rfl (by decide) hx (by omega))
theorem r0_sum (hi : i < 6) : rM f0 w 0 r 0 (ix (9 + nI i)) = r 11 i := rM_rd (by decide) hi ((e2 (n := 9) rfl (by decide) (by omega)).trans (show 9 + i = 0 + 9 + i by omega))
theorem w0_sum (hi : i < 6) : up2 (rM f0 w 0 r) 0 (ix (9 + nI i)) v = rM f0 w 0 (up2 r 11 i v) := rM_wr (by decide) hi ((e2 (n := 9) rfl (by decide) (by omega)).trans (show 9 + i = 0 + 9 + i by omega))
theorem rd_true (hx : x ≤ 1596) (hi : i < 6) : rM f0 w x r 0 (ix (nI x + 15 + nI i)) = r 14 i := rM_rd (by decide) hi (e3 (n := 15) rfl (by decide) hx (by omega))
theorem wr_true (hx : x ≤ 1596) (hi : i < 6) : up2 (rM f0 w x r) 0 (ix (nI x + 15 + nI i)) v = rM f0 w x (up2 r 14 i v) := rM_wr (by decide) hi (e3 (n := 15) rfl (by decide) hx (by omega))
theorem r0_true (hi : i < 6) : rM f0 w 0 r 0 (ix (15 + nI i)) = r 14 i := rM_rd (by decide) hi ((e2 (n := 15) rfl (by decide) (by omega)).trans (show 15 + i = 0 + 15 + i by omega))
theorem w0_true (hi : i < 6) : up2 (rM f0 w 0 r) 0 (ix (15 + nI i)) v = rM f0 w 0 (up2 r 14 i v) := rM_wr (by decide) hi ((e2 (n := 15) rfl (by decide) (by omega)).trans (show 15 + i = 0 + 15 + i by omega))
theorem rd_ent (hx : x ≤ 1596) (hi : i < 6) : rM f0 w x r 0 (ix (nI x + 21 + nI i)) = r 13 i := rM_rd (by decide) hi (e3 (n := 21) rfl (by decide) hx (by omega))
theorem wr_ent (hx : x ≤ 1596) (hi : i < 6) : up2 (rM f0 w x r) 0 (ix (nI x + 21 + nI i)) v = rM f0 w x (up2 r 13 i v) := rM_wr (by decide) hi (e3 (n := 21) rfl (by decide) hx (by omega))
theorem r0_ent (hi : i < 6) : rM f0 w 0 r 0 (ix (21 + nI i)) = r 13 i := rM_rd (by decide) hi ((e2 (n := 21) rfl (by decide) (by omega)).trans (show 21 + i = 0 + 21 + i by omega))
theorem w0_ent (hi : i < 6) : up2 (rM f0 w 0 r) 0 (ix (21 + nI i)) v = rM f0 w 0 (up2 r 13 i v) := rM_wr (by decide) hi ((e2 (n := 21) rfl (by decide) (by omega)).trans (show 21 + i = 0 + 21 + i by omega))
theorem rd_state (hx : x ≤ 1596) (hi : i < 7) : rM f0 w x r 0 (ix (nI x + 27 + nI i)) = r 3 i := rM_rd (by decide) hi (e3 (n := 27) rfl (by decide) hx (by omega))
theorem wr_state (hx : x ≤ 1596) (hi : i < 7) : up2 (rM f0 w x r) 0 (ix (nI x + 27 + nI i)) v = rM f0 w x (up2 r 3 i v) := rM_wr (by decide) hi (e3 (n := 27) rfl (by decide) hx (by omega))
theorem r0_state (hi : i < 7) : rM f0 w 0 r 0 (ix (27 + nI i)) = r 3 i := rM_rd (by decide) hi ((e2 (n := 27) rfl (by decide) (by omega)).trans (show 27 + i = 0 + 27 + i by omega))
theorem w0_state (hi : i < 7) : up2 (rM f0 w 0 r) 0 (ix (27 + nI i)) v = rM f0 w 0 (up2 r 3 i v) := rM_wr (by decide) hi ((e2 (n := 27) rfl (by decide) (by omega)).trans (show 27 + i = 0 + 27 + i by omega))
theorem rd_wheel (hx : x ≤ 1596) (hi : i < 7) : rM f0 w x r 0 (ix (nI x + 34 + nI i)) = r 4 i := rM_rd (by decide) hi (e3 (n := 34) rfl (by decide) hx (by omega))
theorem wr_wheel (hx : x ≤ 1596) (hi : i < 7) : up2 (rM f0 w x r) 0 (ix (nI x + 34 + nI i)) v = rM f0 w x (up2 r 4 i v) := rM_wr (by decide) hi (e3 (n := 34) rfl (by decide) hx (by omega))
theorem r0_wheel (hi : i < 7) : rM f0 w 0 r 0 (ix (34 + nI i)) = r 4 i := rM_rd (by decide) hi ((e2 (n := 34) rfl (by decide) (by omega)).trans (show 34 + i = 0 + 34 + i by omega))
theorem w0_wheel (hi : i < 7) : up2 (rM f0 w 0 r) 0 (ix (34 + nI i)) v = rM f0 w 0 (up2 r 4 i v) := rM_wr (by decide) hi ((e2 (n := 34) rfl (by decide) (by omega)).trans (show 34 + i = 0 + 34 + i by omega))
theorem rd_count (hx : x ≤ 1596) (hi : i < 7) : rM f0 w x r 0 (ix (nI x + 41 + nI i)) = r 5 i := rM_rd (by decide) hi (e3 (n := 41) rfl (by decide) hx (by omega))
theorem wr_count (hx : x ≤ 1596) (hi : i < 7) : up2 (rM f0 w x r) 0 (ix (nI x + 41 + nI i)) v = rM f0 w x (up2 r 5 i v) := rM_wr (by decide) hi (e3 (n := 41) rfl (by decide) hx (by omega))
theorem r0_count (hi : i < 7) : rM f0 w 0 r 0 (ix (41 + nI i)) = r 5 i := rM_rd (by decide) hi ((e2 (n := 41) rfl (by decide) (by omega)).trans (show 41 + i = 0 + 41 + i by omega))
theorem w0_count (hi : i < 7) : up2 (rM f0 w 0 r) 0 (ix (41 + nI i)) v = rM f0 w 0 (up2 r 5 i v) := rM_wr (by decide) hi ((e2 (n := 41) rfl (by decide) (by omega)).trans (show 41 + i = 0 + 41 + i by omega))
theorem rd_heard (hx : x ≤ 1596) (hi : i < 7) : rM f0 w x r 0 (ix (nI x + 48 + nI i)) = r 7 i := rM_rd (by decide) hi (e3 (n := 48) rfl (by decide) hx (by omega))
theorem wr_heard (hx : x ≤ 1596) (hi : i < 7) : up2 (rM f0 w x r) 0 (ix (nI x + 48 + nI i)) v = rM f0 w x (up2 r 7 i v) := rM_wr (by decide) hi (e3 (n := 48) rfl (by decide) hx (by omega))
theorem r0_heard (hi : i < 7) : rM f0 w 0 r 0 (ix (48 + nI i)) = r 7 i := rM_rd (by decide) hi ((e2 (n := 48) rfl (by decide) (by omega)).trans (show 48 + i = 0 + 48 + i by omega))
theorem w0_heard (hi : i < 7) : up2 (rM f0 w 0 r) 0 (ix (48 + nI i)) v = rM f0 w 0 (up2 r 7 i v) := rM_wr (by decide) hi ((e2 (n := 48) rfl (by decide) (by omega)).trans (show 48 + i = 0 + 48 + i by omega))
theorem rd_age (hx : x ≤ 1596) (hi : i < 7) : rM f0 w x r 0 (ix (nI x + 55 + nI i)) = r 9 i := rM_rd (by decide) hi (e3 (n := 55) rfl (by decide) hx (by omega))
theorem wr_age (hx : x ≤ 1596) (hi : i < 7) : up2 (rM f0 w x r) 0 (ix (nI x + 55 + nI i)) v = rM f0 w x (up2 r 9 i v) := rM_wr (by decide) hi (e3 (n := 55) rfl (by decide) hx (by omega))
theorem r0_age (hi : i < 7) : rM f0 w 0 r 0 (ix (55 + nI i)) = r 9 i := rM_rd (by decide) hi ((e2 (n := 55) rfl (by decide) (by omega)).trans (show 55 + i = 0 + 55 + i by omega))
theorem w0_age (hi : i < 7) : up2 (rM f0 w 0 r) 0 (ix (55 + nI i)) v = rM f0 w 0 (up2 r 9 i v) := rM_wr (by decide) hi ((e2 (n := 55) rfl (by decide) (by omega)).trans (show 55 + i = 0 + 55 + i by omega))
theorem rd_faulty (hx : x ≤ 1596) (hi : i < 7) : rM f0 w x r 0 (ix (nI x + 62 + nI i)) = r 6 i := rM_rd (by decide) hi (e3 (n := 62) rfl (by decide) hx (by omega))
theorem wr_faulty (hx : x ≤ 1596) (hi : i < 7) : up2 (rM f0 w x r) 0 (ix (nI x + 62 + nI i)) v = rM f0 w x (up2 r 6 i v) := rM_wr (by decide) hi (e3 (n := 62) rfl (by decide) hx (by omega))
theorem r0_faulty (hi : i < 7) : rM f0 w 0 r 0 (ix (62 + nI i)) = r 6 i := rM_rd (by decide) hi ((e2 (n := 62) rfl (by decide) (by omega)).trans (show 62 + i = 0 + 62 + i by omega))
theorem w0_faulty (hi : i < 7) : up2 (rM f0 w 0 r) 0 (ix (62 + nI i)) v = rM f0 w 0 (up2 r 6 i v) := rM_wr (by decide) hi ((e2 (n := 62) rfl (by decide) (by omega)).trans (show 62 + i = 0 + 62 + i by omega))
theorem rd_told (hx : x ≤ 1596) (hi : i < 7) : rM f0 w x r 0 (ix (nI x + 69 + nI i)) = r 8 i := rM_rd (by decide) hi (e3 (n := 69) rfl (by decide) hx (by omega))
theorem wr_told (hx : x ≤ 1596) (hi : i < 7) : up2 (rM f0 w x r) 0 (ix (nI x + 69 + nI i)) v = rM f0 w x (up2 r 8 i v) := rM_wr (by decide) hi (e3 (n := 69) rfl (by decide) hx (by omega))
theorem r0_told (hi : i < 7) : rM f0 w 0 r 0 (ix (69 + nI i)) = r 8 i := rM_rd (by decide) hi ((e2 (n := 69) rfl (by decide) (by omega)).trans (show 69 + i = 0 + 69 + i by omega))
theorem w0_told (hi : i < 7) : up2 (rM f0 w 0 r) 0 (ix (69 + nI i)) v = rM f0 w 0 (up2 r 8 i v) := rM_wr (by decide) hi ((e2 (n := 69) rfl (by decide) (by omega)).trans (show 69 + i = 0 + 69 + i by omega))
theorem rd_swept (hx : x ≤ 1596) (hi : i < 7) : rM f0 w x r 0 (ix (nI x + 76 + nI i)) = r 10 i := rM_rd (by decide) hi (e3 (n := 76) rfl (by decide) hx (by omega))
theorem wr_swept (hx : x ≤ 1596) (hi : i < 7) : up2 (rM f0 w x r) 0 (ix (nI x + 76 + nI i)) v = rM f0 w x (up2 r 10 i v) := rM_wr (by decide) hi (e3 (n := 76) rfl (by decide) hx (by omega))
theorem r0_swept (hi : i < 7) : rM f0 w 0 r 0 (ix (76 + nI i)) = r 10 i := rM_rd (by decide) hi ((e2 (n := 76) rfl (by decide) (by omega)).trans (show 76 + i = 0 + 76 + i by omega))
theorem w0_swept (hi : i < 7) : up2 (rM f0 w 0 r) 0 (ix (76 + nI i)) v = rM f0 w 0 (up2 r 10 i v) := rM_wr (by decide) hi ((e2 (n := 76) rfl (by decide) (by omega)).trans (show 76 + i = 0 + 76 + i by omega))
end RW
