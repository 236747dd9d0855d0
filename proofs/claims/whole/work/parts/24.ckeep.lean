/-! ===== contracts: the class: images ===== -/
/-- k sticks written from base on -/
def cp_stk (M : ev_M) (base : Nat) (s : Nat → Int32) (k : Nat) : ev_M := fun a => if base ≤ a ∧ a < base + k then .inr (9, [.int (s (7 * (a - base) + 0)), .int (s (7 * (a - base) + 1)), .int (s (7 * (a - base) + 2)), .int (s (7 * (a - base) + 3)), .int (s (7 * (a - base) + 4)), .int (s (7 * (a - base) + 5)), .int (s (7 * (a - base) + 6))]) else M a
theorem cp_stk_0 {M : ev_M} {base : Nat} {s : Nat → Int32} : cp_stk M base s 0 = M := by
  funext a
  exact if_neg (by omega)
theorem cp_stk_out {M : ev_M} {base a k : Nat} {s : Nat → Int32} (h : a < base ∨ base + k ≤ a) : cp_stk M base s k a = M a := if_neg (by omega)
theorem cp_stk_in {M : ev_M} {base i k : Nat} {s : Nat → Int32} (h : i < k) : cp_stk M base s k (base + i) = .inr (9, [.int (s (7 * (i) + 0)), .int (s (7 * (i) + 1)), .int (s (7 * (i) + 2)), .int (s (7 * (i) + 3)), .int (s (7 * (i) + 4)), .int (s (7 * (i) + 5)), .int (s (7 * (i) + 6))]) := by
  rw [cp_stk, if_pos (by omega), Nat.add_sub_cancel_left]
theorem cp_stk_S {M : ev_M} {base k : Nat} {s : Nat → Int32} : ev_set (cp_stk M base s k) (base + k) (.inr (9, [.int (s (7 * (k) + 0)), .int (s (7 * (k) + 1)), .int (s (7 * (k) + 2)), .int (s (7 * (k) + 3)), .int (s (7 * (k) + 4)), .int (s (7 * (k) + 5)), .int (s (7 * (k) + 6))])) = cp_stk M base s (k + 1) := by
  funext a
  simp only [ev_set, cp_stk]
  by_cases h : a = base + k
  · rw [if_pos h, if_pos (by omega), h, Nat.add_sub_cancel_left]
  · rw [if_neg h]
    by_cases h2 : base ≤ a ∧ a < base + k
    · rw [if_pos h2, if_pos (by omega)]
    · rw [if_neg h2, if_neg (by omega)]
theorem l4_take_41 {G : ev_G} {n : Nat} {M : ev_M} {g c0 c1 c2 : Nat} (hG : M g = .inr (3, [.ref (g + 1), .ref (g + 2), .ref (g + 3), .int (nI c0), .int (nI c1), .int (nI c2)])) {fa : Nat → Option Nat} (hA : M (g + 1) = .inl (2, 12, ev_q fa)) (hfa : ∀ i, i < 12 → fa i = some (g + 4 + i)) (hc : c0 ≤ 12) (hg : 84 < g) {lt : Int32} {kp : Bool} {fi : Nat → Option Nat} (hI : M 41 = .inr (4, [.ref (41 + 1), .ref (41 + 2), .int (lt), .int (ev_b kp)])) (hJ : M (41 + 1) = .inl (2, 12, ev_q fi)) (hfi : ∀ i, i < 12 → fi i = some (41 + 10 + i)) {s : Nat → Int32} (hS : ∀ i, i < c0 → cl_stk M (g + 4 + i) (fun k => s (7 * i + k))) {v : Nat → Int32} (hD : ∀ i, i < 12 → cl_stk M (41 + 10 + i) (fun k => v (7 * i + k))) {up dn : Int64} {f0 f1 f2 f3 f4 f5 f6 : Nat → Int32} {sz : Nat} (hz : M (27) = .inr (8, [.ref (27 + 1), .ref (27 + 2), .ref (27 + 3), .ref (27 + 4), .ref (27 + 5), .ref (27 + 6), .ref (27 + 7), .long up, .long dn, .int (nI sz)])) (z0 : M (27 + 1) = .inl (0, 60, .inl f0)) (z1 : M (27 + 2) = .inl (0, 60, .inl f1)) (z2 : M (27 + 3) = .inl (0, 60, .inl f2)) (z3 : M (27 + 4) = .inl (0, 60, .inl f3)) (z4 : M (27 + 5) = .inl (0, 60, .inl f4)) (z5 : M (27 + 6) = .inl (0, 12, .inl f5)) (z6 : M (27 + 7) = .inl (0, 12, .inl f6)) {up2 dn2 : Int64} {x : Int32} {g0 g1 g2 g3 g4 : Nat → Int32} (hy : M 43 = .inr (8, [.ref (43 + 1), .ref (43 + 2), .ref (43 + 3), .ref (43 + 4), .ref (43 + 5), .ref (43 + 6), .ref (43 + 7), .long up2, .long dn2, .int (x)])) (y0 : M (43 + 1) = .inl (0, 60, .inl g0)) (y1 : M (43 + 2) = .inl (0, 60, .inl g1)) (y2 : M (43 + 3) = .inl (0, 60, .inl g2)) (y3 : M (43 + 4) = .inl (0, 60, .inl g3)) (y4 : M (43 + 5) = .inl (0, 60, .inl g4)) (hsz : sz ≤ 60) {lot : Int32} : ∀ (m k : Nat), k + m = c0 → ev_E G mX4_take 2 0 0 n (cp_stk M (41 + 10) s (k)) 3 [some (.ref 41), some (.ref g), some (.ref 27), some (.int lot), some (.int (nI k))] [] (ev_is none (ev_set (ev_ml (cp_stk M (41 + 10) s (c0)) [(43, .inr (8, [.ref (43 + 1), .ref (43 + 2), .ref (43 + 3), .ref (43 + 4), .ref (43 + 5), .ref (43 + 6), .ref (43 + 7), .long up2, .long dn2, .int (nI sz)])), (43 + 1, .inl (0, 60, .inl (fl_mix sz f0 g0))), (43 + 2, .inl (0, 60, .inl (fl_mix sz f1 g1))), (43 + 3, .inl (0, 60, .inl (fl_mix sz f2 g2))), (43 + 4, .inl (0, 60, .inl (fl_mix sz f3 g3))), (43 + 5, .inl (0, 60, .inl (fl_mix sz f4 g4)))]) 41 (.inr (4, [.ref (41 + 1), .ref (41 + 2), .int (lot), .int (ev_b true)])))) := by
  intro m
  induction m with
  | zero =>
    intro k hk
    refine ev_iload dX4_take_3 rfl ?_
    refine ev_aload_n (i := 1) dX4_take_5 rfl rfl ?_
    refine ev_getf dX4_take_6 flX4_25 (by first | assumption | exact (cp_stk_out (by omega)).trans hI | exact (cp_stk_out (by omega)).trans hJ | exact (cp_stk_out (by omega)).trans hG | exact (cp_stk_out (by omega)).trans hA | exact ev_set_eq | exact (cp_out_43_27 (by decide)).trans ((cp_stk_out (by omega)).trans hI)) (by rfl) ?_
    refine ev_icmp_ge (tgt := 45) dX4_take_9 (by decide) (fun h9 => ?_) (fun h9 => False.elim (nI_nlt (a := k) (b := c0) (by omega) (by omega) h9))
    obtain rfl : k = c0 := by omega
    refine ev_aload_n (i := 0) dX4_take_45 rfl rfl ?_
    refine ev_getf dX4_take_46 flX4_20 (by first | assumption | exact (cp_stk_out (by omega)).trans hI | exact (cp_stk_out (by omega)).trans hJ | exact (cp_stk_out (by omega)).trans hG | exact (cp_stk_out (by omega)).trans hA | exact ev_set_eq | exact (cp_out_43_27 (by decide)).trans ((cp_stk_out (by omega)).trans hI)) (by rfl) ?_
    refine ev_aload_n (i := 2) dX4_take_49 rfl rfl ?_
    refine ev_w2 kX4_take_50 (c8_copy_43_27 ((cp_stk_out (by omega)).trans hz) ((cp_stk_out (by omega)).trans z0) ((cp_stk_out (by omega)).trans z1) ((cp_stk_out (by omega)).trans z2) ((cp_stk_out (by omega)).trans z3) ((cp_stk_out (by omega)).trans z4) ((cp_stk_out (by omega)).trans z5) ((cp_stk_out (by omega)).trans z6) ((cp_stk_out (by omega)).trans hy) ((cp_stk_out (by omega)).trans y0) ((cp_stk_out (by omega)).trans y1) ((cp_stk_out (by omega)).trans y2) ((cp_stk_out (by omega)).trans y3) ((cp_stk_out (by omega)).trans y4) hsz) (ev_rv_of (by first | assumption | exact (cp_stk_out (by omega)).trans hI | exact (cp_stk_out (by omega)).trans hJ | exact (cp_stk_out (by omega)).trans hG | exact (cp_stk_out (by omega)).trans hA | exact ev_set_eq | exact (cp_out_43_27 (by decide)).trans ((cp_stk_out (by omega)).trans hI)) rfl rfl) (by decide) (by decide) (Nat.le_of_ble_eq_true rfl) ?_
    refine ev_aload_n (i := 0) dX4_take_53 rfl rfl ?_
    refine ev_iload_n (i := 3) dX4_take_54 rfl rfl ?_
    refine ev_puti dX4_take_55 fpX4_39 (by first | assumption | exact (cp_stk_out (by omega)).trans hI | exact (cp_stk_out (by omega)).trans hJ | exact (cp_stk_out (by omega)).trans hG | exact (cp_stk_out (by omega)).trans hA | exact ev_set_eq | exact (cp_out_43_27 (by decide)).trans ((cp_stk_out (by omega)).trans hI)) (by exact Nat.le_of_ble_eq_true rfl) ?_
    refine ev_aload_n (i := 0) dX4_take_58 rfl rfl ?_
    refine ev_iconst (v := 1) dX4_take_59 cni_1 ?_
    refine ev_topi (show (1 : Int32) = ev_b true from rfl) ?_
    refine ev_putz dX4_take_60 fpX4_42 (by first | assumption | exact (cp_stk_out (by omega)).trans hI | exact (cp_stk_out (by omega)).trans hJ | exact (cp_stk_out (by omega)).trans hG | exact (cp_stk_out (by omega)).trans hA | exact ev_set_eq | exact (cp_out_43_27 (by decide)).trans ((cp_stk_out (by omega)).trans hI)) (by exact Nat.le_of_ble_eq_true rfl) ?_
    refine ev_mem ev_set_set ?_
    exact ev_retv dX4_take_63 rfl (⟨rfl, rfl⟩)
  | succ m ih =>
    intro k hk
    have hSk : M (g + 4 + k) = .inr (9, [.int (s (7 * (k) + 0)), .int (s (7 * (k) + 1)), .int (s (7 * (k) + 2)), .int (s (7 * (k) + 3)), .int (s (7 * (k) + 4)), .int (s (7 * (k) + 5)), .int (s (7 * (k) + 6))]) := hS k (by omega)
    have hDk : M (41 + 10 + k) = .inr (9, [.int (v (7 * (k) + 0)), .int (v (7 * (k) + 1)), .int (v (7 * (k) + 2)), .int (v (7 * (k) + 3)), .int (v (7 * (k) + 4)), .int (v (7 * (k) + 5)), .int (v (7 * (k) + 6))]) := hD k (by omega)
    refine ev_iload dX4_take_3 rfl ?_
    refine ev_aload_n (i := 1) dX4_take_5 rfl rfl ?_
    refine ev_getf dX4_take_6 flX4_25 (by first | assumption | exact (cp_stk_out (by omega)).trans hI | exact (cp_stk_out (by omega)).trans hJ | exact (cp_stk_out (by omega)).trans hG | exact (cp_stk_out (by omega)).trans hA) (by rfl) ?_
    refine ev_icmp_ge (tgt := 45) dX4_take_9 (by decide) (fun h9 => False.elim (nI_ge (a := k) (b := c0) (by omega) (by omega) h9)) (fun h9 => ?_)
    refine ev_iload dX4_take_12 rfl ?_
    refine ev_aload_n (i := 0) dX4_take_14 rfl rfl ?_
    refine ev_getf dX4_take_15 flX4_11 (by first | assumption | exact (cp_stk_out (by omega)).trans hI | exact (cp_stk_out (by omega)).trans hJ | exact (cp_stk_out (by omega)).trans hG | exact (cp_stk_out (by omega)).trans hA) (by rfl) ?_
    refine ev_alen (v := 12) dX4_take_18 (fun _ => rfl) (by first | assumption | exact (cp_stk_out (by omega)).trans hI | exact (cp_stk_out (by omega)).trans hJ | exact (cp_stk_out (by omega)).trans hG | exact (cp_stk_out (by omega)).trans hA) (by rfl) ?_
    refine ev_icmp_ge (tgt := 45) dX4_take_19 (by decide) (fun h19 => False.elim (nI_ge (a := k) (b := 12) (by omega) (by decide) h19)) (fun h19 => ?_)
    refine ev_aload_n (i := 0) dX4_take_22 rfl rfl ?_
    refine ev_getf dX4_take_23 flX4_11 (by first | assumption | exact (cp_stk_out (by omega)).trans hI | exact (cp_stk_out (by omega)).trans hJ | exact (cp_stk_out (by omega)).trans hG | exact (cp_stk_out (by omega)).trans hA) (by rfl) ?_
    refine ev_iload dX4_take_26 rfl ?_
    refine ev_aald (j := k) dX4_take_28 (fun _ => rfl) (by first | assumption | exact (cp_stk_out (by omega)).trans hI | exact (cp_stk_out (by omega)).trans hJ | exact (cp_stk_out (by omega)).trans hG | exact (cp_stk_out (by omega)).trans hA) (ev_ix_nI (by omega)) (by omega) (hfi k (by omega)) ?_
    refine ev_aload_n (i := 1) dX4_take_29 rfl rfl ?_
    refine ev_getf dX4_take_30 flX4_31 (by first | assumption | exact (cp_stk_out (by omega)).trans hI | exact (cp_stk_out (by omega)).trans hJ | exact (cp_stk_out (by omega)).trans hG | exact (cp_stk_out (by omega)).trans hA) (by rfl) ?_
    refine ev_iload dX4_take_33 rfl ?_
    refine ev_aald (j := k) dX4_take_35 (fun _ => rfl) (by first | assumption | exact (cp_stk_out (by omega)).trans hI | exact (cp_stk_out (by omega)).trans hJ | exact (cp_stk_out (by omega)).trans hG | exact (cp_stk_out (by omega)).trans hA) (ev_ix_nI (by omega)) (by omega) (hfa k (by omega)) ?_
    refine ev_w2 kX4_take_36 (c9_copy ((cp_stk_out (by omega)).trans hDk) ((cp_stk_out (by omega)).trans hSk) (by omega)) (ev_rv_of (by exact ((cp_stk_out (by omega)).trans hDk)) rfl rfl) (by decide) (by decide) (Nat.le_of_ble_eq_true rfl) ?_
    refine ev_mem (cp_stk_S (M := M) (base := 41 + 10) (k := k) (s := s)) ?_
    refine ev_iinc (v := nI (k + 1)) dX4_take_39 rfl (nI_1 k) (Nat.le_of_ble_eq_true rfl) rfl ?_
    refine ev_goto (tgt := 3) dX4_take_42 (by decide) ?_
    exact ih (k + 1) (by omega)
theorem c4_take_41 {G : ev_G} {n : Nat} {M : ev_M} {g c0 c1 c2 : Nat} (hG : M g = .inr (3, [.ref (g + 1), .ref (g + 2), .ref (g + 3), .int (nI c0), .int (nI c1), .int (nI c2)])) {fa : Nat → Option Nat} (hA : M (g + 1) = .inl (2, 12, ev_q fa)) (hfa : ∀ i, i < 12 → fa i = some (g + 4 + i)) (hc : c0 ≤ 12) (hg : 84 < g) {lt : Int32} {kp : Bool} {fi : Nat → Option Nat} (hI : M 41 = .inr (4, [.ref (41 + 1), .ref (41 + 2), .int (lt), .int (ev_b kp)])) (hJ : M (41 + 1) = .inl (2, 12, ev_q fi)) (hfi : ∀ i, i < 12 → fi i = some (41 + 10 + i)) {s : Nat → Int32} (hS : ∀ i, i < c0 → cl_stk M (g + 4 + i) (fun k => s (7 * i + k))) {v : Nat → Int32} (hD : ∀ i, i < 12 → cl_stk M (41 + 10 + i) (fun k => v (7 * i + k))) {up dn : Int64} {f0 f1 f2 f3 f4 f5 f6 : Nat → Int32} {sz : Nat} (hz : M (27) = .inr (8, [.ref (27 + 1), .ref (27 + 2), .ref (27 + 3), .ref (27 + 4), .ref (27 + 5), .ref (27 + 6), .ref (27 + 7), .long up, .long dn, .int (nI sz)])) (z0 : M (27 + 1) = .inl (0, 60, .inl f0)) (z1 : M (27 + 2) = .inl (0, 60, .inl f1)) (z2 : M (27 + 3) = .inl (0, 60, .inl f2)) (z3 : M (27 + 4) = .inl (0, 60, .inl f3)) (z4 : M (27 + 5) = .inl (0, 60, .inl f4)) (z5 : M (27 + 6) = .inl (0, 12, .inl f5)) (z6 : M (27 + 7) = .inl (0, 12, .inl f6)) {up2 dn2 : Int64} {x : Int32} {g0 g1 g2 g3 g4 : Nat → Int32} (hy : M 43 = .inr (8, [.ref (43 + 1), .ref (43 + 2), .ref (43 + 3), .ref (43 + 4), .ref (43 + 5), .ref (43 + 6), .ref (43 + 7), .long up2, .long dn2, .int (x)])) (y0 : M (43 + 1) = .inl (0, 60, .inl g0)) (y1 : M (43 + 2) = .inl (0, 60, .inl g1)) (y2 : M (43 + 3) = .inl (0, 60, .inl g2)) (y3 : M (43 + 4) = .inl (0, 60, .inl g3)) (y4 : M (43 + 5) = .inl (0, 60, .inl g4)) (hsz : sz ≤ 60) {lot : Int32}  : ev_Cal G mX4_take 2 0 0 [.ref 41, .ref g, .ref 27, .int lot] n M (ev_is none (ev_set (ev_ml (cp_stk M (41 + 10) s (c0)) [(43, .inr (8, [.ref (43 + 1), .ref (43 + 2), .ref (43 + 3), .ref (43 + 4), .ref (43 + 5), .ref (43 + 6), .ref (43 + 7), .long up2, .long dn2, .int (nI sz)])), (43 + 1, .inl (0, 60, .inl (fl_mix sz f0 g0))), (43 + 2, .inl (0, 60, .inl (fl_mix sz f1 g1))), (43 + 3, .inl (0, 60, .inl (fl_mix sz f2 g2))), (43 + 4, .inl (0, 60, .inl (fl_mix sz f3 g3))), (43 + 5, .inl (0, 60, .inl (fl_mix sz f4 g4)))]) 41 (.inr (4, [.ref (41 + 1), .ref (41 + 2), .int (lot), .int (ev_b true)])))) := by
  refine ev_Cal_of (L := [some (.ref 41), some (.ref g), some (.ref 27), some (.int lot), none]) (by decide +kernel) (Nat.le_of_ble_eq_true rfl) rfl ?_
  refine ev_iconst (v := 0) dX4_take_0 cni_0 ?_
  refine ev_istore dX4_take_1 (Nat.le_of_ble_eq_true rfl) rfl ?_
  refine ev_mem ?_ (l4_take_41 hG hA hfa hc hg hI hJ hfi hS hD hz z0 z1 z2 z3 z4 z5 z6 hy y0 y1 y2 y3 y4 hsz c0 0 (Nat.zero_add _))
  exact cp_stk_0.symm
theorem l4_give_41 {G : ev_G} {n : Nat} {M : ev_M} {g c0 c1 c2 : Nat} (hG : M g = .inr (3, [.ref (g + 1), .ref (g + 2), .ref (g + 3), .int (nI c0), .int (nI c1), .int (nI c2)])) {fa : Nat → Option Nat} (hA : M (g + 1) = .inl (2, 12, ev_q fa)) (hfa : ∀ i, i < 12 → fa i = some (g + 4 + i)) (hc : c0 ≤ 12) (hg : 84 < g) {lt : Int32} {kp : Bool} {fi : Nat → Option Nat} (hI : M 41 = .inr (4, [.ref (41 + 1), .ref (41 + 2), .int (lt), .int (ev_b kp)])) (hJ : M (41 + 1) = .inl (2, 12, ev_q fi)) (hfi : ∀ i, i < 12 → fi i = some (41 + 10 + i)) {s : Nat → Int32} (hS : ∀ i, i < c0 → cl_stk M (41 + 10 + i) (fun k => s (7 * i + k))) {v : Nat → Int32} (hD : ∀ i, i < 12 → cl_stk M (g + 4 + i) (fun k => v (7 * i + k))) {up dn : Int64} {f0 f1 f2 f3 f4 f5 f6 : Nat → Int32} {sz : Nat} (hz : M (43) = .inr (8, [.ref (43 + 1), .ref (43 + 2), .ref (43 + 3), .ref (43 + 4), .ref (43 + 5), .ref (43 + 6), .ref (43 + 7), .long up, .long dn, .int (nI sz)])) (z0 : M (43 + 1) = .inl (0, 60, .inl f0)) (z1 : M (43 + 2) = .inl (0, 60, .inl f1)) (z2 : M (43 + 3) = .inl (0, 60, .inl f2)) (z3 : M (43 + 4) = .inl (0, 60, .inl f3)) (z4 : M (43 + 5) = .inl (0, 60, .inl f4)) (z5 : M (43 + 6) = .inl (0, 12, .inl f5)) (z6 : M (43 + 7) = .inl (0, 12, .inl f6)) {up2 dn2 : Int64} {x : Int32} {g0 g1 g2 g3 g4 : Nat → Int32} (hy : M 27 = .inr (8, [.ref (27 + 1), .ref (27 + 2), .ref (27 + 3), .ref (27 + 4), .ref (27 + 5), .ref (27 + 6), .ref (27 + 7), .long up2, .long dn2, .int (x)])) (y0 : M (27 + 1) = .inl (0, 60, .inl g0)) (y1 : M (27 + 2) = .inl (0, 60, .inl g1)) (y2 : M (27 + 3) = .inl (0, 60, .inl g2)) (y3 : M (27 + 4) = .inl (0, 60, .inl g3)) (y4 : M (27 + 5) = .inl (0, 60, .inl g4)) (hsz : sz ≤ 60) : ∀ (m k : Nat), k + m = c0 → ev_E G mX4_give 2 0 0 n (cp_stk M (g + 4) s (k)) 2 [some (.ref 41), some (.ref g), some (.ref 27), some (.int (nI k))] [] (ev_is none (ev_ml (cp_stk M (g + 4) s (c0)) [(27, .inr (8, [.ref (27 + 1), .ref (27 + 2), .ref (27 + 3), .ref (27 + 4), .ref (27 + 5), .ref (27 + 6), .ref (27 + 7), .long up2, .long dn2, .int (nI sz)])), (27 + 1, .inl (0, 60, .inl (fl_mix sz f0 g0))), (27 + 2, .inl (0, 60, .inl (fl_mix sz f1 g1))), (27 + 3, .inl (0, 60, .inl (fl_mix sz f2 g2))), (27 + 4, .inl (0, 60, .inl (fl_mix sz f3 g3))), (27 + 5, .inl (0, 60, .inl (fl_mix sz f4 g4)))])) := by
  intro m
  induction m with
  | zero =>
    intro k hk
    refine ev_iload_n (i := 3) dX4_give_2 rfl rfl ?_
    refine ev_aload_n (i := 1) dX4_give_3 rfl rfl ?_
    refine ev_getf dX4_give_4 flX4_25 (by first | assumption | exact (cp_stk_out (by omega)).trans hI | exact (cp_stk_out (by omega)).trans hJ | exact (cp_stk_out (by omega)).trans hG | exact (cp_stk_out (by omega)).trans hA) (by rfl) ?_
    refine ev_icmp_ge (tgt := 40) dX4_give_7 (by decide) (fun h7 => ?_) (fun h7 => False.elim (nI_nlt (a := k) (b := c0) (by omega) (by omega) h7))
    obtain rfl : k = c0 := by omega
    refine ev_aload_n (i := 2) dX4_give_40 rfl rfl ?_
    refine ev_aload_n (i := 0) dX4_give_41 rfl rfl ?_
    refine ev_getf dX4_give_42 flX4_20 (by first | assumption | exact (cp_stk_out (by omega)).trans hI | exact (cp_stk_out (by omega)).trans hJ | exact (cp_stk_out (by omega)).trans hG | exact (cp_stk_out (by omega)).trans hA) (by rfl) ?_
    refine ev_w2 kX4_give_45 (c8_copy_27_43 ((cp_stk_out (by omega)).trans hz) ((cp_stk_out (by omega)).trans z0) ((cp_stk_out (by omega)).trans z1) ((cp_stk_out (by omega)).trans z2) ((cp_stk_out (by omega)).trans z3) ((cp_stk_out (by omega)).trans z4) ((cp_stk_out (by omega)).trans z5) ((cp_stk_out (by omega)).trans z6) ((cp_stk_out (by omega)).trans hy) ((cp_stk_out (by omega)).trans y0) ((cp_stk_out (by omega)).trans y1) ((cp_stk_out (by omega)).trans y2) ((cp_stk_out (by omega)).trans y3) ((cp_stk_out (by omega)).trans y4) hsz) (ev_rv_of (by first | assumption | exact (cp_stk_out (by omega)).trans hI | exact (cp_stk_out (by omega)).trans hJ | exact (cp_stk_out (by omega)).trans hG | exact (cp_stk_out (by omega)).trans hA) rfl rfl) (by decide) (by decide) (Nat.le_of_ble_eq_true rfl) ?_
    exact ev_retv dX4_give_48 rfl (⟨rfl, rfl⟩)
  | succ m ih =>
    intro k hk
    have hSk : M (41 + 10 + k) = .inr (9, [.int (s (7 * (k) + 0)), .int (s (7 * (k) + 1)), .int (s (7 * (k) + 2)), .int (s (7 * (k) + 3)), .int (s (7 * (k) + 4)), .int (s (7 * (k) + 5)), .int (s (7 * (k) + 6))]) := hS k (by omega)
    have hDk : M (g + 4 + k) = .inr (9, [.int (v (7 * (k) + 0)), .int (v (7 * (k) + 1)), .int (v (7 * (k) + 2)), .int (v (7 * (k) + 3)), .int (v (7 * (k) + 4)), .int (v (7 * (k) + 5)), .int (v (7 * (k) + 6))]) := hD k (by omega)
    refine ev_iload_n (i := 3) dX4_give_2 rfl rfl ?_
    refine ev_aload_n (i := 1) dX4_give_3 rfl rfl ?_
    refine ev_getf dX4_give_4 flX4_25 (by first | assumption | exact (cp_stk_out (by omega)).trans hI | exact (cp_stk_out (by omega)).trans hJ | exact (cp_stk_out (by omega)).trans hG | exact (cp_stk_out (by omega)).trans hA) (by rfl) ?_
    refine ev_icmp_ge (tgt := 40) dX4_give_7 (by decide) (fun h7 => False.elim (nI_ge (a := k) (b := c0) (by omega) (by omega) h7)) (fun h7 => ?_)
    refine ev_iload_n (i := 3) dX4_give_10 rfl rfl ?_
    refine ev_aload_n (i := 0) dX4_give_11 rfl rfl ?_
    refine ev_getf dX4_give_12 flX4_11 (by first | assumption | exact (cp_stk_out (by omega)).trans hI | exact (cp_stk_out (by omega)).trans hJ | exact (cp_stk_out (by omega)).trans hG | exact (cp_stk_out (by omega)).trans hA) (by rfl) ?_
    refine ev_alen (v := 12) dX4_give_15 (fun _ => rfl) (by first | assumption | exact (cp_stk_out (by omega)).trans hI | exact (cp_stk_out (by omega)).trans hJ | exact (cp_stk_out (by omega)).trans hG | exact (cp_stk_out (by omega)).trans hA) (by rfl) ?_
    refine ev_icmp_ge (tgt := 40) dX4_give_16 (by decide) (fun h16 => False.elim (nI_ge (a := k) (b := 12) (by omega) (by decide) h16)) (fun h16 => ?_)
    refine ev_aload_n (i := 1) dX4_give_19 rfl rfl ?_
    refine ev_getf dX4_give_20 flX4_31 (by first | assumption | exact (cp_stk_out (by omega)).trans hI | exact (cp_stk_out (by omega)).trans hJ | exact (cp_stk_out (by omega)).trans hG | exact (cp_stk_out (by omega)).trans hA) (by rfl) ?_
    refine ev_iload_n (i := 3) dX4_give_23 rfl rfl ?_
    refine ev_aald (j := k) dX4_give_24 (fun _ => rfl) (by first | assumption | exact (cp_stk_out (by omega)).trans hI | exact (cp_stk_out (by omega)).trans hJ | exact (cp_stk_out (by omega)).trans hG | exact (cp_stk_out (by omega)).trans hA) (ev_ix_nI (by omega)) (by omega) (hfa k (by omega)) ?_
    refine ev_aload_n (i := 0) dX4_give_25 rfl rfl ?_
    refine ev_getf dX4_give_26 flX4_11 (by first | assumption | exact (cp_stk_out (by omega)).trans hI | exact (cp_stk_out (by omega)).trans hJ | exact (cp_stk_out (by omega)).trans hG | exact (cp_stk_out (by omega)).trans hA) (by rfl) ?_
    refine ev_iload_n (i := 3) dX4_give_29 rfl rfl ?_
    refine ev_aald (j := k) dX4_give_30 (fun _ => rfl) (by first | assumption | exact (cp_stk_out (by omega)).trans hI | exact (cp_stk_out (by omega)).trans hJ | exact (cp_stk_out (by omega)).trans hG | exact (cp_stk_out (by omega)).trans hA) (ev_ix_nI (by omega)) (by omega) (hfi k (by omega)) ?_
    refine ev_w2 kX4_give_31 (c9_copy ((cp_stk_out (by omega)).trans hDk) ((cp_stk_out (by omega)).trans hSk) (by omega)) (ev_rv_of (by exact ((cp_stk_out (by omega)).trans hDk)) rfl rfl) (by decide) (by decide) (Nat.le_of_ble_eq_true rfl) ?_
    refine ev_mem (cp_stk_S (M := M) (base := g + 4) (k := k) (s := s)) ?_
    refine ev_iinc (v := nI (k + 1)) dX4_give_34 rfl (nI_1 k) (Nat.le_of_ble_eq_true rfl) rfl ?_
    refine ev_goto (tgt := 2) dX4_give_37 (by decide) ?_
    exact ih (k + 1) (by omega)
theorem c4_give_41 {G : ev_G} {n : Nat} {M : ev_M} {g c0 c1 c2 : Nat} (hG : M g = .inr (3, [.ref (g + 1), .ref (g + 2), .ref (g + 3), .int (nI c0), .int (nI c1), .int (nI c2)])) {fa : Nat → Option Nat} (hA : M (g + 1) = .inl (2, 12, ev_q fa)) (hfa : ∀ i, i < 12 → fa i = some (g + 4 + i)) (hc : c0 ≤ 12) (hg : 84 < g) {lt : Int32} {kp : Bool} {fi : Nat → Option Nat} (hI : M 41 = .inr (4, [.ref (41 + 1), .ref (41 + 2), .int (lt), .int (ev_b kp)])) (hJ : M (41 + 1) = .inl (2, 12, ev_q fi)) (hfi : ∀ i, i < 12 → fi i = some (41 + 10 + i)) {s : Nat → Int32} (hS : ∀ i, i < c0 → cl_stk M (41 + 10 + i) (fun k => s (7 * i + k))) {v : Nat → Int32} (hD : ∀ i, i < 12 → cl_stk M (g + 4 + i) (fun k => v (7 * i + k))) {up dn : Int64} {f0 f1 f2 f3 f4 f5 f6 : Nat → Int32} {sz : Nat} (hz : M (43) = .inr (8, [.ref (43 + 1), .ref (43 + 2), .ref (43 + 3), .ref (43 + 4), .ref (43 + 5), .ref (43 + 6), .ref (43 + 7), .long up, .long dn, .int (nI sz)])) (z0 : M (43 + 1) = .inl (0, 60, .inl f0)) (z1 : M (43 + 2) = .inl (0, 60, .inl f1)) (z2 : M (43 + 3) = .inl (0, 60, .inl f2)) (z3 : M (43 + 4) = .inl (0, 60, .inl f3)) (z4 : M (43 + 5) = .inl (0, 60, .inl f4)) (z5 : M (43 + 6) = .inl (0, 12, .inl f5)) (z6 : M (43 + 7) = .inl (0, 12, .inl f6)) {up2 dn2 : Int64} {x : Int32} {g0 g1 g2 g3 g4 : Nat → Int32} (hy : M 27 = .inr (8, [.ref (27 + 1), .ref (27 + 2), .ref (27 + 3), .ref (27 + 4), .ref (27 + 5), .ref (27 + 6), .ref (27 + 7), .long up2, .long dn2, .int (x)])) (y0 : M (27 + 1) = .inl (0, 60, .inl g0)) (y1 : M (27 + 2) = .inl (0, 60, .inl g1)) (y2 : M (27 + 3) = .inl (0, 60, .inl g2)) (y3 : M (27 + 4) = .inl (0, 60, .inl g3)) (y4 : M (27 + 5) = .inl (0, 60, .inl g4)) (hsz : sz ≤ 60)  : ev_Cal G mX4_give 2 0 0 [.ref 41, .ref g, .ref 27] n M (ev_is none (ev_ml (cp_stk M (g + 4) s (c0)) [(27, .inr (8, [.ref (27 + 1), .ref (27 + 2), .ref (27 + 3), .ref (27 + 4), .ref (27 + 5), .ref (27 + 6), .ref (27 + 7), .long up2, .long dn2, .int (nI sz)])), (27 + 1, .inl (0, 60, .inl (fl_mix sz f0 g0))), (27 + 2, .inl (0, 60, .inl (fl_mix sz f1 g1))), (27 + 3, .inl (0, 60, .inl (fl_mix sz f2 g2))), (27 + 4, .inl (0, 60, .inl (fl_mix sz f3 g3))), (27 + 5, .inl (0, 60, .inl (fl_mix sz f4 g4)))])) := by
  refine ev_Cal_of (L := [some (.ref 41), some (.ref g), some (.ref 27), none]) (by decide +kernel) (Nat.le_of_ble_eq_true rfl) rfl ?_
  refine ev_iconst (v := 0) dX4_give_0 cni_0 ?_
  refine ev_istore_n (i := 3) dX4_give_1 rfl (Nat.le_of_ble_eq_true rfl) rfl ?_
  refine ev_mem ?_ (l4_give_41 hG hA hfa hc hg hI hJ hfi hS hD hz z0 z1 z2 z3 z4 z5 z6 hy y0 y1 y2 y3 y4 hsz c0 0 (Nat.zero_add _))
  exact cp_stk_0.symm
theorem c12_imageAt_41 {G : ev_G} {n : Nat} {M : ev_M} {g g' : Nat} {lot : Int32} (h20 : M 20 = .inr (12, [.ref 21, .ref 23, .ref 25, .ref 27, .ref 35, .ref 39, .ref 40, .ref 41, .ref 63, .ref g, .ref g', .int lot]))  : ev_Cal G mX12_imageAt 1 0 0 [.ref 20, .int 0] n M (ev_is (some (.ref 41)) M) := by
  refine ev_Cal_of (L := [some (.ref 20), some (.int 0)]) (by decide +kernel) (Nat.le_of_ble_eq_true rfl) rfl ?_
  refine ev_iload_n (i := 1) dX12_imageAt_0 rfl rfl ?_
  refine ev_if_ne (tgt := 9) dX12_imageAt_1 (by decide) (fun h1 => False.elim (absurd rfl h1)) (fun h1 => ?_)
  refine ev_aload_n (i := 0) dX12_imageAt_4 rfl rfl ?_
  refine ev_getf dX12_imageAt_5 flX12_65 (by first | assumption | rfl) (by rfl) ?_
  exact ev_reta dX12_imageAt_8 rfl (⟨rfl, rfl⟩)
theorem c12_keep_41 {G : ev_G} {n : Nat} {M : ev_M} {g c0 c1 c2 : Nat} (hG : M g = .inr (3, [.ref (g + 1), .ref (g + 2), .ref (g + 3), .int (nI c0), .int (nI c1), .int (nI c2)])) {fa : Nat → Option Nat} (hA : M (g + 1) = .inl (2, 12, ev_q fa)) (hfa : ∀ i, i < 12 → fa i = some (g + 4 + i)) (hc : c0 ≤ 12) (hg : 84 < g) {lt : Int32} {kp : Bool} {fi : Nat → Option Nat} (hI : M 41 = .inr (4, [.ref (41 + 1), .ref (41 + 2), .int (lt), .int (ev_b kp)])) (hJ : M (41 + 1) = .inl (2, 12, ev_q fi)) (hfi : ∀ i, i < 12 → fi i = some (41 + 10 + i)) {s : Nat → Int32} (hS : ∀ i, i < c0 → cl_stk M (g + 4 + i) (fun k => s (7 * i + k))) {v : Nat → Int32} (hD : ∀ i, i < 12 → cl_stk M (41 + 10 + i) (fun k => v (7 * i + k))) {up dn : Int64} {f0 f1 f2 f3 f4 f5 f6 : Nat → Int32} {sz : Nat} (hz : M (27) = .inr (8, [.ref (27 + 1), .ref (27 + 2), .ref (27 + 3), .ref (27 + 4), .ref (27 + 5), .ref (27 + 6), .ref (27 + 7), .long up, .long dn, .int (nI sz)])) (z0 : M (27 + 1) = .inl (0, 60, .inl f0)) (z1 : M (27 + 2) = .inl (0, 60, .inl f1)) (z2 : M (27 + 3) = .inl (0, 60, .inl f2)) (z3 : M (27 + 4) = .inl (0, 60, .inl f3)) (z4 : M (27 + 5) = .inl (0, 60, .inl f4)) (z5 : M (27 + 6) = .inl (0, 12, .inl f5)) (z6 : M (27 + 7) = .inl (0, 12, .inl f6)) {up2 dn2 : Int64} {x : Int32} {g0 g1 g2 g3 g4 : Nat → Int32} (hy : M 43 = .inr (8, [.ref (43 + 1), .ref (43 + 2), .ref (43 + 3), .ref (43 + 4), .ref (43 + 5), .ref (43 + 6), .ref (43 + 7), .long up2, .long dn2, .int (x)])) (y0 : M (43 + 1) = .inl (0, 60, .inl g0)) (y1 : M (43 + 2) = .inl (0, 60, .inl g1)) (y2 : M (43 + 3) = .inl (0, 60, .inl g2)) (y3 : M (43 + 4) = .inl (0, 60, .inl g3)) (y4 : M (43 + 5) = .inl (0, 60, .inl g4)) (hsz : sz ≤ 60) {lot : Int32} {g' : Nat} (h20 : M 20 = .inr (12, [.ref 21, .ref 23, .ref 25, .ref 27, .ref 35, .ref 39, .ref 40, .ref 41, .ref 63, .ref g, .ref g', .int lot]))  : ev_Cal G mX12_keep 3 0 0 [.ref 20, .int 0] n M (ev_is (some (.int (nI sz))) (ev_set (ev_ml (cp_stk M (41 + 10) s (c0)) [(43, .inr (8, [.ref (43 + 1), .ref (43 + 2), .ref (43 + 3), .ref (43 + 4), .ref (43 + 5), .ref (43 + 6), .ref (43 + 7), .long up2, .long dn2, .int (nI sz)])), (43 + 1, .inl (0, 60, .inl (fl_mix sz f0 g0))), (43 + 2, .inl (0, 60, .inl (fl_mix sz f1 g1))), (43 + 3, .inl (0, 60, .inl (fl_mix sz f2 g2))), (43 + 4, .inl (0, 60, .inl (fl_mix sz f3 g3))), (43 + 5, .inl (0, 60, .inl (fl_mix sz f4 g4)))]) 41 (.inr (4, [.ref (41 + 1), .ref (41 + 2), .int (lot), .int (ev_b true)])))) := by
  refine ev_Cal_of (L := [some (.ref 20), some (.int 0), none]) (by decide +kernel) (Nat.le_of_ble_eq_true rfl) rfl ?_
  refine ev_aload_n (i := 0) dX12_keep_0 rfl rfl ?_
  refine ev_iload_n (i := 1) dX12_keep_1 rfl rfl ?_
  refine ev_c2 kX12_keep_2 (c12_imageAt_41 h20) (ev_rv_of (by first | assumption | exact ((ev_set_ne (by decide)).trans ((cp_out_43_27 (by decide)).trans ((cp_stk_out (by omega)).trans h20))) | (refine (ev_set_ne (by decide)).trans ?_; exact (cp_out_43_27 (by decide)).trans ((cp_stk_out (by omega)).trans hz))) rfl rfl) (by decide) (by decide) (Nat.le_of_ble_eq_true rfl) ?_
  refine ev_astore_n (i := 2) dX12_keep_5 rfl (Nat.le_of_ble_eq_true rfl) rfl ?_
  refine ev_aload_n (i := 2) dX12_keep_6 rfl rfl ?_
  refine ev_ifnonnull (tgt := 12) dX12_keep_7 (by decide) ?_
  refine ev_aload_n (i := 2) dX12_keep_12 rfl rfl ?_
  refine ev_aload_n (i := 0) dX12_keep_13 rfl rfl ?_
  refine ev_getf dX12_keep_14 flX12_75 (by first | assumption | exact ((ev_set_ne (by decide)).trans ((cp_out_43_27 (by decide)).trans ((cp_stk_out (by omega)).trans h20))) | (refine (ev_set_ne (by decide)).trans ?_; exact (cp_out_43_27 (by decide)).trans ((cp_stk_out (by omega)).trans hz))) (by rfl) ?_
  refine ev_aload_n (i := 0) dX12_keep_17 rfl rfl ?_
  refine ev_getf dX12_keep_18 flX12_35 (by first | assumption | exact ((ev_set_ne (by decide)).trans ((cp_out_43_27 (by decide)).trans ((cp_stk_out (by omega)).trans h20))) | (refine (ev_set_ne (by decide)).trans ?_; exact (cp_out_43_27 (by decide)).trans ((cp_stk_out (by omega)).trans hz))) (by rfl) ?_
  refine ev_aload_n (i := 0) dX12_keep_21 rfl rfl ?_
  refine ev_getf dX12_keep_22 flX12_82 (by first | assumption | exact ((ev_set_ne (by decide)).trans ((cp_out_43_27 (by decide)).trans ((cp_stk_out (by omega)).trans h20))) | (refine (ev_set_ne (by decide)).trans ?_; exact (cp_out_43_27 (by decide)).trans ((cp_stk_out (by omega)).trans hz))) (by rfl) ?_
  refine ev_w4 kX12_keep_25 (c4_take_41 hG hA hfa hc hg hI hJ hfi hS hD hz z0 z1 z2 z3 z4 z5 z6 hy y0 y1 y2 y3 y4 hsz) (ev_rv_of (by first | assumption | exact ((ev_set_ne (by decide)).trans ((cp_out_43_27 (by decide)).trans ((cp_stk_out (by omega)).trans h20))) | (refine (ev_set_ne (by decide)).trans ?_; exact (cp_out_43_27 (by decide)).trans ((cp_stk_out (by omega)).trans hz))) rfl rfl) (by decide) (by decide) (Nat.le_of_ble_eq_true rfl) ?_
  refine ev_aload_n (i := 0) dX12_keep_28 rfl rfl ?_
  refine ev_getf dX12_keep_29 flX12_35 (by first | assumption | exact ((ev_set_ne (by decide)).trans ((cp_out_43_27 (by decide)).trans ((cp_stk_out (by omega)).trans h20))) | (refine (ev_set_ne (by decide)).trans ?_; exact (cp_out_43_27 (by decide)).trans ((cp_stk_out (by omega)).trans hz))) (by rfl) ?_
  refine ev_getf dX12_keep_32 flX12_245 (by first | assumption | exact ((ev_set_ne (by decide)).trans ((cp_out_43_27 (by decide)).trans ((cp_stk_out (by omega)).trans h20))) | (refine (ev_set_ne (by decide)).trans ?_; exact (cp_out_43_27 (by decide)).trans ((cp_stk_out (by omega)).trans hz))) (by rfl) ?_
  exact ev_reti dX12_keep_35 rfl rfl (⟨rfl, rfl⟩)
theorem c12_back_41 {G : ev_G} {n : Nat} {M : ev_M} {g c0 c1 c2 : Nat} (hG : M g = .inr (3, [.ref (g + 1), .ref (g + 2), .ref (g + 3), .int (nI c0), .int (nI c1), .int (nI c2)])) {fa : Nat → Option Nat} (hA : M (g + 1) = .inl (2, 12, ev_q fa)) (hfa : ∀ i, i < 12 → fa i = some (g + 4 + i)) (hc : c0 ≤ 12) (hg : 84 < g) {lt : Int32} {fi : Nat → Option Nat} (hI : M 41 = .inr (4, [.ref (41 + 1), .ref (41 + 2), .int (lt), .int (ev_b true)])) (hJ : M (41 + 1) = .inl (2, 12, ev_q fi)) (hfi : ∀ i, i < 12 → fi i = some (41 + 10 + i)) {s : Nat → Int32} (hS : ∀ i, i < c0 → cl_stk M (41 + 10 + i) (fun k => s (7 * i + k))) {v : Nat → Int32} (hD : ∀ i, i < 12 → cl_stk M (g + 4 + i) (fun k => v (7 * i + k))) {up dn : Int64} {f0 f1 f2 f3 f4 f5 f6 : Nat → Int32} {sz : Nat} (hz : M (43) = .inr (8, [.ref (43 + 1), .ref (43 + 2), .ref (43 + 3), .ref (43 + 4), .ref (43 + 5), .ref (43 + 6), .ref (43 + 7), .long up, .long dn, .int (nI sz)])) (z0 : M (43 + 1) = .inl (0, 60, .inl f0)) (z1 : M (43 + 2) = .inl (0, 60, .inl f1)) (z2 : M (43 + 3) = .inl (0, 60, .inl f2)) (z3 : M (43 + 4) = .inl (0, 60, .inl f3)) (z4 : M (43 + 5) = .inl (0, 60, .inl f4)) (z5 : M (43 + 6) = .inl (0, 12, .inl f5)) (z6 : M (43 + 7) = .inl (0, 12, .inl f6)) {up2 dn2 : Int64} {x : Int32} {g0 g1 g2 g3 g4 : Nat → Int32} (hy : M 27 = .inr (8, [.ref (27 + 1), .ref (27 + 2), .ref (27 + 3), .ref (27 + 4), .ref (27 + 5), .ref (27 + 6), .ref (27 + 7), .long up2, .long dn2, .int (x)])) (y0 : M (27 + 1) = .inl (0, 60, .inl g0)) (y1 : M (27 + 2) = .inl (0, 60, .inl g1)) (y2 : M (27 + 3) = .inl (0, 60, .inl g2)) (y3 : M (27 + 4) = .inl (0, 60, .inl g3)) (y4 : M (27 + 5) = .inl (0, 60, .inl g4)) (hsz : sz ≤ 60) {lot : Int32} {g' : Nat} (h20 : M 20 = .inr (12, [.ref 21, .ref 23, .ref 25, .ref 27, .ref 35, .ref 39, .ref 40, .ref 41, .ref 63, .ref g, .ref g', .int lot]))  : ev_Cal G mX12_back 3 0 0 [.ref 20, .int 0] n M (ev_is (some (.int (nI sz))) (ev_set (ev_ml (cp_stk M (g + 4) s (c0)) [(27, .inr (8, [.ref (27 + 1), .ref (27 + 2), .ref (27 + 3), .ref (27 + 4), .ref (27 + 5), .ref (27 + 6), .ref (27 + 7), .long up2, .long dn2, .int (nI sz)])), (27 + 1, .inl (0, 60, .inl (fl_mix sz f0 g0))), (27 + 2, .inl (0, 60, .inl (fl_mix sz f1 g1))), (27 + 3, .inl (0, 60, .inl (fl_mix sz f2 g2))), (27 + 4, .inl (0, 60, .inl (fl_mix sz f3 g3))), (27 + 5, .inl (0, 60, .inl (fl_mix sz f4 g4)))]) 20 (.inr (12, [.ref 21, .ref 23, .ref 25, .ref 27, .ref 35, .ref 39, .ref 40, .ref 41, .ref 63, .ref g, .ref g', .int lt])))) := by
  refine ev_Cal_of (L := [some (.ref 20), some (.int 0), none]) (by decide +kernel) (Nat.le_of_ble_eq_true rfl) rfl ?_
  refine ev_aload_n (i := 0) dX12_back_0 rfl rfl ?_
  refine ev_iload_n (i := 1) dX12_back_1 rfl rfl ?_
  refine ev_c2 kX12_back_2 (c12_imageAt_41 h20) (ev_rv_of (by first | assumption | exact ((cp_out_27_43 (by decide)).trans ((cp_stk_out (by omega)).trans h20)) | exact ((cp_out_27_43 (by decide)).trans ((cp_stk_out (by omega)).trans hI)) | exact ev_set_eq | exact (ev_set_ne (by decide)).trans rfl) rfl rfl) (by decide) (by decide) (Nat.le_of_ble_eq_true rfl) ?_
  refine ev_astore_n (i := 2) dX12_back_5 rfl (Nat.le_of_ble_eq_true rfl) rfl ?_
  refine ev_aload_n (i := 2) dX12_back_6 rfl rfl ?_
  refine ev_ifnonnull (tgt := 12) dX12_back_7 (by decide) ?_
  refine ev_aload_n (i := 2) dX12_back_12 rfl rfl ?_
  refine ev_getf dX12_back_13 flX12_106 (by first | assumption | exact ((cp_out_27_43 (by decide)).trans ((cp_stk_out (by omega)).trans h20)) | exact ((cp_out_27_43 (by decide)).trans ((cp_stk_out (by omega)).trans hI)) | exact ev_set_eq | exact (ev_set_ne (by decide)).trans rfl) (by rfl) ?_
  refine ev_if_neb (tgt := 22) dX12_back_16 (by decide) (fun h16 => ?_) (fun h16 => False.elim (Bool.false_ne_true h16.symm))
  refine ev_aload_n (i := 2) dX12_back_22 rfl rfl ?_
  refine ev_aload_n (i := 0) dX12_back_23 rfl rfl ?_
  refine ev_getf dX12_back_24 flX12_75 (by first | assumption | exact ((cp_out_27_43 (by decide)).trans ((cp_stk_out (by omega)).trans h20)) | exact ((cp_out_27_43 (by decide)).trans ((cp_stk_out (by omega)).trans hI)) | exact ev_set_eq | exact (ev_set_ne (by decide)).trans rfl) (by rfl) ?_
  refine ev_aload_n (i := 0) dX12_back_27 rfl rfl ?_
  refine ev_getf dX12_back_28 flX12_35 (by first | assumption | exact ((cp_out_27_43 (by decide)).trans ((cp_stk_out (by omega)).trans h20)) | exact ((cp_out_27_43 (by decide)).trans ((cp_stk_out (by omega)).trans hI)) | exact ev_set_eq | exact (ev_set_ne (by decide)).trans rfl) (by rfl) ?_
  refine ev_w3 kX12_back_31 (c4_give_41 hG hA hfa hc hg hI hJ hfi hS hD hz z0 z1 z2 z3 z4 z5 z6 hy y0 y1 y2 y3 y4 hsz) (ev_rv_of (by first | assumption | exact ((cp_out_27_43 (by decide)).trans ((cp_stk_out (by omega)).trans h20)) | exact ((cp_out_27_43 (by decide)).trans ((cp_stk_out (by omega)).trans hI)) | exact ev_set_eq | exact (ev_set_ne (by decide)).trans rfl) rfl rfl) (by decide) (by decide) (Nat.le_of_ble_eq_true rfl) ?_
  refine ev_aload_n (i := 0) dX12_back_34 rfl rfl ?_
  refine ev_aload_n (i := 2) dX12_back_35 rfl rfl ?_
  refine ev_getf dX12_back_36 flX12_280 (by first | assumption | exact ((cp_out_27_43 (by decide)).trans ((cp_stk_out (by omega)).trans h20)) | exact ((cp_out_27_43 (by decide)).trans ((cp_stk_out (by omega)).trans hI)) | exact ev_set_eq | exact (ev_set_ne (by decide)).trans rfl) (by rfl) ?_
  refine ev_puti dX12_back_39 fpX12_82 (by first | assumption | exact ((cp_out_27_43 (by decide)).trans ((cp_stk_out (by omega)).trans h20)) | exact ((cp_out_27_43 (by decide)).trans ((cp_stk_out (by omega)).trans hI)) | exact ev_set_eq | exact (ev_set_ne (by decide)).trans rfl) (by exact Nat.le_of_ble_eq_true rfl) ?_
  refine ev_aload_n (i := 0) dX12_back_42 rfl rfl ?_
  refine ev_getf dX12_back_43 flX12_35 (by first | assumption | exact ((cp_out_27_43 (by decide)).trans ((cp_stk_out (by omega)).trans h20)) | exact ((cp_out_27_43 (by decide)).trans ((cp_stk_out (by omega)).trans hI)) | exact ev_set_eq | exact (ev_set_ne (by decide)).trans rfl) (by rfl) ?_
  refine ev_getf dX12_back_46 flX12_245 (by first | assumption | exact ((cp_out_27_43 (by decide)).trans ((cp_stk_out (by omega)).trans h20)) | exact ((cp_out_27_43 (by decide)).trans ((cp_stk_out (by omega)).trans hI)) | exact ev_set_eq | exact (ev_set_ne (by decide)).trans rfl) (by rfl) ?_
  exact ev_reti dX12_back_49 rfl rfl (⟨rfl, rfl⟩)
theorem c12_back_41_no {G : ev_G} {n : Nat} {M : ev_M} {g g' : Nat} {lot : Int32} (h20 : M 20 = .inr (12, [.ref 21, .ref 23, .ref 25, .ref 27, .ref 35, .ref 39, .ref 40, .ref 41, .ref 63, .ref g, .ref g', .int lot])) {lt : Int32} (hI : M 41 = .inr (4, [.ref (41 + 1), .ref (41 + 2), .int (lt), .int (ev_b false)]))  : ev_Cal G mX12_back 3 0 0 [.ref 20, .int 0] n M (ev_is (some (.int (-2))) M) := by
  refine ev_Cal_of (L := [some (.ref 20), some (.int 0), none]) (by decide +kernel) (Nat.le_of_ble_eq_true rfl) rfl ?_
  refine ev_aload_n (i := 0) dX12_back_0 rfl rfl ?_
  refine ev_iload_n (i := 1) dX12_back_1 rfl rfl ?_
  refine ev_c2 kX12_back_2 (c12_imageAt_41 h20) (ev_rv_of (by first | assumption | rfl) rfl rfl) (by decide) (by decide) (Nat.le_of_ble_eq_true rfl) ?_
  refine ev_astore_n (i := 2) dX12_back_5 rfl (Nat.le_of_ble_eq_true rfl) rfl ?_
  refine ev_aload_n (i := 2) dX12_back_6 rfl rfl ?_
  refine ev_ifnonnull (tgt := 12) dX12_back_7 (by decide) ?_
  refine ev_aload_n (i := 2) dX12_back_12 rfl rfl ?_
  refine ev_getf dX12_back_13 flX12_106 (by first | assumption | rfl) (by rfl) ?_
  refine ev_if_neb (tgt := 22) dX12_back_16 (by decide) (fun h16 => False.elim (Bool.false_ne_true h16)) (fun h16 => ?_)
  refine ev_bipush (v := (-2)) dX12_back_19 cnb_m2 ?_
  exact ev_reti dX12_back_21 rfl rfl (⟨by first | rfl | simp [*], rfl⟩)
theorem l4_take_63 {G : ev_G} {n : Nat} {M : ev_M} {g c0 c1 c2 : Nat} (hG : M g = .inr (3, [.ref (g + 1), .ref (g + 2), .ref (g + 3), .int (nI c0), .int (nI c1), .int (nI c2)])) {fa : Nat → Option Nat} (hA : M (g + 1) = .inl (2, 12, ev_q fa)) (hfa : ∀ i, i < 12 → fa i = some (g + 4 + i)) (hc : c0 ≤ 12) (hg : 84 < g) {lt : Int32} {kp : Bool} {fi : Nat → Option Nat} (hI : M 63 = .inr (4, [.ref (63 + 1), .ref (63 + 2), .int (lt), .int (ev_b kp)])) (hJ : M (63 + 1) = .inl (2, 12, ev_q fi)) (hfi : ∀ i, i < 12 → fi i = some (63 + 10 + i)) {s : Nat → Int32} (hS : ∀ i, i < c0 → cl_stk M (g + 4 + i) (fun k => s (7 * i + k))) {v : Nat → Int32} (hD : ∀ i, i < 12 → cl_stk M (63 + 10 + i) (fun k => v (7 * i + k))) {up dn : Int64} {f0 f1 f2 f3 f4 f5 f6 : Nat → Int32} {sz : Nat} (hz : M (27) = .inr (8, [.ref (27 + 1), .ref (27 + 2), .ref (27 + 3), .ref (27 + 4), .ref (27 + 5), .ref (27 + 6), .ref (27 + 7), .long up, .long dn, .int (nI sz)])) (z0 : M (27 + 1) = .inl (0, 60, .inl f0)) (z1 : M (27 + 2) = .inl (0, 60, .inl f1)) (z2 : M (27 + 3) = .inl (0, 60, .inl f2)) (z3 : M (27 + 4) = .inl (0, 60, .inl f3)) (z4 : M (27 + 5) = .inl (0, 60, .inl f4)) (z5 : M (27 + 6) = .inl (0, 12, .inl f5)) (z6 : M (27 + 7) = .inl (0, 12, .inl f6)) {up2 dn2 : Int64} {x : Int32} {g0 g1 g2 g3 g4 : Nat → Int32} (hy : M 65 = .inr (8, [.ref (65 + 1), .ref (65 + 2), .ref (65 + 3), .ref (65 + 4), .ref (65 + 5), .ref (65 + 6), .ref (65 + 7), .long up2, .long dn2, .int (x)])) (y0 : M (65 + 1) = .inl (0, 60, .inl g0)) (y1 : M (65 + 2) = .inl (0, 60, .inl g1)) (y2 : M (65 + 3) = .inl (0, 60, .inl g2)) (y3 : M (65 + 4) = .inl (0, 60, .inl g3)) (y4 : M (65 + 5) = .inl (0, 60, .inl g4)) (hsz : sz ≤ 60) {lot : Int32} : ∀ (m k : Nat), k + m = c0 → ev_E G mX4_take 2 0 0 n (cp_stk M (63 + 10) s (k)) 3 [some (.ref 63), some (.ref g), some (.ref 27), some (.int lot), some (.int (nI k))] [] (ev_is none (ev_set (ev_ml (cp_stk M (63 + 10) s (c0)) [(65, .inr (8, [.ref (65 + 1), .ref (65 + 2), .ref (65 + 3), .ref (65 + 4), .ref (65 + 5), .ref (65 + 6), .ref (65 + 7), .long up2, .long dn2, .int (nI sz)])), (65 + 1, .inl (0, 60, .inl (fl_mix sz f0 g0))), (65 + 2, .inl (0, 60, .inl (fl_mix sz f1 g1))), (65 + 3, .inl (0, 60, .inl (fl_mix sz f2 g2))), (65 + 4, .inl (0, 60, .inl (fl_mix sz f3 g3))), (65 + 5, .inl (0, 60, .inl (fl_mix sz f4 g4)))]) 63 (.inr (4, [.ref (63 + 1), .ref (63 + 2), .int (lot), .int (ev_b true)])))) := by
  intro m
  induction m with
  | zero =>
    intro k hk
    refine ev_iload dX4_take_3 rfl ?_
    refine ev_aload_n (i := 1) dX4_take_5 rfl rfl ?_
    refine ev_getf dX4_take_6 flX4_25 (by first | assumption | exact (cp_stk_out (by omega)).trans hI | exact (cp_stk_out (by omega)).trans hJ | exact (cp_stk_out (by omega)).trans hG | exact (cp_stk_out (by omega)).trans hA | exact ev_set_eq | exact (cp_out_65_27 (by decide)).trans ((cp_stk_out (by omega)).trans hI)) (by rfl) ?_
    refine ev_icmp_ge (tgt := 45) dX4_take_9 (by decide) (fun h9 => ?_) (fun h9 => False.elim (nI_nlt (a := k) (b := c0) (by omega) (by omega) h9))
    obtain rfl : k = c0 := by omega
    refine ev_aload_n (i := 0) dX4_take_45 rfl rfl ?_
    refine ev_getf dX4_take_46 flX4_20 (by first | assumption | exact (cp_stk_out (by omega)).trans hI | exact (cp_stk_out (by omega)).trans hJ | exact (cp_stk_out (by omega)).trans hG | exact (cp_stk_out (by omega)).trans hA | exact ev_set_eq | exact (cp_out_65_27 (by decide)).trans ((cp_stk_out (by omega)).trans hI)) (by rfl) ?_
    refine ev_aload_n (i := 2) dX4_take_49 rfl rfl ?_
    refine ev_w2 kX4_take_50 (c8_copy_65_27 ((cp_stk_out (by omega)).trans hz) ((cp_stk_out (by omega)).trans z0) ((cp_stk_out (by omega)).trans z1) ((cp_stk_out (by omega)).trans z2) ((cp_stk_out (by omega)).trans z3) ((cp_stk_out (by omega)).trans z4) ((cp_stk_out (by omega)).trans z5) ((cp_stk_out (by omega)).trans z6) ((cp_stk_out (by omega)).trans hy) ((cp_stk_out (by omega)).trans y0) ((cp_stk_out (by omega)).trans y1) ((cp_stk_out (by omega)).trans y2) ((cp_stk_out (by omega)).trans y3) ((cp_stk_out (by omega)).trans y4) hsz) (ev_rv_of (by first | assumption | exact (cp_stk_out (by omega)).trans hI | exact (cp_stk_out (by omega)).trans hJ | exact (cp_stk_out (by omega)).trans hG | exact (cp_stk_out (by omega)).trans hA | exact ev_set_eq | exact (cp_out_65_27 (by decide)).trans ((cp_stk_out (by omega)).trans hI)) rfl rfl) (by decide) (by decide) (Nat.le_of_ble_eq_true rfl) ?_
    refine ev_aload_n (i := 0) dX4_take_53 rfl rfl ?_
    refine ev_iload_n (i := 3) dX4_take_54 rfl rfl ?_
    refine ev_puti dX4_take_55 fpX4_39 (by first | assumption | exact (cp_stk_out (by omega)).trans hI | exact (cp_stk_out (by omega)).trans hJ | exact (cp_stk_out (by omega)).trans hG | exact (cp_stk_out (by omega)).trans hA | exact ev_set_eq | exact (cp_out_65_27 (by decide)).trans ((cp_stk_out (by omega)).trans hI)) (by exact Nat.le_of_ble_eq_true rfl) ?_
    refine ev_aload_n (i := 0) dX4_take_58 rfl rfl ?_
    refine ev_iconst (v := 1) dX4_take_59 cni_1 ?_
    refine ev_topi (show (1 : Int32) = ev_b true from rfl) ?_
    refine ev_putz dX4_take_60 fpX4_42 (by first | assumption | exact (cp_stk_out (by omega)).trans hI | exact (cp_stk_out (by omega)).trans hJ | exact (cp_stk_out (by omega)).trans hG | exact (cp_stk_out (by omega)).trans hA | exact ev_set_eq | exact (cp_out_65_27 (by decide)).trans ((cp_stk_out (by omega)).trans hI)) (by exact Nat.le_of_ble_eq_true rfl) ?_
    refine ev_mem ev_set_set ?_
    exact ev_retv dX4_take_63 rfl (⟨rfl, rfl⟩)
  | succ m ih =>
    intro k hk
    have hSk : M (g + 4 + k) = .inr (9, [.int (s (7 * (k) + 0)), .int (s (7 * (k) + 1)), .int (s (7 * (k) + 2)), .int (s (7 * (k) + 3)), .int (s (7 * (k) + 4)), .int (s (7 * (k) + 5)), .int (s (7 * (k) + 6))]) := hS k (by omega)
    have hDk : M (63 + 10 + k) = .inr (9, [.int (v (7 * (k) + 0)), .int (v (7 * (k) + 1)), .int (v (7 * (k) + 2)), .int (v (7 * (k) + 3)), .int (v (7 * (k) + 4)), .int (v (7 * (k) + 5)), .int (v (7 * (k) + 6))]) := hD k (by omega)
    refine ev_iload dX4_take_3 rfl ?_
    refine ev_aload_n (i := 1) dX4_take_5 rfl rfl ?_
    refine ev_getf dX4_take_6 flX4_25 (by first | assumption | exact (cp_stk_out (by omega)).trans hI | exact (cp_stk_out (by omega)).trans hJ | exact (cp_stk_out (by omega)).trans hG | exact (cp_stk_out (by omega)).trans hA) (by rfl) ?_
    refine ev_icmp_ge (tgt := 45) dX4_take_9 (by decide) (fun h9 => False.elim (nI_ge (a := k) (b := c0) (by omega) (by omega) h9)) (fun h9 => ?_)
    refine ev_iload dX4_take_12 rfl ?_
    refine ev_aload_n (i := 0) dX4_take_14 rfl rfl ?_
    refine ev_getf dX4_take_15 flX4_11 (by first | assumption | exact (cp_stk_out (by omega)).trans hI | exact (cp_stk_out (by omega)).trans hJ | exact (cp_stk_out (by omega)).trans hG | exact (cp_stk_out (by omega)).trans hA) (by rfl) ?_
    refine ev_alen (v := 12) dX4_take_18 (fun _ => rfl) (by first | assumption | exact (cp_stk_out (by omega)).trans hI | exact (cp_stk_out (by omega)).trans hJ | exact (cp_stk_out (by omega)).trans hG | exact (cp_stk_out (by omega)).trans hA) (by rfl) ?_
    refine ev_icmp_ge (tgt := 45) dX4_take_19 (by decide) (fun h19 => False.elim (nI_ge (a := k) (b := 12) (by omega) (by decide) h19)) (fun h19 => ?_)
    refine ev_aload_n (i := 0) dX4_take_22 rfl rfl ?_
    refine ev_getf dX4_take_23 flX4_11 (by first | assumption | exact (cp_stk_out (by omega)).trans hI | exact (cp_stk_out (by omega)).trans hJ | exact (cp_stk_out (by omega)).trans hG | exact (cp_stk_out (by omega)).trans hA) (by rfl) ?_
    refine ev_iload dX4_take_26 rfl ?_
    refine ev_aald (j := k) dX4_take_28 (fun _ => rfl) (by first | assumption | exact (cp_stk_out (by omega)).trans hI | exact (cp_stk_out (by omega)).trans hJ | exact (cp_stk_out (by omega)).trans hG | exact (cp_stk_out (by omega)).trans hA) (ev_ix_nI (by omega)) (by omega) (hfi k (by omega)) ?_
    refine ev_aload_n (i := 1) dX4_take_29 rfl rfl ?_
    refine ev_getf dX4_take_30 flX4_31 (by first | assumption | exact (cp_stk_out (by omega)).trans hI | exact (cp_stk_out (by omega)).trans hJ | exact (cp_stk_out (by omega)).trans hG | exact (cp_stk_out (by omega)).trans hA) (by rfl) ?_
    refine ev_iload dX4_take_33 rfl ?_
    refine ev_aald (j := k) dX4_take_35 (fun _ => rfl) (by first | assumption | exact (cp_stk_out (by omega)).trans hI | exact (cp_stk_out (by omega)).trans hJ | exact (cp_stk_out (by omega)).trans hG | exact (cp_stk_out (by omega)).trans hA) (ev_ix_nI (by omega)) (by omega) (hfa k (by omega)) ?_
    refine ev_w2 kX4_take_36 (c9_copy ((cp_stk_out (by omega)).trans hDk) ((cp_stk_out (by omega)).trans hSk) (by omega)) (ev_rv_of (by exact ((cp_stk_out (by omega)).trans hDk)) rfl rfl) (by decide) (by decide) (Nat.le_of_ble_eq_true rfl) ?_
    refine ev_mem (cp_stk_S (M := M) (base := 63 + 10) (k := k) (s := s)) ?_
    refine ev_iinc (v := nI (k + 1)) dX4_take_39 rfl (nI_1 k) (Nat.le_of_ble_eq_true rfl) rfl ?_
    refine ev_goto (tgt := 3) dX4_take_42 (by decide) ?_
    exact ih (k + 1) (by omega)
theorem c4_take_63 {G : ev_G} {n : Nat} {M : ev_M} {g c0 c1 c2 : Nat} (hG : M g = .inr (3, [.ref (g + 1), .ref (g + 2), .ref (g + 3), .int (nI c0), .int (nI c1), .int (nI c2)])) {fa : Nat → Option Nat} (hA : M (g + 1) = .inl (2, 12, ev_q fa)) (hfa : ∀ i, i < 12 → fa i = some (g + 4 + i)) (hc : c0 ≤ 12) (hg : 84 < g) {lt : Int32} {kp : Bool} {fi : Nat → Option Nat} (hI : M 63 = .inr (4, [.ref (63 + 1), .ref (63 + 2), .int (lt), .int (ev_b kp)])) (hJ : M (63 + 1) = .inl (2, 12, ev_q fi)) (hfi : ∀ i, i < 12 → fi i = some (63 + 10 + i)) {s : Nat → Int32} (hS : ∀ i, i < c0 → cl_stk M (g + 4 + i) (fun k => s (7 * i + k))) {v : Nat → Int32} (hD : ∀ i, i < 12 → cl_stk M (63 + 10 + i) (fun k => v (7 * i + k))) {up dn : Int64} {f0 f1 f2 f3 f4 f5 f6 : Nat → Int32} {sz : Nat} (hz : M (27) = .inr (8, [.ref (27 + 1), .ref (27 + 2), .ref (27 + 3), .ref (27 + 4), .ref (27 + 5), .ref (27 + 6), .ref (27 + 7), .long up, .long dn, .int (nI sz)])) (z0 : M (27 + 1) = .inl (0, 60, .inl f0)) (z1 : M (27 + 2) = .inl (0, 60, .inl f1)) (z2 : M (27 + 3) = .inl (0, 60, .inl f2)) (z3 : M (27 + 4) = .inl (0, 60, .inl f3)) (z4 : M (27 + 5) = .inl (0, 60, .inl f4)) (z5 : M (27 + 6) = .inl (0, 12, .inl f5)) (z6 : M (27 + 7) = .inl (0, 12, .inl f6)) {up2 dn2 : Int64} {x : Int32} {g0 g1 g2 g3 g4 : Nat → Int32} (hy : M 65 = .inr (8, [.ref (65 + 1), .ref (65 + 2), .ref (65 + 3), .ref (65 + 4), .ref (65 + 5), .ref (65 + 6), .ref (65 + 7), .long up2, .long dn2, .int (x)])) (y0 : M (65 + 1) = .inl (0, 60, .inl g0)) (y1 : M (65 + 2) = .inl (0, 60, .inl g1)) (y2 : M (65 + 3) = .inl (0, 60, .inl g2)) (y3 : M (65 + 4) = .inl (0, 60, .inl g3)) (y4 : M (65 + 5) = .inl (0, 60, .inl g4)) (hsz : sz ≤ 60) {lot : Int32}  : ev_Cal G mX4_take 2 0 0 [.ref 63, .ref g, .ref 27, .int lot] n M (ev_is none (ev_set (ev_ml (cp_stk M (63 + 10) s (c0)) [(65, .inr (8, [.ref (65 + 1), .ref (65 + 2), .ref (65 + 3), .ref (65 + 4), .ref (65 + 5), .ref (65 + 6), .ref (65 + 7), .long up2, .long dn2, .int (nI sz)])), (65 + 1, .inl (0, 60, .inl (fl_mix sz f0 g0))), (65 + 2, .inl (0, 60, .inl (fl_mix sz f1 g1))), (65 + 3, .inl (0, 60, .inl (fl_mix sz f2 g2))), (65 + 4, .inl (0, 60, .inl (fl_mix sz f3 g3))), (65 + 5, .inl (0, 60, .inl (fl_mix sz f4 g4)))]) 63 (.inr (4, [.ref (63 + 1), .ref (63 + 2), .int (lot), .int (ev_b true)])))) := by
  refine ev_Cal_of (L := [some (.ref 63), some (.ref g), some (.ref 27), some (.int lot), none]) (by decide +kernel) (Nat.le_of_ble_eq_true rfl) rfl ?_
  refine ev_iconst (v := 0) dX4_take_0 cni_0 ?_
  refine ev_istore dX4_take_1 (Nat.le_of_ble_eq_true rfl) rfl ?_
  refine ev_mem ?_ (l4_take_63 hG hA hfa hc hg hI hJ hfi hS hD hz z0 z1 z2 z3 z4 z5 z6 hy y0 y1 y2 y3 y4 hsz c0 0 (Nat.zero_add _))
  exact cp_stk_0.symm
theorem l4_give_63 {G : ev_G} {n : Nat} {M : ev_M} {g c0 c1 c2 : Nat} (hG : M g = .inr (3, [.ref (g + 1), .ref (g + 2), .ref (g + 3), .int (nI c0), .int (nI c1), .int (nI c2)])) {fa : Nat → Option Nat} (hA : M (g + 1) = .inl (2, 12, ev_q fa)) (hfa : ∀ i, i < 12 → fa i = some (g + 4 + i)) (hc : c0 ≤ 12) (hg : 84 < g) {lt : Int32} {kp : Bool} {fi : Nat → Option Nat} (hI : M 63 = .inr (4, [.ref (63 + 1), .ref (63 + 2), .int (lt), .int (ev_b kp)])) (hJ : M (63 + 1) = .inl (2, 12, ev_q fi)) (hfi : ∀ i, i < 12 → fi i = some (63 + 10 + i)) {s : Nat → Int32} (hS : ∀ i, i < c0 → cl_stk M (63 + 10 + i) (fun k => s (7 * i + k))) {v : Nat → Int32} (hD : ∀ i, i < 12 → cl_stk M (g + 4 + i) (fun k => v (7 * i + k))) {up dn : Int64} {f0 f1 f2 f3 f4 f5 f6 : Nat → Int32} {sz : Nat} (hz : M (65) = .inr (8, [.ref (65 + 1), .ref (65 + 2), .ref (65 + 3), .ref (65 + 4), .ref (65 + 5), .ref (65 + 6), .ref (65 + 7), .long up, .long dn, .int (nI sz)])) (z0 : M (65 + 1) = .inl (0, 60, .inl f0)) (z1 : M (65 + 2) = .inl (0, 60, .inl f1)) (z2 : M (65 + 3) = .inl (0, 60, .inl f2)) (z3 : M (65 + 4) = .inl (0, 60, .inl f3)) (z4 : M (65 + 5) = .inl (0, 60, .inl f4)) (z5 : M (65 + 6) = .inl (0, 12, .inl f5)) (z6 : M (65 + 7) = .inl (0, 12, .inl f6)) {up2 dn2 : Int64} {x : Int32} {g0 g1 g2 g3 g4 : Nat → Int32} (hy : M 27 = .inr (8, [.ref (27 + 1), .ref (27 + 2), .ref (27 + 3), .ref (27 + 4), .ref (27 + 5), .ref (27 + 6), .ref (27 + 7), .long up2, .long dn2, .int (x)])) (y0 : M (27 + 1) = .inl (0, 60, .inl g0)) (y1 : M (27 + 2) = .inl (0, 60, .inl g1)) (y2 : M (27 + 3) = .inl (0, 60, .inl g2)) (y3 : M (27 + 4) = .inl (0, 60, .inl g3)) (y4 : M (27 + 5) = .inl (0, 60, .inl g4)) (hsz : sz ≤ 60) : ∀ (m k : Nat), k + m = c0 → ev_E G mX4_give 2 0 0 n (cp_stk M (g + 4) s (k)) 2 [some (.ref 63), some (.ref g), some (.ref 27), some (.int (nI k))] [] (ev_is none (ev_ml (cp_stk M (g + 4) s (c0)) [(27, .inr (8, [.ref (27 + 1), .ref (27 + 2), .ref (27 + 3), .ref (27 + 4), .ref (27 + 5), .ref (27 + 6), .ref (27 + 7), .long up2, .long dn2, .int (nI sz)])), (27 + 1, .inl (0, 60, .inl (fl_mix sz f0 g0))), (27 + 2, .inl (0, 60, .inl (fl_mix sz f1 g1))), (27 + 3, .inl (0, 60, .inl (fl_mix sz f2 g2))), (27 + 4, .inl (0, 60, .inl (fl_mix sz f3 g3))), (27 + 5, .inl (0, 60, .inl (fl_mix sz f4 g4)))])) := by
  intro m
  induction m with
  | zero =>
    intro k hk
    refine ev_iload_n (i := 3) dX4_give_2 rfl rfl ?_
    refine ev_aload_n (i := 1) dX4_give_3 rfl rfl ?_
    refine ev_getf dX4_give_4 flX4_25 (by first | assumption | exact (cp_stk_out (by omega)).trans hI | exact (cp_stk_out (by omega)).trans hJ | exact (cp_stk_out (by omega)).trans hG | exact (cp_stk_out (by omega)).trans hA) (by rfl) ?_
    refine ev_icmp_ge (tgt := 40) dX4_give_7 (by decide) (fun h7 => ?_) (fun h7 => False.elim (nI_nlt (a := k) (b := c0) (by omega) (by omega) h7))
    obtain rfl : k = c0 := by omega
    refine ev_aload_n (i := 2) dX4_give_40 rfl rfl ?_
    refine ev_aload_n (i := 0) dX4_give_41 rfl rfl ?_
    refine ev_getf dX4_give_42 flX4_20 (by first | assumption | exact (cp_stk_out (by omega)).trans hI | exact (cp_stk_out (by omega)).trans hJ | exact (cp_stk_out (by omega)).trans hG | exact (cp_stk_out (by omega)).trans hA) (by rfl) ?_
    refine ev_w2 kX4_give_45 (c8_copy_27_65 ((cp_stk_out (by omega)).trans hz) ((cp_stk_out (by omega)).trans z0) ((cp_stk_out (by omega)).trans z1) ((cp_stk_out (by omega)).trans z2) ((cp_stk_out (by omega)).trans z3) ((cp_stk_out (by omega)).trans z4) ((cp_stk_out (by omega)).trans z5) ((cp_stk_out (by omega)).trans z6) ((cp_stk_out (by omega)).trans hy) ((cp_stk_out (by omega)).trans y0) ((cp_stk_out (by omega)).trans y1) ((cp_stk_out (by omega)).trans y2) ((cp_stk_out (by omega)).trans y3) ((cp_stk_out (by omega)).trans y4) hsz) (ev_rv_of (by first | assumption | exact (cp_stk_out (by omega)).trans hI | exact (cp_stk_out (by omega)).trans hJ | exact (cp_stk_out (by omega)).trans hG | exact (cp_stk_out (by omega)).trans hA) rfl rfl) (by decide) (by decide) (Nat.le_of_ble_eq_true rfl) ?_
    exact ev_retv dX4_give_48 rfl (⟨rfl, rfl⟩)
  | succ m ih =>
    intro k hk
    have hSk : M (63 + 10 + k) = .inr (9, [.int (s (7 * (k) + 0)), .int (s (7 * (k) + 1)), .int (s (7 * (k) + 2)), .int (s (7 * (k) + 3)), .int (s (7 * (k) + 4)), .int (s (7 * (k) + 5)), .int (s (7 * (k) + 6))]) := hS k (by omega)
    have hDk : M (g + 4 + k) = .inr (9, [.int (v (7 * (k) + 0)), .int (v (7 * (k) + 1)), .int (v (7 * (k) + 2)), .int (v (7 * (k) + 3)), .int (v (7 * (k) + 4)), .int (v (7 * (k) + 5)), .int (v (7 * (k) + 6))]) := hD k (by omega)
    refine ev_iload_n (i := 3) dX4_give_2 rfl rfl ?_
    refine ev_aload_n (i := 1) dX4_give_3 rfl rfl ?_
    refine ev_getf dX4_give_4 flX4_25 (by first | assumption | exact (cp_stk_out (by omega)).trans hI | exact (cp_stk_out (by omega)).trans hJ | exact (cp_stk_out (by omega)).trans hG | exact (cp_stk_out (by omega)).trans hA) (by rfl) ?_
    refine ev_icmp_ge (tgt := 40) dX4_give_7 (by decide) (fun h7 => False.elim (nI_ge (a := k) (b := c0) (by omega) (by omega) h7)) (fun h7 => ?_)
    refine ev_iload_n (i := 3) dX4_give_10 rfl rfl ?_
    refine ev_aload_n (i := 0) dX4_give_11 rfl rfl ?_
    refine ev_getf dX4_give_12 flX4_11 (by first | assumption | exact (cp_stk_out (by omega)).trans hI | exact (cp_stk_out (by omega)).trans hJ | exact (cp_stk_out (by omega)).trans hG | exact (cp_stk_out (by omega)).trans hA) (by rfl) ?_
    refine ev_alen (v := 12) dX4_give_15 (fun _ => rfl) (by first | assumption | exact (cp_stk_out (by omega)).trans hI | exact (cp_stk_out (by omega)).trans hJ | exact (cp_stk_out (by omega)).trans hG | exact (cp_stk_out (by omega)).trans hA) (by rfl) ?_
    refine ev_icmp_ge (tgt := 40) dX4_give_16 (by decide) (fun h16 => False.elim (nI_ge (a := k) (b := 12) (by omega) (by decide) h16)) (fun h16 => ?_)
    refine ev_aload_n (i := 1) dX4_give_19 rfl rfl ?_
    refine ev_getf dX4_give_20 flX4_31 (by first | assumption | exact (cp_stk_out (by omega)).trans hI | exact (cp_stk_out (by omega)).trans hJ | exact (cp_stk_out (by omega)).trans hG | exact (cp_stk_out (by omega)).trans hA) (by rfl) ?_
    refine ev_iload_n (i := 3) dX4_give_23 rfl rfl ?_
    refine ev_aald (j := k) dX4_give_24 (fun _ => rfl) (by first | assumption | exact (cp_stk_out (by omega)).trans hI | exact (cp_stk_out (by omega)).trans hJ | exact (cp_stk_out (by omega)).trans hG | exact (cp_stk_out (by omega)).trans hA) (ev_ix_nI (by omega)) (by omega) (hfa k (by omega)) ?_
    refine ev_aload_n (i := 0) dX4_give_25 rfl rfl ?_
    refine ev_getf dX4_give_26 flX4_11 (by first | assumption | exact (cp_stk_out (by omega)).trans hI | exact (cp_stk_out (by omega)).trans hJ | exact (cp_stk_out (by omega)).trans hG | exact (cp_stk_out (by omega)).trans hA) (by rfl) ?_
    refine ev_iload_n (i := 3) dX4_give_29 rfl rfl ?_
    refine ev_aald (j := k) dX4_give_30 (fun _ => rfl) (by first | assumption | exact (cp_stk_out (by omega)).trans hI | exact (cp_stk_out (by omega)).trans hJ | exact (cp_stk_out (by omega)).trans hG | exact (cp_stk_out (by omega)).trans hA) (ev_ix_nI (by omega)) (by omega) (hfi k (by omega)) ?_
    refine ev_w2 kX4_give_31 (c9_copy ((cp_stk_out (by omega)).trans hDk) ((cp_stk_out (by omega)).trans hSk) (by omega)) (ev_rv_of (by exact ((cp_stk_out (by omega)).trans hDk)) rfl rfl) (by decide) (by decide) (Nat.le_of_ble_eq_true rfl) ?_
    refine ev_mem (cp_stk_S (M := M) (base := g + 4) (k := k) (s := s)) ?_
    refine ev_iinc (v := nI (k + 1)) dX4_give_34 rfl (nI_1 k) (Nat.le_of_ble_eq_true rfl) rfl ?_
    refine ev_goto (tgt := 2) dX4_give_37 (by decide) ?_
    exact ih (k + 1) (by omega)
theorem c4_give_63 {G : ev_G} {n : Nat} {M : ev_M} {g c0 c1 c2 : Nat} (hG : M g = .inr (3, [.ref (g + 1), .ref (g + 2), .ref (g + 3), .int (nI c0), .int (nI c1), .int (nI c2)])) {fa : Nat → Option Nat} (hA : M (g + 1) = .inl (2, 12, ev_q fa)) (hfa : ∀ i, i < 12 → fa i = some (g + 4 + i)) (hc : c0 ≤ 12) (hg : 84 < g) {lt : Int32} {kp : Bool} {fi : Nat → Option Nat} (hI : M 63 = .inr (4, [.ref (63 + 1), .ref (63 + 2), .int (lt), .int (ev_b kp)])) (hJ : M (63 + 1) = .inl (2, 12, ev_q fi)) (hfi : ∀ i, i < 12 → fi i = some (63 + 10 + i)) {s : Nat → Int32} (hS : ∀ i, i < c0 → cl_stk M (63 + 10 + i) (fun k => s (7 * i + k))) {v : Nat → Int32} (hD : ∀ i, i < 12 → cl_stk M (g + 4 + i) (fun k => v (7 * i + k))) {up dn : Int64} {f0 f1 f2 f3 f4 f5 f6 : Nat → Int32} {sz : Nat} (hz : M (65) = .inr (8, [.ref (65 + 1), .ref (65 + 2), .ref (65 + 3), .ref (65 + 4), .ref (65 + 5), .ref (65 + 6), .ref (65 + 7), .long up, .long dn, .int (nI sz)])) (z0 : M (65 + 1) = .inl (0, 60, .inl f0)) (z1 : M (65 + 2) = .inl (0, 60, .inl f1)) (z2 : M (65 + 3) = .inl (0, 60, .inl f2)) (z3 : M (65 + 4) = .inl (0, 60, .inl f3)) (z4 : M (65 + 5) = .inl (0, 60, .inl f4)) (z5 : M (65 + 6) = .inl (0, 12, .inl f5)) (z6 : M (65 + 7) = .inl (0, 12, .inl f6)) {up2 dn2 : Int64} {x : Int32} {g0 g1 g2 g3 g4 : Nat → Int32} (hy : M 27 = .inr (8, [.ref (27 + 1), .ref (27 + 2), .ref (27 + 3), .ref (27 + 4), .ref (27 + 5), .ref (27 + 6), .ref (27 + 7), .long up2, .long dn2, .int (x)])) (y0 : M (27 + 1) = .inl (0, 60, .inl g0)) (y1 : M (27 + 2) = .inl (0, 60, .inl g1)) (y2 : M (27 + 3) = .inl (0, 60, .inl g2)) (y3 : M (27 + 4) = .inl (0, 60, .inl g3)) (y4 : M (27 + 5) = .inl (0, 60, .inl g4)) (hsz : sz ≤ 60)  : ev_Cal G mX4_give 2 0 0 [.ref 63, .ref g, .ref 27] n M (ev_is none (ev_ml (cp_stk M (g + 4) s (c0)) [(27, .inr (8, [.ref (27 + 1), .ref (27 + 2), .ref (27 + 3), .ref (27 + 4), .ref (27 + 5), .ref (27 + 6), .ref (27 + 7), .long up2, .long dn2, .int (nI sz)])), (27 + 1, .inl (0, 60, .inl (fl_mix sz f0 g0))), (27 + 2, .inl (0, 60, .inl (fl_mix sz f1 g1))), (27 + 3, .inl (0, 60, .inl (fl_mix sz f2 g2))), (27 + 4, .inl (0, 60, .inl (fl_mix sz f3 g3))), (27 + 5, .inl (0, 60, .inl (fl_mix sz f4 g4)))])) := by
  refine ev_Cal_of (L := [some (.ref 63), some (.ref g), some (.ref 27), none]) (by decide +kernel) (Nat.le_of_ble_eq_true rfl) rfl ?_
  refine ev_iconst (v := 0) dX4_give_0 cni_0 ?_
  refine ev_istore_n (i := 3) dX4_give_1 rfl (Nat.le_of_ble_eq_true rfl) rfl ?_
  refine ev_mem ?_ (l4_give_63 hG hA hfa hc hg hI hJ hfi hS hD hz z0 z1 z2 z3 z4 z5 z6 hy y0 y1 y2 y3 y4 hsz c0 0 (Nat.zero_add _))
  exact cp_stk_0.symm
theorem c12_imageAt_63 {G : ev_G} {n : Nat} {M : ev_M} {g g' : Nat} {lot : Int32} (h20 : M 20 = .inr (12, [.ref 21, .ref 23, .ref 25, .ref 27, .ref 35, .ref 39, .ref 40, .ref 41, .ref 63, .ref g, .ref g', .int lot]))  : ev_Cal G mX12_imageAt 1 0 0 [.ref 20, .int 1] n M (ev_is (some (.ref 63)) M) := by
  refine ev_Cal_of (L := [some (.ref 20), some (.int 1)]) (by decide +kernel) (Nat.le_of_ble_eq_true rfl) rfl ?_
  refine ev_iload_n (i := 1) dX12_imageAt_0 rfl rfl ?_
  refine ev_if_ne (tgt := 9) dX12_imageAt_1 (by decide) (fun h1 => ?_) (fun h1 => False.elim (absurd h1 (by decide)))
  refine ev_iload_n (i := 1) dX12_imageAt_9 rfl rfl ?_
  refine ev_iconst (v := 1) dX12_imageAt_10 cni_1 ?_
  refine ev_icmp_ne (tgt := 21) dX12_imageAt_11 (by decide) (fun h11 => False.elim (absurd rfl h11)) (fun h11 => ?_)
  refine ev_aload_n (i := 0) dX12_imageAt_14 rfl rfl ?_
  refine ev_getf dX12_imageAt_15 flX12_69 (by first | assumption | rfl) (by rfl) ?_
  refine ev_goto (tgt := 22) dX12_imageAt_18 (by decide) ?_
  exact ev_reta dX12_imageAt_22 rfl (⟨rfl, rfl⟩)
theorem c12_keep_63 {G : ev_G} {n : Nat} {M : ev_M} {g c0 c1 c2 : Nat} (hG : M g = .inr (3, [.ref (g + 1), .ref (g + 2), .ref (g + 3), .int (nI c0), .int (nI c1), .int (nI c2)])) {fa : Nat → Option Nat} (hA : M (g + 1) = .inl (2, 12, ev_q fa)) (hfa : ∀ i, i < 12 → fa i = some (g + 4 + i)) (hc : c0 ≤ 12) (hg : 84 < g) {lt : Int32} {kp : Bool} {fi : Nat → Option Nat} (hI : M 63 = .inr (4, [.ref (63 + 1), .ref (63 + 2), .int (lt), .int (ev_b kp)])) (hJ : M (63 + 1) = .inl (2, 12, ev_q fi)) (hfi : ∀ i, i < 12 → fi i = some (63 + 10 + i)) {s : Nat → Int32} (hS : ∀ i, i < c0 → cl_stk M (g + 4 + i) (fun k => s (7 * i + k))) {v : Nat → Int32} (hD : ∀ i, i < 12 → cl_stk M (63 + 10 + i) (fun k => v (7 * i + k))) {up dn : Int64} {f0 f1 f2 f3 f4 f5 f6 : Nat → Int32} {sz : Nat} (hz : M (27) = .inr (8, [.ref (27 + 1), .ref (27 + 2), .ref (27 + 3), .ref (27 + 4), .ref (27 + 5), .ref (27 + 6), .ref (27 + 7), .long up, .long dn, .int (nI sz)])) (z0 : M (27 + 1) = .inl (0, 60, .inl f0)) (z1 : M (27 + 2) = .inl (0, 60, .inl f1)) (z2 : M (27 + 3) = .inl (0, 60, .inl f2)) (z3 : M (27 + 4) = .inl (0, 60, .inl f3)) (z4 : M (27 + 5) = .inl (0, 60, .inl f4)) (z5 : M (27 + 6) = .inl (0, 12, .inl f5)) (z6 : M (27 + 7) = .inl (0, 12, .inl f6)) {up2 dn2 : Int64} {x : Int32} {g0 g1 g2 g3 g4 : Nat → Int32} (hy : M 65 = .inr (8, [.ref (65 + 1), .ref (65 + 2), .ref (65 + 3), .ref (65 + 4), .ref (65 + 5), .ref (65 + 6), .ref (65 + 7), .long up2, .long dn2, .int (x)])) (y0 : M (65 + 1) = .inl (0, 60, .inl g0)) (y1 : M (65 + 2) = .inl (0, 60, .inl g1)) (y2 : M (65 + 3) = .inl (0, 60, .inl g2)) (y3 : M (65 + 4) = .inl (0, 60, .inl g3)) (y4 : M (65 + 5) = .inl (0, 60, .inl g4)) (hsz : sz ≤ 60) {lot : Int32} {g' : Nat} (h20 : M 20 = .inr (12, [.ref 21, .ref 23, .ref 25, .ref 27, .ref 35, .ref 39, .ref 40, .ref 41, .ref 63, .ref g, .ref g', .int lot]))  : ev_Cal G mX12_keep 3 0 0 [.ref 20, .int 1] n M (ev_is (some (.int (nI sz))) (ev_set (ev_ml (cp_stk M (63 + 10) s (c0)) [(65, .inr (8, [.ref (65 + 1), .ref (65 + 2), .ref (65 + 3), .ref (65 + 4), .ref (65 + 5), .ref (65 + 6), .ref (65 + 7), .long up2, .long dn2, .int (nI sz)])), (65 + 1, .inl (0, 60, .inl (fl_mix sz f0 g0))), (65 + 2, .inl (0, 60, .inl (fl_mix sz f1 g1))), (65 + 3, .inl (0, 60, .inl (fl_mix sz f2 g2))), (65 + 4, .inl (0, 60, .inl (fl_mix sz f3 g3))), (65 + 5, .inl (0, 60, .inl (fl_mix sz f4 g4)))]) 63 (.inr (4, [.ref (63 + 1), .ref (63 + 2), .int (lot), .int (ev_b true)])))) := by
  refine ev_Cal_of (L := [some (.ref 20), some (.int 1), none]) (by decide +kernel) (Nat.le_of_ble_eq_true rfl) rfl ?_
  refine ev_aload_n (i := 0) dX12_keep_0 rfl rfl ?_
  refine ev_iload_n (i := 1) dX12_keep_1 rfl rfl ?_
  refine ev_c2 kX12_keep_2 (c12_imageAt_63 h20) (ev_rv_of (by first | assumption | exact ((ev_set_ne (by decide)).trans ((cp_out_65_27 (by decide)).trans ((cp_stk_out (by omega)).trans h20))) | (refine (ev_set_ne (by decide)).trans ?_; exact (cp_out_65_27 (by decide)).trans ((cp_stk_out (by omega)).trans hz))) rfl rfl) (by decide) (by decide) (Nat.le_of_ble_eq_true rfl) ?_
  refine ev_astore_n (i := 2) dX12_keep_5 rfl (Nat.le_of_ble_eq_true rfl) rfl ?_
  refine ev_aload_n (i := 2) dX12_keep_6 rfl rfl ?_
  refine ev_ifnonnull (tgt := 12) dX12_keep_7 (by decide) ?_
  refine ev_aload_n (i := 2) dX12_keep_12 rfl rfl ?_
  refine ev_aload_n (i := 0) dX12_keep_13 rfl rfl ?_
  refine ev_getf dX12_keep_14 flX12_75 (by first | assumption | exact ((ev_set_ne (by decide)).trans ((cp_out_65_27 (by decide)).trans ((cp_stk_out (by omega)).trans h20))) | (refine (ev_set_ne (by decide)).trans ?_; exact (cp_out_65_27 (by decide)).trans ((cp_stk_out (by omega)).trans hz))) (by rfl) ?_
  refine ev_aload_n (i := 0) dX12_keep_17 rfl rfl ?_
  refine ev_getf dX12_keep_18 flX12_35 (by first | assumption | exact ((ev_set_ne (by decide)).trans ((cp_out_65_27 (by decide)).trans ((cp_stk_out (by omega)).trans h20))) | (refine (ev_set_ne (by decide)).trans ?_; exact (cp_out_65_27 (by decide)).trans ((cp_stk_out (by omega)).trans hz))) (by rfl) ?_
  refine ev_aload_n (i := 0) dX12_keep_21 rfl rfl ?_
  refine ev_getf dX12_keep_22 flX12_82 (by first | assumption | exact ((ev_set_ne (by decide)).trans ((cp_out_65_27 (by decide)).trans ((cp_stk_out (by omega)).trans h20))) | (refine (ev_set_ne (by decide)).trans ?_; exact (cp_out_65_27 (by decide)).trans ((cp_stk_out (by omega)).trans hz))) (by rfl) ?_
  refine ev_w4 kX12_keep_25 (c4_take_63 hG hA hfa hc hg hI hJ hfi hS hD hz z0 z1 z2 z3 z4 z5 z6 hy y0 y1 y2 y3 y4 hsz) (ev_rv_of (by first | assumption | exact ((ev_set_ne (by decide)).trans ((cp_out_65_27 (by decide)).trans ((cp_stk_out (by omega)).trans h20))) | (refine (ev_set_ne (by decide)).trans ?_; exact (cp_out_65_27 (by decide)).trans ((cp_stk_out (by omega)).trans hz))) rfl rfl) (by decide) (by decide) (Nat.le_of_ble_eq_true rfl) ?_
  refine ev_aload_n (i := 0) dX12_keep_28 rfl rfl ?_
  refine ev_getf dX12_keep_29 flX12_35 (by first | assumption | exact ((ev_set_ne (by decide)).trans ((cp_out_65_27 (by decide)).trans ((cp_stk_out (by omega)).trans h20))) | (refine (ev_set_ne (by decide)).trans ?_; exact (cp_out_65_27 (by decide)).trans ((cp_stk_out (by omega)).trans hz))) (by rfl) ?_
  refine ev_getf dX12_keep_32 flX12_245 (by first | assumption | exact ((ev_set_ne (by decide)).trans ((cp_out_65_27 (by decide)).trans ((cp_stk_out (by omega)).trans h20))) | (refine (ev_set_ne (by decide)).trans ?_; exact (cp_out_65_27 (by decide)).trans ((cp_stk_out (by omega)).trans hz))) (by rfl) ?_
  exact ev_reti dX12_keep_35 rfl rfl (⟨rfl, rfl⟩)
theorem c12_back_63 {G : ev_G} {n : Nat} {M : ev_M} {g c0 c1 c2 : Nat} (hG : M g = .inr (3, [.ref (g + 1), .ref (g + 2), .ref (g + 3), .int (nI c0), .int (nI c1), .int (nI c2)])) {fa : Nat → Option Nat} (hA : M (g + 1) = .inl (2, 12, ev_q fa)) (hfa : ∀ i, i < 12 → fa i = some (g + 4 + i)) (hc : c0 ≤ 12) (hg : 84 < g) {lt : Int32} {fi : Nat → Option Nat} (hI : M 63 = .inr (4, [.ref (63 + 1), .ref (63 + 2), .int (lt), .int (ev_b true)])) (hJ : M (63 + 1) = .inl (2, 12, ev_q fi)) (hfi : ∀ i, i < 12 → fi i = some (63 + 10 + i)) {s : Nat → Int32} (hS : ∀ i, i < c0 → cl_stk M (63 + 10 + i) (fun k => s (7 * i + k))) {v : Nat → Int32} (hD : ∀ i, i < 12 → cl_stk M (g + 4 + i) (fun k => v (7 * i + k))) {up dn : Int64} {f0 f1 f2 f3 f4 f5 f6 : Nat → Int32} {sz : Nat} (hz : M (65) = .inr (8, [.ref (65 + 1), .ref (65 + 2), .ref (65 + 3), .ref (65 + 4), .ref (65 + 5), .ref (65 + 6), .ref (65 + 7), .long up, .long dn, .int (nI sz)])) (z0 : M (65 + 1) = .inl (0, 60, .inl f0)) (z1 : M (65 + 2) = .inl (0, 60, .inl f1)) (z2 : M (65 + 3) = .inl (0, 60, .inl f2)) (z3 : M (65 + 4) = .inl (0, 60, .inl f3)) (z4 : M (65 + 5) = .inl (0, 60, .inl f4)) (z5 : M (65 + 6) = .inl (0, 12, .inl f5)) (z6 : M (65 + 7) = .inl (0, 12, .inl f6)) {up2 dn2 : Int64} {x : Int32} {g0 g1 g2 g3 g4 : Nat → Int32} (hy : M 27 = .inr (8, [.ref (27 + 1), .ref (27 + 2), .ref (27 + 3), .ref (27 + 4), .ref (27 + 5), .ref (27 + 6), .ref (27 + 7), .long up2, .long dn2, .int (x)])) (y0 : M (27 + 1) = .inl (0, 60, .inl g0)) (y1 : M (27 + 2) = .inl (0, 60, .inl g1)) (y2 : M (27 + 3) = .inl (0, 60, .inl g2)) (y3 : M (27 + 4) = .inl (0, 60, .inl g3)) (y4 : M (27 + 5) = .inl (0, 60, .inl g4)) (hsz : sz ≤ 60) {lot : Int32} {g' : Nat} (h20 : M 20 = .inr (12, [.ref 21, .ref 23, .ref 25, .ref 27, .ref 35, .ref 39, .ref 40, .ref 41, .ref 63, .ref g, .ref g', .int lot]))  : ev_Cal G mX12_back 3 0 0 [.ref 20, .int 1] n M (ev_is (some (.int (nI sz))) (ev_set (ev_ml (cp_stk M (g + 4) s (c0)) [(27, .inr (8, [.ref (27 + 1), .ref (27 + 2), .ref (27 + 3), .ref (27 + 4), .ref (27 + 5), .ref (27 + 6), .ref (27 + 7), .long up2, .long dn2, .int (nI sz)])), (27 + 1, .inl (0, 60, .inl (fl_mix sz f0 g0))), (27 + 2, .inl (0, 60, .inl (fl_mix sz f1 g1))), (27 + 3, .inl (0, 60, .inl (fl_mix sz f2 g2))), (27 + 4, .inl (0, 60, .inl (fl_mix sz f3 g3))), (27 + 5, .inl (0, 60, .inl (fl_mix sz f4 g4)))]) 20 (.inr (12, [.ref 21, .ref 23, .ref 25, .ref 27, .ref 35, .ref 39, .ref 40, .ref 41, .ref 63, .ref g, .ref g', .int lt])))) := by
  refine ev_Cal_of (L := [some (.ref 20), some (.int 1), none]) (by decide +kernel) (Nat.le_of_ble_eq_true rfl) rfl ?_
  refine ev_aload_n (i := 0) dX12_back_0 rfl rfl ?_
  refine ev_iload_n (i := 1) dX12_back_1 rfl rfl ?_
  refine ev_c2 kX12_back_2 (c12_imageAt_63 h20) (ev_rv_of (by first | assumption | exact ((cp_out_27_65 (by decide)).trans ((cp_stk_out (by omega)).trans h20)) | exact ((cp_out_27_65 (by decide)).trans ((cp_stk_out (by omega)).trans hI)) | exact ev_set_eq | exact (ev_set_ne (by decide)).trans rfl) rfl rfl) (by decide) (by decide) (Nat.le_of_ble_eq_true rfl) ?_
  refine ev_astore_n (i := 2) dX12_back_5 rfl (Nat.le_of_ble_eq_true rfl) rfl ?_
  refine ev_aload_n (i := 2) dX12_back_6 rfl rfl ?_
  refine ev_ifnonnull (tgt := 12) dX12_back_7 (by decide) ?_
  refine ev_aload_n (i := 2) dX12_back_12 rfl rfl ?_
  refine ev_getf dX12_back_13 flX12_106 (by first | assumption | exact ((cp_out_27_65 (by decide)).trans ((cp_stk_out (by omega)).trans h20)) | exact ((cp_out_27_65 (by decide)).trans ((cp_stk_out (by omega)).trans hI)) | exact ev_set_eq | exact (ev_set_ne (by decide)).trans rfl) (by rfl) ?_
  refine ev_if_neb (tgt := 22) dX12_back_16 (by decide) (fun h16 => ?_) (fun h16 => False.elim (Bool.false_ne_true h16.symm))
  refine ev_aload_n (i := 2) dX12_back_22 rfl rfl ?_
  refine ev_aload_n (i := 0) dX12_back_23 rfl rfl ?_
  refine ev_getf dX12_back_24 flX12_75 (by first | assumption | exact ((cp_out_27_65 (by decide)).trans ((cp_stk_out (by omega)).trans h20)) | exact ((cp_out_27_65 (by decide)).trans ((cp_stk_out (by omega)).trans hI)) | exact ev_set_eq | exact (ev_set_ne (by decide)).trans rfl) (by rfl) ?_
  refine ev_aload_n (i := 0) dX12_back_27 rfl rfl ?_
  refine ev_getf dX12_back_28 flX12_35 (by first | assumption | exact ((cp_out_27_65 (by decide)).trans ((cp_stk_out (by omega)).trans h20)) | exact ((cp_out_27_65 (by decide)).trans ((cp_stk_out (by omega)).trans hI)) | exact ev_set_eq | exact (ev_set_ne (by decide)).trans rfl) (by rfl) ?_
  refine ev_w3 kX12_back_31 (c4_give_63 hG hA hfa hc hg hI hJ hfi hS hD hz z0 z1 z2 z3 z4 z5 z6 hy y0 y1 y2 y3 y4 hsz) (ev_rv_of (by first | assumption | exact ((cp_out_27_65 (by decide)).trans ((cp_stk_out (by omega)).trans h20)) | exact ((cp_out_27_65 (by decide)).trans ((cp_stk_out (by omega)).trans hI)) | exact ev_set_eq | exact (ev_set_ne (by decide)).trans rfl) rfl rfl) (by decide) (by decide) (Nat.le_of_ble_eq_true rfl) ?_
  refine ev_aload_n (i := 0) dX12_back_34 rfl rfl ?_
  refine ev_aload_n (i := 2) dX12_back_35 rfl rfl ?_
  refine ev_getf dX12_back_36 flX12_280 (by first | assumption | exact ((cp_out_27_65 (by decide)).trans ((cp_stk_out (by omega)).trans h20)) | exact ((cp_out_27_65 (by decide)).trans ((cp_stk_out (by omega)).trans hI)) | exact ev_set_eq | exact (ev_set_ne (by decide)).trans rfl) (by rfl) ?_
  refine ev_puti dX12_back_39 fpX12_82 (by first | assumption | exact ((cp_out_27_65 (by decide)).trans ((cp_stk_out (by omega)).trans h20)) | exact ((cp_out_27_65 (by decide)).trans ((cp_stk_out (by omega)).trans hI)) | exact ev_set_eq | exact (ev_set_ne (by decide)).trans rfl) (by exact Nat.le_of_ble_eq_true rfl) ?_
  refine ev_aload_n (i := 0) dX12_back_42 rfl rfl ?_
  refine ev_getf dX12_back_43 flX12_35 (by first | assumption | exact ((cp_out_27_65 (by decide)).trans ((cp_stk_out (by omega)).trans h20)) | exact ((cp_out_27_65 (by decide)).trans ((cp_stk_out (by omega)).trans hI)) | exact ev_set_eq | exact (ev_set_ne (by decide)).trans rfl) (by rfl) ?_
  refine ev_getf dX12_back_46 flX12_245 (by first | assumption | exact ((cp_out_27_65 (by decide)).trans ((cp_stk_out (by omega)).trans h20)) | exact ((cp_out_27_65 (by decide)).trans ((cp_stk_out (by omega)).trans hI)) | exact ev_set_eq | exact (ev_set_ne (by decide)).trans rfl) (by rfl) ?_
  exact ev_reti dX12_back_49 rfl rfl (⟨rfl, rfl⟩)
theorem c12_back_63_no {G : ev_G} {n : Nat} {M : ev_M} {g g' : Nat} {lot : Int32} (h20 : M 20 = .inr (12, [.ref 21, .ref 23, .ref 25, .ref 27, .ref 35, .ref 39, .ref 40, .ref 41, .ref 63, .ref g, .ref g', .int lot])) {lt : Int32} (hI : M 63 = .inr (4, [.ref (63 + 1), .ref (63 + 2), .int (lt), .int (ev_b false)]))  : ev_Cal G mX12_back 3 0 0 [.ref 20, .int 1] n M (ev_is (some (.int (-2))) M) := by
  refine ev_Cal_of (L := [some (.ref 20), some (.int 1), none]) (by decide +kernel) (Nat.le_of_ble_eq_true rfl) rfl ?_
  refine ev_aload_n (i := 0) dX12_back_0 rfl rfl ?_
  refine ev_iload_n (i := 1) dX12_back_1 rfl rfl ?_
  refine ev_c2 kX12_back_2 (c12_imageAt_63 h20) (ev_rv_of (by first | assumption | rfl) rfl rfl) (by decide) (by decide) (Nat.le_of_ble_eq_true rfl) ?_
  refine ev_astore_n (i := 2) dX12_back_5 rfl (Nat.le_of_ble_eq_true rfl) rfl ?_
  refine ev_aload_n (i := 2) dX12_back_6 rfl rfl ?_
  refine ev_ifnonnull (tgt := 12) dX12_back_7 (by decide) ?_
  refine ev_aload_n (i := 2) dX12_back_12 rfl rfl ?_
  refine ev_getf dX12_back_13 flX12_106 (by first | assumption | rfl) (by rfl) ?_
  refine ev_if_neb (tgt := 22) dX12_back_16 (by decide) (fun h16 => False.elim (Bool.false_ne_true h16)) (fun h16 => ?_)
  refine ev_bipush (v := (-2)) dX12_back_19 cnb_m2 ?_
  exact ev_reti dX12_back_21 rfl rfl (⟨by first | rfl | simp [*], rfl⟩)
theorem c12_imageAt_x {G : ev_G} {n : Nat} {M : ev_M} {g g' : Nat} {lot : Int32} (h20 : M 20 = .inr (12, [.ref 21, .ref 23, .ref 25, .ref 27, .ref 35, .ref 39, .ref 40, .ref 41, .ref 63, .ref g, .ref g', .int lot])) {x : Int32} (hx0 : ¬ x = 0) (hx1 : ¬ x = 1) : ev_Cal G mX12_imageAt 1 0 0 [.ref 20, .int x] n M (ev_is (some (.null)) M) := by
  refine ev_Cal_of (L := [some (.ref 20), some (.int x)]) (by decide +kernel) (Nat.le_of_ble_eq_true rfl) rfl ?_
  refine ev_iload_n (i := 1) dX12_imageAt_0 rfl rfl ?_
  refine ev_if_ne (tgt := 9) dX12_imageAt_1 (by decide) (fun h1 => ?_) (fun h1 => False.elim (hx0 h1))
  refine ev_iload_n (i := 1) dX12_imageAt_9 rfl rfl ?_
  refine ev_iconst (v := 1) dX12_imageAt_10 cni_1 ?_
  refine ev_icmp_ne (tgt := 21) dX12_imageAt_11 (by decide) (fun h11 => ?_) (fun h11 => False.elim (hx1 h11))
  refine ev_null dX12_imageAt_21 ?_
  exact ev_retN dX12_imageAt_22 rfl (⟨rfl, rfl⟩)
theorem c12_keep_x {G : ev_G} {n : Nat} {M : ev_M} {g g' : Nat} {lot : Int32} (h20 : M 20 = .inr (12, [.ref 21, .ref 23, .ref 25, .ref 27, .ref 35, .ref 39, .ref 40, .ref 41, .ref 63, .ref g, .ref g', .int lot])) {x : Int32} (hx0 : ¬ x = 0) (hx1 : ¬ x = 1) : ev_Cal G mX12_keep 3 0 0 [.ref 20, .int x] n M (ev_is (some (.int (-1))) M) := by
  refine ev_Cal_of (L := [some (.ref 20), some (.int x), none]) (by decide +kernel) (Nat.le_of_ble_eq_true rfl) rfl ?_
  refine ev_aload_n (i := 0) dX12_keep_0 rfl rfl ?_
  refine ev_iload_n (i := 1) dX12_keep_1 rfl rfl ?_
  refine ev_c2 kX12_keep_2 (c12_imageAt_x h20 hx0 hx1) (ev_rv_of (by first | assumption | rfl) rfl rfl) (by decide) (by decide) (Nat.le_of_ble_eq_true rfl) ?_
  refine ev_astore_nN (i := 2) dX12_keep_5 rfl (Nat.le_of_ble_eq_true rfl) rfl ?_
  refine ev_aload_nN (i := 2) dX12_keep_6 rfl rfl ?_
  refine ev_ifnonnullN dX12_keep_7 ?_
  refine ev_iconst (v := (-1)) dX12_keep_10 cni_m1 ?_
  exact ev_reti dX12_keep_11 rfl rfl (⟨by first | rfl | simp [*], rfl⟩)
theorem c12_back_x {G : ev_G} {n : Nat} {M : ev_M} {g g' : Nat} {lot : Int32} (h20 : M 20 = .inr (12, [.ref 21, .ref 23, .ref 25, .ref 27, .ref 35, .ref 39, .ref 40, .ref 41, .ref 63, .ref g, .ref g', .int lot])) {x : Int32} (hx0 : ¬ x = 0) (hx1 : ¬ x = 1) : ev_Cal G mX12_back 3 0 0 [.ref 20, .int x] n M (ev_is (some (.int (-1))) M) := by
  refine ev_Cal_of (L := [some (.ref 20), some (.int x), none]) (by decide +kernel) (Nat.le_of_ble_eq_true rfl) rfl ?_
  refine ev_aload_n (i := 0) dX12_back_0 rfl rfl ?_
  refine ev_iload_n (i := 1) dX12_back_1 rfl rfl ?_
  refine ev_c2 kX12_back_2 (c12_imageAt_x h20 hx0 hx1) (ev_rv_of (by first | assumption | rfl) rfl rfl) (by decide) (by decide) (Nat.le_of_ble_eq_true rfl) ?_
  refine ev_astore_nN (i := 2) dX12_back_5 rfl (Nat.le_of_ble_eq_true rfl) rfl ?_
  refine ev_aload_nN (i := 2) dX12_back_6 rfl rfl ?_
  refine ev_ifnonnullN dX12_back_7 ?_
  refine ev_iconst (v := (-1)) dX12_back_10 cni_m1 ?_
  exact ev_reti dX12_back_11 rfl rfl (⟨by first | rfl | simp [*], rfl⟩)
