/-! ===== contracts: the class: refused shots, type ===== -/
theorem c12_shoot_i {G : ev_G} {n : Nat} {M : ev_M} {g g' c0 c1 c2 : Nat} {lot : Int32} (h20 : M 21 = .inr (11, [.ref 22, .ref 25, .ref 27, .ref 35, .ref 39, .ref 40, .ref 41, .ref 63, .ref g, .ref g', .int lot])) (hG : M g = .inr (3, [.ref (g + 1), .ref (g + 2), .ref (g + 3), .int (nI c0), .int (nI c1), .int (nI c2)])) {fb : Nat → Option Nat} (hB : M (g + 2) = .inl (3, 3, ev_q fb)) (hfb : ∀ i, i < 3 → fb i = some (g + 16 + i)) {fc : Nat → Option Nat} (hC : M (g + 3) = .inl (4, 3, ev_q fc)) (hfc : ∀ i, i < 3 → fc i = some (g + 19 + i)) (hc1 : c1 ≤ 3) (hc2 : c2 ≤ 3) {x : Int32} (hx : x < 0 ∨ nI c0 ≤ x) {xb xa : Int32}  : ev_Cal G mX11_shoot 6 0 0 [.ref 21, .int x, .int xb, .int xa] n M (ev_is (some (.int (-1000000))) M) := by
  refine ev_Cal_of (L := [some (.ref 21), some (.int x), some (.int xb), some (.int xa), none, none, none, none, none, none]) (by decide +kernel) (Nat.le_of_ble_eq_true rfl) rfl ?_
  obtain ⟨vb, hvb, hcb⟩ := c3_bowAt_any (G := G) (n := n) hG hB hfb hc1 xb
  obtain ⟨va, hva, hca⟩ := c3_archerAt_any (G := G) (n := n) hG hC hfc hc2 xa
  rcases hvb with rfl | ⟨ahvb, rfl⟩ <;> rcases hva with rfl | ⟨ahva, rfl⟩
  · skip
    refine ev_aload_n (i := 0) dX11_shoot_0 rfl rfl ?_
    refine ev_getf dX11_shoot_1 flX11_64 (by first | assumption | rfl) (by rfl) ?_
    refine ev_iload_n (i := 1) dX11_shoot_4 rfl rfl ?_
    refine ev_c2 kX11_shoot_5 (c3_stickAt_out hG hx) (ev_rv_of (by first | assumption | rfl) rfl rfl) (by decide) (by decide) (Nat.le_of_ble_eq_true rfl) ?_
    refine ev_astoreN dX11_shoot_8 (Nat.le_of_ble_eq_true rfl) rfl ?_
    refine ev_aload_n (i := 0) dX11_shoot_10 rfl rfl ?_
    refine ev_getf dX11_shoot_11 flX11_64 (by first | assumption | rfl) (by rfl) ?_
    refine ev_iload_n (i := 2) dX11_shoot_14 rfl rfl ?_
    refine ev_c2 kX11_shoot_15 (hcb) (ev_rv_of (by first | assumption | rfl) rfl rfl) (by decide) (by decide) (Nat.le_of_ble_eq_true rfl) ?_
    refine ev_astoreN dX11_shoot_18 (Nat.le_of_ble_eq_true rfl) rfl ?_
    refine ev_aload_n (i := 0) dX11_shoot_20 rfl rfl ?_
    refine ev_getf dX11_shoot_21 flX11_64 (by first | assumption | rfl) (by rfl) ?_
    refine ev_iload_n (i := 3) dX11_shoot_24 rfl rfl ?_
    refine ev_c2 kX11_shoot_25 (hca) (ev_rv_of (by first | assumption | rfl) rfl rfl) (by decide) (by decide) (Nat.le_of_ble_eq_true rfl) ?_
    refine ev_astoreN dX11_shoot_28 (Nat.le_of_ble_eq_true rfl) rfl ?_
    refine ev_aloadN dX11_shoot_30 rfl ?_
    refine ev_ifnullN (tgt := 57) dX11_shoot_32 (by decide) ?_
    refine ev_ldc dX11_shoot_57 coX11_145 ?_
    exact ev_reti dX11_shoot_59 rfl rfl (⟨by first | rfl | simp [*], rfl⟩)
  · skip
    refine ev_aload_n (i := 0) dX11_shoot_0 rfl rfl ?_
    refine ev_getf dX11_shoot_1 flX11_64 (by first | assumption | rfl) (by rfl) ?_
    refine ev_iload_n (i := 1) dX11_shoot_4 rfl rfl ?_
    refine ev_c2 kX11_shoot_5 (c3_stickAt_out hG hx) (ev_rv_of (by first | assumption | rfl) rfl rfl) (by decide) (by decide) (Nat.le_of_ble_eq_true rfl) ?_
    refine ev_astoreN dX11_shoot_8 (Nat.le_of_ble_eq_true rfl) rfl ?_
    refine ev_aload_n (i := 0) dX11_shoot_10 rfl rfl ?_
    refine ev_getf dX11_shoot_11 flX11_64 (by first | assumption | rfl) (by rfl) ?_
    refine ev_iload_n (i := 2) dX11_shoot_14 rfl rfl ?_
    refine ev_c2 kX11_shoot_15 (hcb) (ev_rv_of (by first | assumption | rfl) rfl rfl) (by decide) (by decide) (Nat.le_of_ble_eq_true rfl) ?_
    refine ev_astoreN dX11_shoot_18 (Nat.le_of_ble_eq_true rfl) rfl ?_
    refine ev_aload_n (i := 0) dX11_shoot_20 rfl rfl ?_
    refine ev_getf dX11_shoot_21 flX11_64 (by first | assumption | rfl) (by rfl) ?_
    refine ev_iload_n (i := 3) dX11_shoot_24 rfl rfl ?_
    refine ev_c2 kX11_shoot_25 (hca) (ev_rv_of (by first | assumption | rfl) rfl rfl) (by decide) (by decide) (Nat.le_of_ble_eq_true rfl) ?_
    refine ev_astore dX11_shoot_28 (Nat.le_of_ble_eq_true rfl) rfl ?_
    refine ev_aloadN dX11_shoot_30 rfl ?_
    refine ev_ifnullN (tgt := 57) dX11_shoot_32 (by decide) ?_
    refine ev_ldc dX11_shoot_57 coX11_145 ?_
    exact ev_reti dX11_shoot_59 rfl rfl (⟨by first | rfl | simp [*], rfl⟩)
  · skip
    refine ev_aload_n (i := 0) dX11_shoot_0 rfl rfl ?_
    refine ev_getf dX11_shoot_1 flX11_64 (by first | assumption | rfl) (by rfl) ?_
    refine ev_iload_n (i := 1) dX11_shoot_4 rfl rfl ?_
    refine ev_c2 kX11_shoot_5 (c3_stickAt_out hG hx) (ev_rv_of (by first | assumption | rfl) rfl rfl) (by decide) (by decide) (Nat.le_of_ble_eq_true rfl) ?_
    refine ev_astoreN dX11_shoot_8 (Nat.le_of_ble_eq_true rfl) rfl ?_
    refine ev_aload_n (i := 0) dX11_shoot_10 rfl rfl ?_
    refine ev_getf dX11_shoot_11 flX11_64 (by first | assumption | rfl) (by rfl) ?_
    refine ev_iload_n (i := 2) dX11_shoot_14 rfl rfl ?_
    refine ev_c2 kX11_shoot_15 (hcb) (ev_rv_of (by first | assumption | rfl) rfl rfl) (by decide) (by decide) (Nat.le_of_ble_eq_true rfl) ?_
    refine ev_astore dX11_shoot_18 (Nat.le_of_ble_eq_true rfl) rfl ?_
    refine ev_aload_n (i := 0) dX11_shoot_20 rfl rfl ?_
    refine ev_getf dX11_shoot_21 flX11_64 (by first | assumption | rfl) (by rfl) ?_
    refine ev_iload_n (i := 3) dX11_shoot_24 rfl rfl ?_
    refine ev_c2 kX11_shoot_25 (hca) (ev_rv_of (by first | assumption | rfl) rfl rfl) (by decide) (by decide) (Nat.le_of_ble_eq_true rfl) ?_
    refine ev_astoreN dX11_shoot_28 (Nat.le_of_ble_eq_true rfl) rfl ?_
    refine ev_aloadN dX11_shoot_30 rfl ?_
    refine ev_ifnullN (tgt := 57) dX11_shoot_32 (by decide) ?_
    refine ev_ldc dX11_shoot_57 coX11_145 ?_
    exact ev_reti dX11_shoot_59 rfl rfl (⟨by first | rfl | simp [*], rfl⟩)
  · skip
    refine ev_aload_n (i := 0) dX11_shoot_0 rfl rfl ?_
    refine ev_getf dX11_shoot_1 flX11_64 (by first | assumption | rfl) (by rfl) ?_
    refine ev_iload_n (i := 1) dX11_shoot_4 rfl rfl ?_
    refine ev_c2 kX11_shoot_5 (c3_stickAt_out hG hx) (ev_rv_of (by first | assumption | rfl) rfl rfl) (by decide) (by decide) (Nat.le_of_ble_eq_true rfl) ?_
    refine ev_astoreN dX11_shoot_8 (Nat.le_of_ble_eq_true rfl) rfl ?_
    refine ev_aload_n (i := 0) dX11_shoot_10 rfl rfl ?_
    refine ev_getf dX11_shoot_11 flX11_64 (by first | assumption | rfl) (by rfl) ?_
    refine ev_iload_n (i := 2) dX11_shoot_14 rfl rfl ?_
    refine ev_c2 kX11_shoot_15 (hcb) (ev_rv_of (by first | assumption | rfl) rfl rfl) (by decide) (by decide) (Nat.le_of_ble_eq_true rfl) ?_
    refine ev_astore dX11_shoot_18 (Nat.le_of_ble_eq_true rfl) rfl ?_
    refine ev_aload_n (i := 0) dX11_shoot_20 rfl rfl ?_
    refine ev_getf dX11_shoot_21 flX11_64 (by first | assumption | rfl) (by rfl) ?_
    refine ev_iload_n (i := 3) dX11_shoot_24 rfl rfl ?_
    refine ev_c2 kX11_shoot_25 (hca) (ev_rv_of (by first | assumption | rfl) rfl rfl) (by decide) (by decide) (Nat.le_of_ble_eq_true rfl) ?_
    refine ev_astore dX11_shoot_28 (Nat.le_of_ble_eq_true rfl) rfl ?_
    refine ev_aloadN dX11_shoot_30 rfl ?_
    refine ev_ifnullN (tgt := 57) dX11_shoot_32 (by decide) ?_
    refine ev_ldc dX11_shoot_57 coX11_145 ?_
    exact ev_reti dX11_shoot_59 rfl rfl (⟨by first | rfl | simp [*], rfl⟩)
theorem c12_shoot_b {G : ev_G} {n : Nat} {M : ev_M} {g g' c0 c1 c2 : Nat} {lot : Int32} (h20 : M 21 = .inr (11, [.ref 22, .ref 25, .ref 27, .ref 35, .ref 39, .ref 40, .ref 41, .ref 63, .ref g, .ref g', .int lot])) (hG : M g = .inr (3, [.ref (g + 1), .ref (g + 2), .ref (g + 3), .int (nI c0), .int (nI c1), .int (nI c2)])) {fa : Nat → Option Nat} (hA : M (g + 1) = .inl (2, 12, ev_q fa)) (hfa : ∀ i, i < 12 → fa i = some (g + 4 + i)) {fc : Nat → Option Nat} (hC : M (g + 3) = .inl (4, 3, ev_q fc)) (hfc : ∀ i, i < 3 → fc i = some (g + 19 + i)) {j : Nat} (hj : j < c0) (hc : c0 ≤ 12) (hc2 : c2 ≤ 3) {x : Int32} (hx : x < 0 ∨ nI c1 ≤ x) {xa : Int32} : ev_Cal G mX11_shoot 6 0 0 [.ref 21, .int (nI j), .int x, .int xa] n M (ev_is (some (.int (-1000000))) M) := by
  refine ev_Cal_of (L := [some (.ref 21), some (.int (nI j)), some (.int x), some (.int xa), none, none, none, none, none, none]) (by decide +kernel) (Nat.le_of_ble_eq_true rfl) rfl ?_
  obtain ⟨va, hva, hca⟩ := c3_archerAt_any (G := G) (n := n) hG hC hfc hc2 xa
  rcases hva with rfl | ⟨ahva, rfl⟩
  · skip
    refine ev_aload_n (i := 0) dX11_shoot_0 rfl rfl ?_
    refine ev_getf dX11_shoot_1 flX11_64 (by first | assumption | rfl) (by rfl) ?_
    refine ev_iload_n (i := 1) dX11_shoot_4 rfl rfl ?_
    refine ev_c2 kX11_shoot_5 (c3_stickAt_in hG hA hfa hj hc) (ev_rv_of (by first | assumption | rfl) rfl rfl) (by decide) (by decide) (Nat.le_of_ble_eq_true rfl) ?_
    refine ev_astore dX11_shoot_8 (Nat.le_of_ble_eq_true rfl) rfl ?_
    refine ev_aload_n (i := 0) dX11_shoot_10 rfl rfl ?_
    refine ev_getf dX11_shoot_11 flX11_64 (by first | assumption | rfl) (by rfl) ?_
    refine ev_iload_n (i := 2) dX11_shoot_14 rfl rfl ?_
    refine ev_c2 kX11_shoot_15 (c3_bowAt_out hG hx) (ev_rv_of (by first | assumption | rfl) rfl rfl) (by decide) (by decide) (Nat.le_of_ble_eq_true rfl) ?_
    refine ev_astoreN dX11_shoot_18 (Nat.le_of_ble_eq_true rfl) rfl ?_
    refine ev_aload_n (i := 0) dX11_shoot_20 rfl rfl ?_
    refine ev_getf dX11_shoot_21 flX11_64 (by first | assumption | rfl) (by rfl) ?_
    refine ev_iload_n (i := 3) dX11_shoot_24 rfl rfl ?_
    refine ev_c2 kX11_shoot_25 (hca) (ev_rv_of (by first | assumption | rfl) rfl rfl) (by decide) (by decide) (Nat.le_of_ble_eq_true rfl) ?_
    refine ev_astoreN dX11_shoot_28 (Nat.le_of_ble_eq_true rfl) rfl ?_
    refine ev_aload dX11_shoot_30 rfl ?_
    refine ev_ifnull dX11_shoot_32 ?_
    refine ev_aloadN dX11_shoot_35 rfl ?_
    refine ev_ifnullN (tgt := 57) dX11_shoot_37 (by decide) ?_
    refine ev_ldc dX11_shoot_57 coX11_145 ?_
    exact ev_reti dX11_shoot_59 rfl rfl (⟨by first | rfl | simp [*], rfl⟩)
  · skip
    refine ev_aload_n (i := 0) dX11_shoot_0 rfl rfl ?_
    refine ev_getf dX11_shoot_1 flX11_64 (by first | assumption | rfl) (by rfl) ?_
    refine ev_iload_n (i := 1) dX11_shoot_4 rfl rfl ?_
    refine ev_c2 kX11_shoot_5 (c3_stickAt_in hG hA hfa hj hc) (ev_rv_of (by first | assumption | rfl) rfl rfl) (by decide) (by decide) (Nat.le_of_ble_eq_true rfl) ?_
    refine ev_astore dX11_shoot_8 (Nat.le_of_ble_eq_true rfl) rfl ?_
    refine ev_aload_n (i := 0) dX11_shoot_10 rfl rfl ?_
    refine ev_getf dX11_shoot_11 flX11_64 (by first | assumption | rfl) (by rfl) ?_
    refine ev_iload_n (i := 2) dX11_shoot_14 rfl rfl ?_
    refine ev_c2 kX11_shoot_15 (c3_bowAt_out hG hx) (ev_rv_of (by first | assumption | rfl) rfl rfl) (by decide) (by decide) (Nat.le_of_ble_eq_true rfl) ?_
    refine ev_astoreN dX11_shoot_18 (Nat.le_of_ble_eq_true rfl) rfl ?_
    refine ev_aload_n (i := 0) dX11_shoot_20 rfl rfl ?_
    refine ev_getf dX11_shoot_21 flX11_64 (by first | assumption | rfl) (by rfl) ?_
    refine ev_iload_n (i := 3) dX11_shoot_24 rfl rfl ?_
    refine ev_c2 kX11_shoot_25 (hca) (ev_rv_of (by first | assumption | rfl) rfl rfl) (by decide) (by decide) (Nat.le_of_ble_eq_true rfl) ?_
    refine ev_astore dX11_shoot_28 (Nat.le_of_ble_eq_true rfl) rfl ?_
    refine ev_aload dX11_shoot_30 rfl ?_
    refine ev_ifnull dX11_shoot_32 ?_
    refine ev_aloadN dX11_shoot_35 rfl ?_
    refine ev_ifnullN (tgt := 57) dX11_shoot_37 (by decide) ?_
    refine ev_ldc dX11_shoot_57 coX11_145 ?_
    exact ev_reti dX11_shoot_59 rfl rfl (⟨by first | rfl | simp [*], rfl⟩)
theorem c12_shoot_a {G : ev_G} {n : Nat} {M : ev_M} {g g' c0 c1 c2 : Nat} {lot : Int32} (h20 : M 21 = .inr (11, [.ref 22, .ref 25, .ref 27, .ref 35, .ref 39, .ref 40, .ref 41, .ref 63, .ref g, .ref g', .int lot])) (hG : M g = .inr (3, [.ref (g + 1), .ref (g + 2), .ref (g + 3), .int (nI c0), .int (nI c1), .int (nI c2)])) {fa : Nat → Option Nat} (hA : M (g + 1) = .inl (2, 12, ev_q fa)) (hfa : ∀ i, i < 12 → fa i = some (g + 4 + i)) {fb : Nat → Option Nat} (hB : M (g + 2) = .inl (3, 3, ev_q fb)) (hfb : ∀ i, i < 3 → fb i = some (g + 16 + i)) {j : Nat} (hj : j < c0) (hc : c0 ≤ 12) {b : Nat} (hb : b < c1) (hc1 : c1 ≤ 3) {x : Int32} (hx : x < 0 ∨ nI c2 ≤ x) : ev_Cal G mX11_shoot 6 0 0 [.ref 21, .int (nI j), .int (nI b), .int x] n M (ev_is (some (.int (-1000000))) M) := by
  refine ev_Cal_of (L := [some (.ref 21), some (.int (nI j)), some (.int (nI b)), some (.int x), none, none, none, none, none, none]) (by decide +kernel) (Nat.le_of_ble_eq_true rfl) rfl ?_
  refine ev_aload_n (i := 0) dX11_shoot_0 rfl rfl ?_
  refine ev_getf dX11_shoot_1 flX11_64 (by first | assumption | rfl) (by rfl) ?_
  refine ev_iload_n (i := 1) dX11_shoot_4 rfl rfl ?_
  refine ev_c2 kX11_shoot_5 (c3_stickAt_in hG hA hfa hj hc) (ev_rv_of (by first | assumption | rfl) rfl rfl) (by decide) (by decide) (Nat.le_of_ble_eq_true rfl) ?_
  refine ev_astore dX11_shoot_8 (Nat.le_of_ble_eq_true rfl) rfl ?_
  refine ev_aload_n (i := 0) dX11_shoot_10 rfl rfl ?_
  refine ev_getf dX11_shoot_11 flX11_64 (by first | assumption | rfl) (by rfl) ?_
  refine ev_iload_n (i := 2) dX11_shoot_14 rfl rfl ?_
  refine ev_c2 kX11_shoot_15 (c3_bowAt_in hG hB hfb hb hc1) (ev_rv_of (by first | assumption | rfl) rfl rfl) (by decide) (by decide) (Nat.le_of_ble_eq_true rfl) ?_
  refine ev_astore dX11_shoot_18 (Nat.le_of_ble_eq_true rfl) rfl ?_
  refine ev_aload_n (i := 0) dX11_shoot_20 rfl rfl ?_
  refine ev_getf dX11_shoot_21 flX11_64 (by first | assumption | rfl) (by rfl) ?_
  refine ev_iload_n (i := 3) dX11_shoot_24 rfl rfl ?_
  refine ev_c2 kX11_shoot_25 (c3_archerAt_out hG hx) (ev_rv_of (by first | assumption | rfl) rfl rfl) (by decide) (by decide) (Nat.le_of_ble_eq_true rfl) ?_
  refine ev_astoreN dX11_shoot_28 (Nat.le_of_ble_eq_true rfl) rfl ?_
  refine ev_aload dX11_shoot_30 rfl ?_
  refine ev_ifnull dX11_shoot_32 ?_
  refine ev_aload dX11_shoot_35 rfl ?_
  refine ev_ifnull dX11_shoot_37 ?_
  refine ev_aloadN dX11_shoot_40 rfl ?_
  refine ev_ifnullN (tgt := 57) dX11_shoot_42 (by decide) ?_
  refine ev_ldc dX11_shoot_57 coX11_145 ?_
  exact ev_reti dX11_shoot_59 rfl rfl (⟨by first | rfl | simp [*], rfl⟩)
def ty_b (v : Int64) (q : Nat) : Int32 := ((v.toUInt64 >>> ((8 * nI q).toInt64.toUInt64 &&& Int64.toUInt64 63)).toInt64).toInt32 &&& 255
def ty_t (v : Int64) : Nat → Nat → (Nat → Int32) → (Nat → Int32)
  | 0, _, tb => tb
  | q + 1, tn, tb => ty_t v q (tn + 1) (upd tb tn (ty_b v q))
theorem ty_out {M : ev_M} {a : Nat} {x0 x1 : ev_MC} (h : ¬ a = 22 ∧ ¬ a = 23) : ev_ml M [(22, x0), (23, x1)] a = M a := ev_ml_out _ (by simp only [List.map_cons, List.map_nil, List.mem_cons, List.not_mem_nil, or_false, not_or]; omega)
theorem ty_ml {M : ev_M} {x0 x1 y0 y1 : ev_MC} : ev_ml (ev_ml M [(22, x0), (23, x1)]) [(22, y0), (23, y1)] = ev_ml M [(22, y0), (23, y1)] := by
  funext k
  simp only [ev_ml, ev_set]
  by_cases a : k = 22 <;> by_cases b : k = 23 <;> simp only [a, b, if_true, if_false, if_pos, if_neg, not_false_eq_true]
theorem ty_dec (q : Nat) : nI (q + 1) - 1 = nI q := nI_pred q
theorem ty_neg : nI 0 - 1 < 0 := by decide
theorem ty_pos {q : Nat} (h : q < 2 ^ 31) : ¬ nI (q + 1) - 1 < 0 := by rw [ty_dec]; exact nI_pos h
theorem ty_idx (q : Nat) : nI (q + 1) - 1 + nI 0 - 1 = nI (q + 1) - 1 - 1 := by rw [show nI 0 = 0 from rfl, Int32.add_zero]
theorem l12_type {G : ev_G} {n : Nat} {M : ev_M} {g g' : Nat} {lot : Int32} (h20 : M 21 = .inr (11, [.ref 22, .ref 25, .ref 27, .ref 35, .ref 39, .ref 40, .ref 41, .ref 63, .ref g, .ref g', .int lot])) {v : Int64} {kk pl : Int32} : ∀ (q tn : Nat) (tb : Nat → Int32), tn + q ≤ 400 → ev_E G mX11_type 2 0 0 n (ev_ml M [(22, .inr (7, [.ref 23, .ref 24, .int (pl), .int (nI (tn))])), (23, .inl (0, 400, .inl (tb)))]) 35 [some (.ref 21), some (.long v), none, some (.int kk), some (.int (nI (q) - 1))] [] (ev_is (some (.int (nI (tn + q)))) (ev_ml M [(22, .inr (7, [.ref 23, .ref 24, .int (pl), .int (nI (tn + q))])), (23, .inl (0, 400, .inl (ty_t v q tn tb)))])) := by
  intro q
  induction q with
  | zero =>
    intro tn tb hk
    refine ev_iload dX11_type_35 rfl ?_
    refine ev_if_lt (tgt := 65) dX11_type_37 (by decide) (fun h37 => ?_) (fun h37 => False.elim (absurd ty_neg (Int32.not_lt.mpr h37)))
    refine ev_aload_n (i := 0) dX11_type_65 rfl rfl ?_
    refine ev_getf dX11_type_66 flX11_10 (by first | rfl | exact (ty_out (by decide)).trans h20) (by rfl) ?_
    refine ev_getf dX11_type_69 flX11_79 (by first | rfl | exact (ty_out (by decide)).trans h20) (by rfl) ?_
    exact ev_reti dX11_type_72 rfl rfl (⟨rfl, rfl⟩)
  | succ q ih =>
    intro tn tb hk
    refine ev_iload dX11_type_35 rfl ?_
    refine ev_if_lt (tgt := 65) dX11_type_37 (by decide) (fun h37 => False.elim (ty_pos (by omega) h37)) (fun h37 => ?_)
    refine ev_aload_n (i := 0) dX11_type_40 rfl rfl ?_
    refine ev_getf dX11_type_41 flX11_10 (by first | rfl | exact (ty_out (by decide)).trans h20) (by rfl) ?_
    refine ev_lload_n (i := 1) dX11_type_44 rfl rfl ?_
    refine ev_bipush (v := 8) dX11_type_45 cnb_8 ?_
    refine ev_iload dX11_type_47 rfl ?_
    refine ev_topi (ty_dec q) ?_
    refine ev_imul dX11_type_49 ?_
    refine ev_lushr dX11_type_50 ?_
    refine ev_l2i dX11_type_51 ?_
    refine ev_sipush (v := 255) dX11_type_52 cns_255 ?_
    refine ev_iand dX11_type_55 ?_
    refine ev_w2 kX11_type_56 (c10_add rfl rfl (by omega)) (ev_rv_of (by first | rfl | exact (ty_out (by decide)).trans h20) rfl rfl) (by decide) (by decide) (Nat.le_of_ble_eq_true rfl) ?_
    refine ev_mem ty_ml ?_
    refine ev_iinc (v := nI q - 1) dX11_type_59 rfl (by rw [ty_dec]; rw [Int32.sub_eq_add_neg]; rfl) (Nat.le_of_ble_eq_true rfl) rfl ?_
    refine ev_goto (tgt := 35) dX11_type_62 (by decide) ?_
    refine ev_post (fun r M1 h => ?_) (ih (tn + 1) _ (by omega))
    rw [show tn + (q + 1) = tn + 1 + q by omega]
    exact h
theorem c12_type_ok {G : ev_G} {n : Nat} {M : ev_M} {g g' : Nat} {lot : Int32} (h20 : M 21 = .inr (11, [.ref 22, .ref 25, .ref 27, .ref 35, .ref 39, .ref 40, .ref 41, .ref 63, .ref g, .ref g', .int lot])) {tn : Nat} {pl : Int32} {tb : Nat → Int32} (hT2 : M 22 = .inr (7, [.ref 23, .ref 24, .int (pl), .int (nI tn)])) (hTb : M 23 = .inl (0, 400, .inl tb)) {v : Int64} {q : Nat} (hq : sp_in (nI q) 1 8 = true) (hq8 : q ≤ 8) (hn : tn + q ≤ 400) : ev_Cal G mX11_type 2 0 0 [.ref 21, .long v, .int (nI q)] n M (ev_is (some (.int (nI (tn + q)))) (ev_ml M [(22, .inr (7, [.ref 23, .ref 24, .int (pl), .int (nI (tn + q))])), (23, .inl (0, 400, .inl (ty_t v q tn tb)))])) := by
  refine ev_Cal_of (L := [some (.ref 21), some (.long v), none, some (.int (nI q)), none]) (by decide +kernel) (Nat.le_of_ble_eq_true rfl) rfl ?_
  refine ev_track (l := [(22, .inr (7, [.ref 23, .ref 24, .int (pl), .int (nI tn)])), (23, .inl (0, 400, .inl tb))]) (ev_fa1 hT2 (ev_fa1 hTb ev_fa0)) ?_
  refine ev_iload_n (i := 3) dX11_type_0 rfl rfl ?_
  refine ev_iconst (v := 1) dX11_type_1 cni_1 ?_
  refine ev_bipush (v := 8) dX11_type_2 cnb_8 ?_
  refine ev_c3 kX11_type_4 (c12_within) trivial (by decide) (by decide) (Nat.le_of_ble_eq_true rfl) ?_
  refine ev_if_neb (tgt := 12) dX11_type_7 (by decide) (fun h7 => ?_) (fun h7 => False.elim (Bool.false_ne_true (h7.symm.trans (hq))))
  refine ev_aload_n (i := 0) dX11_type_12 rfl rfl ?_
  refine ev_getf dX11_type_13 flX11_10 (by first | assumption | rfl) (by rfl) ?_
  refine ev_getf dX11_type_16 flX11_79 (by first | assumption | rfl) (by rfl) ?_
  refine ev_iload_n (i := 3) dX11_type_19 rfl rfl ?_
  refine ev_iadd dX11_type_20 ?_
  refine ev_sipush (v := 400) dX11_type_21 cns_400 ?_
  refine ev_icmp_le (tgt := 30) dX11_type_24 (by decide) (fun h24 => ?_) (fun h24 => False.elim (Int32.not_lt.mpr (nI_le (a := tn + q) (b := 400) hn (by decide)) (by rw [← nI_add]; exact h24)))
  refine ev_iload_n (i := 3) dX11_type_30 rfl rfl ?_
  refine ev_iconst (v := 1) dX11_type_31 cni_1 ?_
  refine ev_isub dX11_type_32 ?_
  refine ev_istore dX11_type_33 (Nat.le_of_ble_eq_true rfl) rfl ?_
  exact l12_type h20 q tn tb hn
theorem c12_type_full {G : ev_G} {n : Nat} {M : ev_M} {g g' : Nat} {lot : Int32} (h20 : M 21 = .inr (11, [.ref 22, .ref 25, .ref 27, .ref 35, .ref 39, .ref 40, .ref 41, .ref 63, .ref g, .ref g', .int lot])) {tn : Nat} {pl : Int32} {tb : Nat → Int32} (hT2 : M 22 = .inr (7, [.ref 23, .ref 24, .int (pl), .int (nI tn)])) (hTb : M 23 = .inl (0, 400, .inl tb)) {v : Int64} {q : Nat} (hq : sp_in (nI q) 1 8 = true) (hq8 : q ≤ 8) (hn : 400 < tn + q) (ht : tn ≤ 400) : ev_Cal G mX11_type 2 0 0 [.ref 21, .long v, .int (nI q)] n M (ev_is (some (.int (-3))) M) := by
  refine ev_Cal_of (L := [some (.ref 21), some (.long v), none, some (.int (nI q)), none]) (by decide +kernel) (Nat.le_of_ble_eq_true rfl) rfl ?_
  refine ev_iload_n (i := 3) dX11_type_0 rfl rfl ?_
  refine ev_iconst (v := 1) dX11_type_1 cni_1 ?_
  refine ev_bipush (v := 8) dX11_type_2 cnb_8 ?_
  refine ev_c3 kX11_type_4 (c12_within) trivial (by decide) (by decide) (Nat.le_of_ble_eq_true rfl) ?_
  refine ev_if_neb (tgt := 12) dX11_type_7 (by decide) (fun h7 => ?_) (fun h7 => False.elim (Bool.false_ne_true (h7.symm.trans (hq))))
  refine ev_aload_n (i := 0) dX11_type_12 rfl rfl ?_
  refine ev_getf dX11_type_13 flX11_10 (by first | assumption | rfl) (by rfl) ?_
  refine ev_getf dX11_type_16 flX11_79 (by first | assumption | rfl) (by rfl) ?_
  refine ev_iload_n (i := 3) dX11_type_19 rfl rfl ?_
  refine ev_iadd dX11_type_20 ?_
  refine ev_sipush (v := 400) dX11_type_21 cns_400 ?_
  refine ev_icmp_le (tgt := 30) dX11_type_24 (by decide) (fun h24 => False.elim (Int32.not_lt.mpr h24 (by rw [nI_add]; exact nI_lt (a := 400) (b := tn + q) hn (by omega)))) (fun h24 => ?_)
  refine ev_bipush (v := (-3)) dX11_type_27 cnb_m3 ?_
  exact ev_reti dX11_type_29 rfl rfl (⟨by first | rfl | simp [*], rfl⟩)
theorem c12_type_k {G : ev_G} {n : Nat} {M : ev_M} {g g' : Nat} {lot : Int32} (h20 : M 21 = .inr (11, [.ref 22, .ref 25, .ref 27, .ref 35, .ref 39, .ref 40, .ref 41, .ref 63, .ref g, .ref g', .int lot])) {v : Int64} {k : Int32} (hk : sp_in k 1 8 = false) : ev_Cal G mX11_type 2 0 0 [.ref 21, .long v, .int k] n M (ev_is (some (.int (-1))) M) := by
  refine ev_Cal_of (L := [some (.ref 21), some (.long v), none, some (.int k), none]) (by decide +kernel) (Nat.le_of_ble_eq_true rfl) rfl ?_
  refine ev_iload_n (i := 3) dX11_type_0 rfl rfl ?_
  refine ev_iconst (v := 1) dX11_type_1 cni_1 ?_
  refine ev_bipush (v := 8) dX11_type_2 cnb_8 ?_
  refine ev_c3 kX11_type_4 (c12_within) trivial (by decide) (by decide) (Nat.le_of_ble_eq_true rfl) ?_
  refine ev_if_neb (tgt := 12) dX11_type_7 (by decide) (fun h7 => False.elim (Bool.false_ne_true ((hk).symm.trans h7))) (fun h7 => ?_)
  refine ev_iconst (v := (-1)) dX11_type_10 cni_m1 ?_
  exact ev_reti dX11_type_11 rfl rfl (⟨by first | rfl | simp [*], rfl⟩)
