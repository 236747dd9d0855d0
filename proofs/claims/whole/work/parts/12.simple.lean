/-! ===== contracts: Text, Gear, simple calls of the class ===== -/
theorem c10_at_in {G : ev_G} {n : Nat} {M : ev_M} {tn : Nat} {pl : Int32} {tb : Nat → Int32} (hT2 : M 22 = .inr (7, [.ref 23, .ref 24, .int (pl), .int (nI tn)])) (hTb : M 23 = .inl (0, 400, .inl tb)) {j : Nat} (hj : j < tn) (hn : tn ≤ 400) : ev_Cal G mX7_byteAt 1 0 0 [.ref 22, .int (nI j)] n M (ev_is (some (.int (tb j))) M) := by
  refine ev_Cal_of (L := [some (.ref 22), some (.int (nI j))]) (by decide +kernel) (Nat.le_of_ble_eq_true rfl) rfl ?_
  refine ev_iload_n (i := 1) dX7_byteAt_0 rfl rfl ?_
  refine ev_if_lt (tgt := 21) dX7_byteAt_1 (by decide) (fun h1 => False.elim (nI_pos (by omega) h1)) (fun h1 => ?_)
  refine ev_iload_n (i := 1) dX7_byteAt_4 rfl rfl ?_
  refine ev_aload_n (i := 0) dX7_byteAt_5 rfl rfl ?_
  refine ev_getf dX7_byteAt_6 flX7_18 (by first | assumption | rfl) (by rfl) ?_
  refine ev_icmp_ge (tgt := 21) dX7_byteAt_9 (by decide) (fun h9 => False.elim (nI_ge hj (by omega) h9)) (fun h9 => ?_)
  refine ev_aload_n (i := 0) dX7_byteAt_12 rfl rfl ?_
  refine ev_getf dX7_byteAt_13 flX7_9 (by first | assumption | rfl) (by rfl) ?_
  refine ev_iload_n (i := 1) dX7_byteAt_16 rfl rfl ?_
  refine ev_iald (j := j) dX7_byteAt_17 (by first | assumption | rfl) (ev_ix_nI (by omega)) (by omega) ?_
  refine ev_goto (tgt := 22) dX7_byteAt_18 (by decide) ?_
  exact ev_reti dX7_byteAt_22 rfl rfl (⟨by first | rfl | simp [*], rfl⟩)
theorem c10_at_out {G : ev_G} {n : Nat} {M : ev_M} {tn : Nat} {pl : Int32} {tb : Nat → Int32} (hT2 : M 22 = .inr (7, [.ref 23, .ref 24, .int (pl), .int (nI tn)])) (hTb : M 23 = .inl (0, 400, .inl tb)) {x : Int32} (hx : x < 0 ∨ nI tn ≤ x) : ev_Cal G mX7_byteAt 1 0 0 [.ref 22, .int x] n M (ev_is (some (.int (-1))) M) := by
  refine ev_Cal_of (L := [some (.ref 22), some (.int x)]) (by decide +kernel) (Nat.le_of_ble_eq_true rfl) rfl ?_
  refine ev_iload_n (i := 1) dX7_byteAt_0 rfl rfl ?_
  refine ev_if_lt (tgt := 21) dX7_byteAt_1 (by decide) (fun h1 => ?_) (fun h1 => ?_)
  · skip
    refine ev_iconst (v := (-1)) dX7_byteAt_21 cni_m1 ?_
    exact ev_reti dX7_byteAt_22 rfl rfl (⟨by first | rfl | simp [*], rfl⟩)
  · skip
    refine ev_iload_n (i := 1) dX7_byteAt_4 rfl rfl ?_
    refine ev_aload_n (i := 0) dX7_byteAt_5 rfl rfl ?_
    refine ev_getf dX7_byteAt_6 flX7_18 (by first | assumption | rfl) (by rfl) ?_
    refine ev_icmp_ge (tgt := 21) dX7_byteAt_9 (by decide) (fun h9 => ?_) (fun h9 => False.elim (hx.elim (fun q => Int32.not_lt.mpr h1 q) (fun q => Int32.not_lt.mpr q h9)))
    refine ev_iconst (v := (-1)) dX7_byteAt_21 cni_m1 ?_
    exact ev_reti dX7_byteAt_22 rfl rfl (⟨by first | rfl | simp [*], rfl⟩)
theorem c10_empty {G : ev_G} {n : Nat} {M : ev_M} {x pl : Int32} (hT2 : M 22 = .inr (7, [.ref 23, .ref 24, .int (pl), .int (x)])) : ev_Cal G mX7_empty 1 0 0 [.ref 22] n M (ev_is (some (.int x)) (ev_set M 22 (.inr (7, [.ref 23, .ref 24, .int (pl), .int (0)])))) := by
  refine ev_Cal_of (L := [some (.ref 22), none]) (by decide +kernel) (Nat.le_of_ble_eq_true rfl) rfl ?_
  refine ev_aload_n (i := 0) dX7_empty_0 rfl rfl ?_
  refine ev_getf dX7_empty_1 flX7_18 (by first | assumption | rfl) (by rfl) ?_
  refine ev_istore_n (i := 1) dX7_empty_4 rfl (Nat.le_of_ble_eq_true rfl) rfl ?_
  refine ev_aload_n (i := 0) dX7_empty_5 rfl rfl ?_
  refine ev_iconst (v := 0) dX7_empty_6 cni_0 ?_
  refine ev_puti dX7_empty_7 fpX7_18 (by first | assumption | rfl) (by exact Nat.le_of_ble_eq_true rfl) ?_
  refine ev_iload_n (i := 1) dX7_empty_10 rfl rfl ?_
  exact ev_reti dX7_empty_11 rfl rfl (⟨by first | rfl | simp [*], rfl⟩)
theorem c10_add {G : ev_G} {n : Nat} {M : ev_M} {tn : Nat} {pl : Int32} {tb : Nat → Int32} (hT2 : M 22 = .inr (7, [.ref 23, .ref 24, .int (pl), .int (nI tn)])) (hTb : M 23 = .inl (0, 400, .inl tb)) {x : Int32} (hn : tn < 400) : ev_Cal G mX7_add 1 0 0 [.ref 22, .int x] n M (ev_is none (ev_ml M [(22, .inr (7, [.ref 23, .ref 24, .int (pl), .int (nI (tn + 1))])), (23, .inl (0, 400, .inl (upd tb tn x)))])) := by
  refine ev_Cal_of (L := [some (.ref 22), some (.int x)]) (by decide +kernel) (Nat.le_of_ble_eq_true rfl) rfl ?_
  refine ev_track (l := [(22, .inr (7, [.ref 23, .ref 24, .int (pl), .int (nI tn)])), (23, .inl (0, 400, .inl tb))]) (ev_fa1 hT2 (ev_fa1 hTb ev_fa0)) ?_
  refine ev_aload_n (i := 0) dX7_add_0 rfl rfl ?_
  refine ev_getf dX7_add_1 flX7_18 (by first | assumption | rfl) (by rfl) ?_
  refine ev_aload_n (i := 0) dX7_add_4 rfl rfl ?_
  refine ev_getf dX7_add_5 flX7_9 (by first | assumption | rfl) (by rfl) ?_
  refine ev_alen (v := 400) dX7_add_8 (fun _ => rfl) (by first | assumption | rfl) (by rfl) ?_
  refine ev_icmp_lt (tgt := 13) dX7_add_9 (by decide) (fun h9 => ?_) (fun h9 => False.elim (nI_ge (a := tn) (b := 400) hn (by decide) h9))
  refine ev_aload_n (i := 0) dX7_add_13 rfl rfl ?_
  refine ev_getf dX7_add_14 flX7_9 (by first | assumption | rfl) (by rfl) ?_
  refine ev_aload_n (i := 0) dX7_add_17 rfl rfl ?_
  refine ev_getf dX7_add_18 flX7_18 (by first | assumption | rfl) (by rfl) ?_
  refine ev_iload_n (i := 1) dX7_add_21 rfl rfl ?_
  refine ev_iastP 1 (j := tn) dX7_add_22 (by rfl) (by rfl) (ev_ix_nI (by omega)) (hn) (by rfl) (by rfl) ?_
  refine ev_aload_n (i := 0) dX7_add_23 rfl rfl ?_
  refine ev_dup dX7_add_24 rfl ?_
  refine ev_getf dX7_add_25 flX7_18 (by first | assumption | rfl) (by rfl) ?_
  refine ev_iconst (v := 1) dX7_add_28 cni_1 ?_
  refine ev_iadd dX7_add_29 ?_
  refine ev_topi (nI_1 tn) ?_
  refine ev_putiP 0 dX7_add_30 fpX7_18 (by rfl) (by rfl) (Nat.le_of_ble_eq_true rfl) (by rfl) (by rfl) ?_
  exact ev_retv dX7_add_33 rfl (⟨rfl, rfl⟩)
theorem c3_stickAt_in {G : ev_G} {n : Nat} {M : ev_M} {g c0 c1 c2 : Nat} (hG : M g = .inr (3, [.ref (g + 1), .ref (g + 2), .ref (g + 3), .int (nI c0), .int (nI c1), .int (nI c2)])) {fa : Nat → Option Nat} (hA : M (g + 1) = .inl (2, 12, ev_q fa)) (hfa : ∀ i, i < 12 → fa i = some (g + 4 + i)) {j : Nat} (hj : j < c0) (hc : c0 ≤ 12) : ev_Cal G mX3_stickAt 1 0 0 [.ref g, .int (nI j)] n M (ev_is (some (.ref (g + 4 + j))) M) := by
  refine ev_Cal_of (L := [some (.ref g), some (.int (nI j))]) (by decide +kernel) (Nat.le_of_ble_eq_true rfl) rfl ?_
  refine ev_iload_n (i := 1) dX3_stickAt_0 rfl rfl ?_
  refine ev_if_lt (tgt := 21) dX3_stickAt_1 (by decide) (fun h1 => False.elim (nI_pos (by omega) h1)) (fun h1 => ?_)
  refine ev_iload_n (i := 1) dX3_stickAt_4 rfl rfl ?_
  refine ev_aload_n (i := 0) dX3_stickAt_5 rfl rfl ?_
  refine ev_getf dX3_stickAt_6 flX3_32 (by first | assumption | rfl) (by rfl) ?_
  refine ev_icmp_ge (tgt := 21) dX3_stickAt_9 (by decide) (fun h9 => False.elim (nI_ge hj (by omega) h9)) (fun h9 => ?_)
  refine ev_aload_n (i := 0) dX3_stickAt_12 rfl rfl ?_
  refine ev_getf dX3_stickAt_13 flX3_11 (by first | assumption | rfl) (by rfl) ?_
  refine ev_iload_n (i := 1) dX3_stickAt_16 rfl rfl ?_
  refine ev_aald (j := j) dX3_stickAt_17 (fun _ => rfl) (by first | assumption | rfl) (ev_ix_nI (by omega)) (by omega) (hfa j (by omega)) ?_
  refine ev_goto (tgt := 22) dX3_stickAt_18 (by decide) ?_
  exact ev_reta dX3_stickAt_22 rfl (⟨rfl, rfl⟩)
theorem c3_stickAt_out {G : ev_G} {n : Nat} {M : ev_M} {g c0 c1 c2 : Nat} (hG : M g = .inr (3, [.ref (g + 1), .ref (g + 2), .ref (g + 3), .int (nI c0), .int (nI c1), .int (nI c2)])) {x : Int32} (hx : x < 0 ∨ nI c0 ≤ x) : ev_Cal G mX3_stickAt 1 0 0 [.ref g, .int x] n M (ev_is (some (.null)) M) := by
  refine ev_Cal_of (L := [some (.ref g), some (.int x)]) (by decide +kernel) (Nat.le_of_ble_eq_true rfl) rfl ?_
  refine ev_iload_n (i := 1) dX3_stickAt_0 rfl rfl ?_
  refine ev_if_lt (tgt := 21) dX3_stickAt_1 (by decide) (fun h1 => ?_) (fun h1 => ?_)
  · skip
    refine ev_null dX3_stickAt_21 ?_
    exact ev_retN dX3_stickAt_22 rfl (⟨rfl, rfl⟩)
  · skip
    refine ev_iload_n (i := 1) dX3_stickAt_4 rfl rfl ?_
    refine ev_aload_n (i := 0) dX3_stickAt_5 rfl rfl ?_
    refine ev_getf dX3_stickAt_6 flX3_32 (by first | assumption | rfl) (by rfl) ?_
    refine ev_icmp_ge (tgt := 21) dX3_stickAt_9 (by decide) (fun h9 => ?_) (fun h9 => False.elim (hx.elim (fun q => Int32.not_lt.mpr h1 q) (fun q => Int32.not_lt.mpr q h9)))
    refine ev_null dX3_stickAt_21 ?_
    exact ev_retN dX3_stickAt_22 rfl (⟨rfl, rfl⟩)
theorem c3_bowAt_in {G : ev_G} {n : Nat} {M : ev_M} {g c0 c1 c2 : Nat} (hG : M g = .inr (3, [.ref (g + 1), .ref (g + 2), .ref (g + 3), .int (nI c0), .int (nI c1), .int (nI c2)])) {fb : Nat → Option Nat} (hB : M (g + 2) = .inl (3, 3, ev_q fb)) (hfb : ∀ i, i < 3 → fb i = some (g + 16 + i)) {j : Nat} (hj : j < c1) (hc : c1 ≤ 3) : ev_Cal G mX3_bowAt 1 0 0 [.ref g, .int (nI j)] n M (ev_is (some (.ref (g + 16 + j))) M) := by
  refine ev_Cal_of (L := [some (.ref g), some (.int (nI j))]) (by decide +kernel) (Nat.le_of_ble_eq_true rfl) rfl ?_
  refine ev_iload_n (i := 1) dX3_bowAt_0 rfl rfl ?_
  refine ev_if_lt (tgt := 21) dX3_bowAt_1 (by decide) (fun h1 => False.elim (nI_pos (by omega) h1)) (fun h1 => ?_)
  refine ev_iload_n (i := 1) dX3_bowAt_4 rfl rfl ?_
  refine ev_aload_n (i := 0) dX3_bowAt_5 rfl rfl ?_
  refine ev_getf dX3_bowAt_6 flX3_36 (by first | assumption | rfl) (by rfl) ?_
  refine ev_icmp_ge (tgt := 21) dX3_bowAt_9 (by decide) (fun h9 => False.elim (nI_ge hj (by omega) h9)) (fun h9 => ?_)
  refine ev_aload_n (i := 0) dX3_bowAt_12 rfl rfl ?_
  refine ev_getf dX3_bowAt_13 flX3_19 (by first | assumption | rfl) (by rfl) ?_
  refine ev_iload_n (i := 1) dX3_bowAt_16 rfl rfl ?_
  refine ev_aald (j := j) dX3_bowAt_17 (fun _ => rfl) (by first | assumption | rfl) (ev_ix_nI (by omega)) (by omega) (hfb j (by omega)) ?_
  refine ev_goto (tgt := 22) dX3_bowAt_18 (by decide) ?_
  exact ev_reta dX3_bowAt_22 rfl (⟨rfl, rfl⟩)
theorem c3_bowAt_out {G : ev_G} {n : Nat} {M : ev_M} {g c0 c1 c2 : Nat} (hG : M g = .inr (3, [.ref (g + 1), .ref (g + 2), .ref (g + 3), .int (nI c0), .int (nI c1), .int (nI c2)])) {x : Int32} (hx : x < 0 ∨ nI c1 ≤ x) : ev_Cal G mX3_bowAt 1 0 0 [.ref g, .int x] n M (ev_is (some (.null)) M) := by
  refine ev_Cal_of (L := [some (.ref g), some (.int x)]) (by decide +kernel) (Nat.le_of_ble_eq_true rfl) rfl ?_
  refine ev_iload_n (i := 1) dX3_bowAt_0 rfl rfl ?_
  refine ev_if_lt (tgt := 21) dX3_bowAt_1 (by decide) (fun h1 => ?_) (fun h1 => ?_)
  · skip
    refine ev_null dX3_bowAt_21 ?_
    exact ev_retN dX3_bowAt_22 rfl (⟨rfl, rfl⟩)
  · skip
    refine ev_iload_n (i := 1) dX3_bowAt_4 rfl rfl ?_
    refine ev_aload_n (i := 0) dX3_bowAt_5 rfl rfl ?_
    refine ev_getf dX3_bowAt_6 flX3_36 (by first | assumption | rfl) (by rfl) ?_
    refine ev_icmp_ge (tgt := 21) dX3_bowAt_9 (by decide) (fun h9 => ?_) (fun h9 => False.elim (hx.elim (fun q => Int32.not_lt.mpr h1 q) (fun q => Int32.not_lt.mpr q h9)))
    refine ev_null dX3_bowAt_21 ?_
    exact ev_retN dX3_bowAt_22 rfl (⟨rfl, rfl⟩)
theorem c3_archerAt_in {G : ev_G} {n : Nat} {M : ev_M} {g c0 c1 c2 : Nat} (hG : M g = .inr (3, [.ref (g + 1), .ref (g + 2), .ref (g + 3), .int (nI c0), .int (nI c1), .int (nI c2)])) {fc : Nat → Option Nat} (hC : M (g + 3) = .inl (4, 3, ev_q fc)) (hfc : ∀ i, i < 3 → fc i = some (g + 19 + i)) {j : Nat} (hj : j < c2) (hc : c2 ≤ 3) : ev_Cal G mX3_archerAt 1 0 0 [.ref g, .int (nI j)] n M (ev_is (some (.ref (g + 19 + j))) M) := by
  refine ev_Cal_of (L := [some (.ref g), some (.int (nI j))]) (by decide +kernel) (Nat.le_of_ble_eq_true rfl) rfl ?_
  refine ev_iload_n (i := 1) dX3_archerAt_0 rfl rfl ?_
  refine ev_if_lt (tgt := 21) dX3_archerAt_1 (by decide) (fun h1 => False.elim (nI_pos (by omega) h1)) (fun h1 => ?_)
  refine ev_iload_n (i := 1) dX3_archerAt_4 rfl rfl ?_
  refine ev_aload_n (i := 0) dX3_archerAt_5 rfl rfl ?_
  refine ev_getf dX3_archerAt_6 flX3_39 (by first | assumption | rfl) (by rfl) ?_
  refine ev_icmp_ge (tgt := 21) dX3_archerAt_9 (by decide) (fun h9 => False.elim (nI_ge hj (by omega) h9)) (fun h9 => ?_)
  refine ev_aload_n (i := 0) dX3_archerAt_12 rfl rfl ?_
  refine ev_getf dX3_archerAt_13 flX3_25 (by first | assumption | rfl) (by rfl) ?_
  refine ev_iload_n (i := 1) dX3_archerAt_16 rfl rfl ?_
  refine ev_aald (j := j) dX3_archerAt_17 (fun _ => rfl) (by first | assumption | rfl) (ev_ix_nI (by omega)) (by omega) (hfc j (by omega)) ?_
  refine ev_goto (tgt := 22) dX3_archerAt_18 (by decide) ?_
  exact ev_reta dX3_archerAt_22 rfl (⟨rfl, rfl⟩)
theorem c3_archerAt_out {G : ev_G} {n : Nat} {M : ev_M} {g c0 c1 c2 : Nat} (hG : M g = .inr (3, [.ref (g + 1), .ref (g + 2), .ref (g + 3), .int (nI c0), .int (nI c1), .int (nI c2)])) {x : Int32} (hx : x < 0 ∨ nI c2 ≤ x) : ev_Cal G mX3_archerAt 1 0 0 [.ref g, .int x] n M (ev_is (some (.null)) M) := by
  refine ev_Cal_of (L := [some (.ref g), some (.int x)]) (by decide +kernel) (Nat.le_of_ble_eq_true rfl) rfl ?_
  refine ev_iload_n (i := 1) dX3_archerAt_0 rfl rfl ?_
  refine ev_if_lt (tgt := 21) dX3_archerAt_1 (by decide) (fun h1 => ?_) (fun h1 => ?_)
  · skip
    refine ev_null dX3_archerAt_21 ?_
    exact ev_retN dX3_archerAt_22 rfl (⟨rfl, rfl⟩)
  · skip
    refine ev_iload_n (i := 1) dX3_archerAt_4 rfl rfl ?_
    refine ev_aload_n (i := 0) dX3_archerAt_5 rfl rfl ?_
    refine ev_getf dX3_archerAt_6 flX3_39 (by first | assumption | rfl) (by rfl) ?_
    refine ev_icmp_ge (tgt := 21) dX3_archerAt_9 (by decide) (fun h9 => ?_) (fun h9 => False.elim (hx.elim (fun q => Int32.not_lt.mpr h1 q) (fun q => Int32.not_lt.mpr q h9)))
    refine ev_null dX3_archerAt_21 ?_
    exact ev_retN dX3_archerAt_22 rfl (⟨rfl, rfl⟩)
theorem c3_addStick {G : ev_G} {n : Nat} {M : ev_M} {g c0 c1 c2 : Nat} (hG : M g = .inr (3, [.ref (g + 1), .ref (g + 2), .ref (g + 3), .int (nI c0), .int (nI c1), .int (nI c2)])) {fa : Nat → Option Nat} (hA : M (g + 1) = .inl (2, 12, ev_q fa)) (hfa : ∀ i, i < 12 → fa i = some (g + 4 + i)) (hc : c0 < 12) : ev_Cal G mX3_addStick 1 0 0 [.ref g] n M (ev_is (some (.ref (g + 4 + c0))) (ev_set M g (.inr (3, [.ref (g + 1), .ref (g + 2), .ref (g + 3), .int (nI (c0 + 1)), .int (nI c1), .int (nI c2)])))) := by
  refine ev_Cal_of (L := [some (.ref g)]) (by decide +kernel) (Nat.le_of_ble_eq_true rfl) rfl ?_
  refine ev_pre1 hG ?_
  refine ev_aload_n (i := 0) dX3_addStick_0 rfl rfl ?_
  refine ev_getf dX3_addStick_1 flX3_32 (by first | exact ev_set_eq | exact (ev_set_ne (by omega)).trans hA) (by rfl) ?_
  refine ev_aload_n (i := 0) dX3_addStick_4 rfl rfl ?_
  refine ev_getf dX3_addStick_5 flX3_11 (by first | exact ev_set_eq | exact (ev_set_ne (by omega)).trans hA) (by rfl) ?_
  refine ev_alen (v := 12) dX3_addStick_8 (fun _ => rfl) (by first | exact ev_set_eq | exact (ev_set_ne (by omega)).trans hA) (by rfl) ?_
  refine ev_icmp_lt (tgt := 14) dX3_addStick_9 (by decide) (fun h9 => ?_) (fun h9 => False.elim (nI_ge (a := c0) (b := 12) hc (by decide) h9))
  refine ev_aload_n (i := 0) dX3_addStick_14 rfl rfl ?_
  refine ev_dup dX3_addStick_15 rfl ?_
  refine ev_getf dX3_addStick_16 flX3_32 (by first | exact ev_set_eq | exact (ev_set_ne (by omega)).trans hA) (by rfl) ?_
  refine ev_iconst (v := 1) dX3_addStick_19 cni_1 ?_
  refine ev_iadd dX3_addStick_20 ?_
  refine ev_topi (nI_1 c0) ?_
  refine ev_putiU dX3_addStick_21 fpX3_32 (Nat.le_of_ble_eq_true rfl) ?_
  refine ev_aload_n (i := 0) dX3_addStick_24 rfl rfl ?_
  refine ev_getf dX3_addStick_25 flX3_11 (by first | exact ev_set_eq | exact (ev_set_ne (by omega)).trans hA) (by rfl) ?_
  refine ev_aload_n (i := 0) dX3_addStick_28 rfl rfl ?_
  refine ev_getf dX3_addStick_29 flX3_32 (by first | exact ev_set_eq | exact (ev_set_ne (by omega)).trans hA) (by rfl) ?_
  refine ev_iconst (v := 1) dX3_addStick_32 cni_1 ?_
  refine ev_isub dX3_addStick_33 ?_
  refine ev_topi (nI_pred c0) ?_
  refine ev_aald (j := c0) dX3_addStick_34 (fun _ => rfl) (by first | exact ev_set_eq | exact (ev_set_ne (by omega)).trans hA) (ev_ix_nI (by omega)) (hc) (hfa c0 hc) ?_
  exact ev_reta dX3_addStick_35 rfl (⟨rfl, rfl⟩)
theorem c3_addBow {G : ev_G} {n : Nat} {M : ev_M} {g c0 c1 c2 : Nat} (hG : M g = .inr (3, [.ref (g + 1), .ref (g + 2), .ref (g + 3), .int (nI c0), .int (nI c1), .int (nI c2)])) {fb : Nat → Option Nat} (hB : M (g + 2) = .inl (3, 3, ev_q fb)) (hfb : ∀ i, i < 3 → fb i = some (g + 16 + i)) (hc : c1 < 3) : ev_Cal G mX3_addBow 1 0 0 [.ref g] n M (ev_is (some (.ref (g + 16 + c1))) (ev_set M g (.inr (3, [.ref (g + 1), .ref (g + 2), .ref (g + 3), .int (nI c0), .int (nI (c1 + 1)), .int (nI c2)])))) := by
  refine ev_Cal_of (L := [some (.ref g)]) (by decide +kernel) (Nat.le_of_ble_eq_true rfl) rfl ?_
  refine ev_pre1 hG ?_
  refine ev_aload_n (i := 0) dX3_addBow_0 rfl rfl ?_
  refine ev_getf dX3_addBow_1 flX3_36 (by first | exact ev_set_eq | exact (ev_set_ne (by omega)).trans hB) (by rfl) ?_
  refine ev_aload_n (i := 0) dX3_addBow_4 rfl rfl ?_
  refine ev_getf dX3_addBow_5 flX3_19 (by first | exact ev_set_eq | exact (ev_set_ne (by omega)).trans hB) (by rfl) ?_
  refine ev_alen (v := 3) dX3_addBow_8 (fun _ => rfl) (by first | exact ev_set_eq | exact (ev_set_ne (by omega)).trans hB) (by rfl) ?_
  refine ev_icmp_lt (tgt := 14) dX3_addBow_9 (by decide) (fun h9 => ?_) (fun h9 => False.elim (nI_ge (a := c1) (b := 3) hc (by decide) h9))
  refine ev_aload_n (i := 0) dX3_addBow_14 rfl rfl ?_
  refine ev_dup dX3_addBow_15 rfl ?_
  refine ev_getf dX3_addBow_16 flX3_36 (by first | exact ev_set_eq | exact (ev_set_ne (by omega)).trans hB) (by rfl) ?_
  refine ev_iconst (v := 1) dX3_addBow_19 cni_1 ?_
  refine ev_iadd dX3_addBow_20 ?_
  refine ev_topi (nI_1 c1) ?_
  refine ev_putiU dX3_addBow_21 fpX3_36 (Nat.le_of_ble_eq_true rfl) ?_
  refine ev_aload_n (i := 0) dX3_addBow_24 rfl rfl ?_
  refine ev_getf dX3_addBow_25 flX3_19 (by first | exact ev_set_eq | exact (ev_set_ne (by omega)).trans hB) (by rfl) ?_
  refine ev_aload_n (i := 0) dX3_addBow_28 rfl rfl ?_
  refine ev_getf dX3_addBow_29 flX3_36 (by first | exact ev_set_eq | exact (ev_set_ne (by omega)).trans hB) (by rfl) ?_
  refine ev_iconst (v := 1) dX3_addBow_32 cni_1 ?_
  refine ev_isub dX3_addBow_33 ?_
  refine ev_topi (nI_pred c1) ?_
  refine ev_aald (j := c1) dX3_addBow_34 (fun _ => rfl) (by first | exact ev_set_eq | exact (ev_set_ne (by omega)).trans hB) (ev_ix_nI (by omega)) (hc) (hfb c1 hc) ?_
  exact ev_reta dX3_addBow_35 rfl (⟨rfl, rfl⟩)
theorem c3_addArcher {G : ev_G} {n : Nat} {M : ev_M} {g c0 c1 c2 : Nat} (hG : M g = .inr (3, [.ref (g + 1), .ref (g + 2), .ref (g + 3), .int (nI c0), .int (nI c1), .int (nI c2)])) {fc : Nat → Option Nat} (hC : M (g + 3) = .inl (4, 3, ev_q fc)) (hfc : ∀ i, i < 3 → fc i = some (g + 19 + i)) (hc : c2 < 3) : ev_Cal G mX3_addArcher 1 0 0 [.ref g] n M (ev_is (some (.ref (g + 19 + c2))) (ev_set M g (.inr (3, [.ref (g + 1), .ref (g + 2), .ref (g + 3), .int (nI c0), .int (nI c1), .int (nI (c2 + 1))])))) := by
  refine ev_Cal_of (L := [some (.ref g)]) (by decide +kernel) (Nat.le_of_ble_eq_true rfl) rfl ?_
  refine ev_pre1 hG ?_
  refine ev_aload_n (i := 0) dX3_addArcher_0 rfl rfl ?_
  refine ev_getf dX3_addArcher_1 flX3_39 (by first | exact ev_set_eq | exact (ev_set_ne (by omega)).trans hC) (by rfl) ?_
  refine ev_aload_n (i := 0) dX3_addArcher_4 rfl rfl ?_
  refine ev_getf dX3_addArcher_5 flX3_25 (by first | exact ev_set_eq | exact (ev_set_ne (by omega)).trans hC) (by rfl) ?_
  refine ev_alen (v := 3) dX3_addArcher_8 (fun _ => rfl) (by first | exact ev_set_eq | exact (ev_set_ne (by omega)).trans hC) (by rfl) ?_
  refine ev_icmp_lt (tgt := 14) dX3_addArcher_9 (by decide) (fun h9 => ?_) (fun h9 => False.elim (nI_ge (a := c2) (b := 3) hc (by decide) h9))
  refine ev_aload_n (i := 0) dX3_addArcher_14 rfl rfl ?_
  refine ev_dup dX3_addArcher_15 rfl ?_
  refine ev_getf dX3_addArcher_16 flX3_39 (by first | exact ev_set_eq | exact (ev_set_ne (by omega)).trans hC) (by rfl) ?_
  refine ev_iconst (v := 1) dX3_addArcher_19 cni_1 ?_
  refine ev_iadd dX3_addArcher_20 ?_
  refine ev_topi (nI_1 c2) ?_
  refine ev_putiU dX3_addArcher_21 fpX3_39 (Nat.le_of_ble_eq_true rfl) ?_
  refine ev_aload_n (i := 0) dX3_addArcher_24 rfl rfl ?_
  refine ev_getf dX3_addArcher_25 flX3_25 (by first | exact ev_set_eq | exact (ev_set_ne (by omega)).trans hC) (by rfl) ?_
  refine ev_aload_n (i := 0) dX3_addArcher_28 rfl rfl ?_
  refine ev_getf dX3_addArcher_29 flX3_39 (by first | exact ev_set_eq | exact (ev_set_ne (by omega)).trans hC) (by rfl) ?_
  refine ev_iconst (v := 1) dX3_addArcher_32 cni_1 ?_
  refine ev_isub dX3_addArcher_33 ?_
  refine ev_topi (nI_pred c2) ?_
  refine ev_aald (j := c2) dX3_addArcher_34 (fun _ => rfl) (by first | exact ev_set_eq | exact (ev_set_ne (by omega)).trans hC) (ev_ix_nI (by omega)) (hc) (hfc c2 hc) ?_
  exact ev_reta dX3_addArcher_35 rfl (⟨rfl, rfl⟩)
theorem c3_empty {G : ev_G} {n : Nat} {M : ev_M} {g c0 c1 c2 : Nat} (hG : M g = .inr (3, [.ref (g + 1), .ref (g + 2), .ref (g + 3), .int (nI c0), .int (nI c1), .int (nI c2)]))  : ev_Cal G mX3_empty 1 0 0 [.ref g] n M (ev_is none (ev_set M g (.inr (3, [.ref (g + 1), .ref (g + 2), .ref (g + 3), .int (0), .int (0), .int (0)])))) := by
  refine ev_Cal_of (L := [some (.ref g)]) (by decide +kernel) (Nat.le_of_ble_eq_true rfl) rfl ?_
  refine ev_pre1 hG ?_
  refine ev_aload_n (i := 0) dX3_empty_0 rfl rfl ?_
  refine ev_iconst (v := 0) dX3_empty_1 cni_0 ?_
  refine ev_putiU dX3_empty_2 fpX3_32 (Nat.le_of_ble_eq_true rfl) ?_
  refine ev_aload_n (i := 0) dX3_empty_5 rfl rfl ?_
  refine ev_iconst (v := 0) dX3_empty_6 cni_0 ?_
  refine ev_putiU dX3_empty_7 fpX3_36 (Nat.le_of_ble_eq_true rfl) ?_
  refine ev_aload_n (i := 0) dX3_empty_10 rfl rfl ?_
  refine ev_iconst (v := 0) dX3_empty_11 cni_0 ?_
  refine ev_putiU dX3_empty_12 fpX3_39 (Nat.le_of_ble_eq_true rfl) ?_
  exact ev_retv dX3_empty_15 rfl (⟨rfl, rfl⟩)
theorem c12_stick_0 {G : ev_G} {n : Nat} {M : ev_M} {g g' c0 c1 c2 : Nat} {lot : Int32} (h20 : M 21 = .inr (11, [.ref 22, .ref 25, .ref 27, .ref 35, .ref 39, .ref 40, .ref 41, .ref 63, .ref g, .ref g', .int lot])) (hG : M g = .inr (3, [.ref (g + 1), .ref (g + 2), .ref (g + 3), .int (nI c0), .int (nI c1), .int (nI c2)])) {fa : Nat → Option Nat} (hA : M (g + 1) = .inl (2, 12, ev_q fa)) (hfa : ∀ i, i < 12 → fa i = some (g + 4 + i)) {j : Nat} (hj : j < c0) (hc : c0 ≤ 12) {s : Nat → Int32} (hS : M (g + 4 + j) = .inr (9, [.int (s 0), .int (s 1), .int (s 2), .int (s 3), .int (s 4), .int (s 5), .int (s 6)]))  : ev_Cal G mX11_stick 2 0 0 [.ref 21, .int (nI j), .int 0] n M (ev_is (some (.int (s 0))) M) := by
  refine ev_Cal_of (L := [some (.ref 21), some (.int (nI j)), some (.int 0), none]) (by decide +kernel) (Nat.le_of_ble_eq_true rfl) rfl ?_
  refine ev_aload_n (i := 0) dX11_stick_0 rfl rfl ?_
  refine ev_getf dX11_stick_1 flX11_64 (by first | assumption | rfl) (by rfl) ?_
  refine ev_iload_n (i := 1) dX11_stick_4 rfl rfl ?_
  refine ev_c2 kX11_stick_5 (c3_stickAt_in hG hA hfa hj hc) (ev_rv_of (by first | assumption | rfl) rfl rfl) (by decide) (by decide) (Nat.le_of_ble_eq_true rfl) ?_
  refine ev_astore_n (i := 3) dX11_stick_8 rfl (Nat.le_of_ble_eq_true rfl) rfl ?_
  refine ev_aload_n (i := 3) dX11_stick_9 rfl rfl ?_
  refine ev_ifnonnull (tgt := 15) dX11_stick_10 (by decide) ?_
  refine ev_iload_n (i := 2) dX11_stick_15 rfl rfl ?_
  refine ev_tsin (off := 44) (tgt := 60) dX11_stick_16 (by decide) (by decide) (by rfl) (by decide) ?_
  refine ev_aload_n (i := 3) dX11_stick_60 rfl rfl ?_
  refine ev_getf dX11_stick_61 flX11_103 (by first | assumption | rfl) (by rfl) ?_
  exact ev_reti dX11_stick_64 rfl rfl (⟨by first | rfl | simp [*], rfl⟩)
theorem c12_stick_1 {G : ev_G} {n : Nat} {M : ev_M} {g g' c0 c1 c2 : Nat} {lot : Int32} (h20 : M 21 = .inr (11, [.ref 22, .ref 25, .ref 27, .ref 35, .ref 39, .ref 40, .ref 41, .ref 63, .ref g, .ref g', .int lot])) (hG : M g = .inr (3, [.ref (g + 1), .ref (g + 2), .ref (g + 3), .int (nI c0), .int (nI c1), .int (nI c2)])) {fa : Nat → Option Nat} (hA : M (g + 1) = .inl (2, 12, ev_q fa)) (hfa : ∀ i, i < 12 → fa i = some (g + 4 + i)) {j : Nat} (hj : j < c0) (hc : c0 ≤ 12) {s : Nat → Int32} (hS : M (g + 4 + j) = .inr (9, [.int (s 0), .int (s 1), .int (s 2), .int (s 3), .int (s 4), .int (s 5), .int (s 6)]))  : ev_Cal G mX11_stick 2 0 0 [.ref 21, .int (nI j), .int 1] n M (ev_is (some (.int (s 1))) M) := by
  refine ev_Cal_of (L := [some (.ref 21), some (.int (nI j)), some (.int 1), none]) (by decide +kernel) (Nat.le_of_ble_eq_true rfl) rfl ?_
  refine ev_aload_n (i := 0) dX11_stick_0 rfl rfl ?_
  refine ev_getf dX11_stick_1 flX11_64 (by first | assumption | rfl) (by rfl) ?_
  refine ev_iload_n (i := 1) dX11_stick_4 rfl rfl ?_
  refine ev_c2 kX11_stick_5 (c3_stickAt_in hG hA hfa hj hc) (ev_rv_of (by first | assumption | rfl) rfl rfl) (by decide) (by decide) (Nat.le_of_ble_eq_true rfl) ?_
  refine ev_astore_n (i := 3) dX11_stick_8 rfl (Nat.le_of_ble_eq_true rfl) rfl ?_
  refine ev_aload_n (i := 3) dX11_stick_9 rfl rfl ?_
  refine ev_ifnonnull (tgt := 15) dX11_stick_10 (by decide) ?_
  refine ev_iload_n (i := 2) dX11_stick_15 rfl rfl ?_
  refine ev_tsin (off := 49) (tgt := 65) dX11_stick_16 (by decide) (by decide) (by rfl) (by decide) ?_
  refine ev_aload_n (i := 3) dX11_stick_65 rfl rfl ?_
  refine ev_getf dX11_stick_66 flX11_108 (by first | assumption | rfl) (by rfl) ?_
  exact ev_reti dX11_stick_69 rfl rfl (⟨by first | rfl | simp [*], rfl⟩)
theorem c12_stick_2 {G : ev_G} {n : Nat} {M : ev_M} {g g' c0 c1 c2 : Nat} {lot : Int32} (h20 : M 21 = .inr (11, [.ref 22, .ref 25, .ref 27, .ref 35, .ref 39, .ref 40, .ref 41, .ref 63, .ref g, .ref g', .int lot])) (hG : M g = .inr (3, [.ref (g + 1), .ref (g + 2), .ref (g + 3), .int (nI c0), .int (nI c1), .int (nI c2)])) {fa : Nat → Option Nat} (hA : M (g + 1) = .inl (2, 12, ev_q fa)) (hfa : ∀ i, i < 12 → fa i = some (g + 4 + i)) {j : Nat} (hj : j < c0) (hc : c0 ≤ 12) {s : Nat → Int32} (hS : M (g + 4 + j) = .inr (9, [.int (s 0), .int (s 1), .int (s 2), .int (s 3), .int (s 4), .int (s 5), .int (s 6)]))  : ev_Cal G mX11_stick 2 0 0 [.ref 21, .int (nI j), .int 2] n M (ev_is (some (.int (s 2))) M) := by
  refine ev_Cal_of (L := [some (.ref 21), some (.int (nI j)), some (.int 2), none]) (by decide +kernel) (Nat.le_of_ble_eq_true rfl) rfl ?_
  refine ev_aload_n (i := 0) dX11_stick_0 rfl rfl ?_
  refine ev_getf dX11_stick_1 flX11_64 (by first | assumption | rfl) (by rfl) ?_
  refine ev_iload_n (i := 1) dX11_stick_4 rfl rfl ?_
  refine ev_c2 kX11_stick_5 (c3_stickAt_in hG hA hfa hj hc) (ev_rv_of (by first | assumption | rfl) rfl rfl) (by decide) (by decide) (Nat.le_of_ble_eq_true rfl) ?_
  refine ev_astore_n (i := 3) dX11_stick_8 rfl (Nat.le_of_ble_eq_true rfl) rfl ?_
  refine ev_aload_n (i := 3) dX11_stick_9 rfl rfl ?_
  refine ev_ifnonnull (tgt := 15) dX11_stick_10 (by decide) ?_
  refine ev_iload_n (i := 2) dX11_stick_15 rfl rfl ?_
  refine ev_tsin (off := 54) (tgt := 70) dX11_stick_16 (by decide) (by decide) (by rfl) (by decide) ?_
  refine ev_aload_n (i := 3) dX11_stick_70 rfl rfl ?_
  refine ev_getf dX11_stick_71 flX11_111 (by first | assumption | rfl) (by rfl) ?_
  exact ev_reti dX11_stick_74 rfl rfl (⟨by first | rfl | simp [*], rfl⟩)
theorem c12_stick_3 {G : ev_G} {n : Nat} {M : ev_M} {g g' c0 c1 c2 : Nat} {lot : Int32} (h20 : M 21 = .inr (11, [.ref 22, .ref 25, .ref 27, .ref 35, .ref 39, .ref 40, .ref 41, .ref 63, .ref g, .ref g', .int lot])) (hG : M g = .inr (3, [.ref (g + 1), .ref (g + 2), .ref (g + 3), .int (nI c0), .int (nI c1), .int (nI c2)])) {fa : Nat → Option Nat} (hA : M (g + 1) = .inl (2, 12, ev_q fa)) (hfa : ∀ i, i < 12 → fa i = some (g + 4 + i)) {j : Nat} (hj : j < c0) (hc : c0 ≤ 12) {s : Nat → Int32} (hS : M (g + 4 + j) = .inr (9, [.int (s 0), .int (s 1), .int (s 2), .int (s 3), .int (s 4), .int (s 5), .int (s 6)]))  : ev_Cal G mX11_stick 2 0 0 [.ref 21, .int (nI j), .int 3] n M (ev_is (some (.int (s 3))) M) := by
  refine ev_Cal_of (L := [some (.ref 21), some (.int (nI j)), some (.int 3), none]) (by decide +kernel) (Nat.le_of_ble_eq_true rfl) rfl ?_
  refine ev_aload_n (i := 0) dX11_stick_0 rfl rfl ?_
  refine ev_getf dX11_stick_1 flX11_64 (by first | assumption | rfl) (by rfl) ?_
  refine ev_iload_n (i := 1) dX11_stick_4 rfl rfl ?_
  refine ev_c2 kX11_stick_5 (c3_stickAt_in hG hA hfa hj hc) (ev_rv_of (by first | assumption | rfl) rfl rfl) (by decide) (by decide) (Nat.le_of_ble_eq_true rfl) ?_
  refine ev_astore_n (i := 3) dX11_stick_8 rfl (Nat.le_of_ble_eq_true rfl) rfl ?_
  refine ev_aload_n (i := 3) dX11_stick_9 rfl rfl ?_
  refine ev_ifnonnull (tgt := 15) dX11_stick_10 (by decide) ?_
  refine ev_iload_n (i := 2) dX11_stick_15 rfl rfl ?_
  refine ev_tsin (off := 59) (tgt := 75) dX11_stick_16 (by decide) (by decide) (by rfl) (by decide) ?_
  refine ev_aload_n (i := 3) dX11_stick_75 rfl rfl ?_
  refine ev_getf dX11_stick_76 flX11_114 (by first | assumption | rfl) (by rfl) ?_
  exact ev_reti dX11_stick_79 rfl rfl (⟨by first | rfl | simp [*], rfl⟩)
theorem c12_stick_4 {G : ev_G} {n : Nat} {M : ev_M} {g g' c0 c1 c2 : Nat} {lot : Int32} (h20 : M 21 = .inr (11, [.ref 22, .ref 25, .ref 27, .ref 35, .ref 39, .ref 40, .ref 41, .ref 63, .ref g, .ref g', .int lot])) (hG : M g = .inr (3, [.ref (g + 1), .ref (g + 2), .ref (g + 3), .int (nI c0), .int (nI c1), .int (nI c2)])) {fa : Nat → Option Nat} (hA : M (g + 1) = .inl (2, 12, ev_q fa)) (hfa : ∀ i, i < 12 → fa i = some (g + 4 + i)) {j : Nat} (hj : j < c0) (hc : c0 ≤ 12) {s : Nat → Int32} (hS : M (g + 4 + j) = .inr (9, [.int (s 0), .int (s 1), .int (s 2), .int (s 3), .int (s 4), .int (s 5), .int (s 6)]))  : ev_Cal G mX11_stick 2 0 0 [.ref 21, .int (nI j), .int 4] n M (ev_is (some (.int (s 4))) M) := by
  refine ev_Cal_of (L := [some (.ref 21), some (.int (nI j)), some (.int 4), none]) (by decide +kernel) (Nat.le_of_ble_eq_true rfl) rfl ?_
  refine ev_aload_n (i := 0) dX11_stick_0 rfl rfl ?_
  refine ev_getf dX11_stick_1 flX11_64 (by first | assumption | rfl) (by rfl) ?_
  refine ev_iload_n (i := 1) dX11_stick_4 rfl rfl ?_
  refine ev_c2 kX11_stick_5 (c3_stickAt_in hG hA hfa hj hc) (ev_rv_of (by first | assumption | rfl) rfl rfl) (by decide) (by decide) (Nat.le_of_ble_eq_true rfl) ?_
  refine ev_astore_n (i := 3) dX11_stick_8 rfl (Nat.le_of_ble_eq_true rfl) rfl ?_
  refine ev_aload_n (i := 3) dX11_stick_9 rfl rfl ?_
  refine ev_ifnonnull (tgt := 15) dX11_stick_10 (by decide) ?_
  refine ev_iload_n (i := 2) dX11_stick_15 rfl rfl ?_
  refine ev_tsin (off := 64) (tgt := 80) dX11_stick_16 (by decide) (by decide) (by rfl) (by decide) ?_
  refine ev_aload_n (i := 3) dX11_stick_80 rfl rfl ?_
  refine ev_getf dX11_stick_81 flX11_117 (by first | assumption | rfl) (by rfl) ?_
  exact ev_reti dX11_stick_84 rfl rfl (⟨by first | rfl | simp [*], rfl⟩)
theorem c12_stick_5 {G : ev_G} {n : Nat} {M : ev_M} {g g' c0 c1 c2 : Nat} {lot : Int32} (h20 : M 21 = .inr (11, [.ref 22, .ref 25, .ref 27, .ref 35, .ref 39, .ref 40, .ref 41, .ref 63, .ref g, .ref g', .int lot])) (hG : M g = .inr (3, [.ref (g + 1), .ref (g + 2), .ref (g + 3), .int (nI c0), .int (nI c1), .int (nI c2)])) {fa : Nat → Option Nat} (hA : M (g + 1) = .inl (2, 12, ev_q fa)) (hfa : ∀ i, i < 12 → fa i = some (g + 4 + i)) {j : Nat} (hj : j < c0) (hc : c0 ≤ 12) {s : Nat → Int32} (hS : M (g + 4 + j) = .inr (9, [.int (s 0), .int (s 1), .int (s 2), .int (s 3), .int (s 4), .int (s 5), .int (s 6)]))  : ev_Cal G mX11_stick 2 0 0 [.ref 21, .int (nI j), .int 5] n M (ev_is (some (.int (s 5))) M) := by
  refine ev_Cal_of (L := [some (.ref 21), some (.int (nI j)), some (.int 5), none]) (by decide +kernel) (Nat.le_of_ble_eq_true rfl) rfl ?_
  refine ev_aload_n (i := 0) dX11_stick_0 rfl rfl ?_
  refine ev_getf dX11_stick_1 flX11_64 (by first | assumption | rfl) (by rfl) ?_
  refine ev_iload_n (i := 1) dX11_stick_4 rfl rfl ?_
  refine ev_c2 kX11_stick_5 (c3_stickAt_in hG hA hfa hj hc) (ev_rv_of (by first | assumption | rfl) rfl rfl) (by decide) (by decide) (Nat.le_of_ble_eq_true rfl) ?_
  refine ev_astore_n (i := 3) dX11_stick_8 rfl (Nat.le_of_ble_eq_true rfl) rfl ?_
  refine ev_aload_n (i := 3) dX11_stick_9 rfl rfl ?_
  refine ev_ifnonnull (tgt := 15) dX11_stick_10 (by decide) ?_
  refine ev_iload_n (i := 2) dX11_stick_15 rfl rfl ?_
  refine ev_tsin (off := 69) (tgt := 85) dX11_stick_16 (by decide) (by decide) (by rfl) (by decide) ?_
  refine ev_aload_n (i := 3) dX11_stick_85 rfl rfl ?_
  refine ev_getf dX11_stick_86 flX11_120 (by first | assumption | rfl) (by rfl) ?_
  exact ev_reti dX11_stick_89 rfl rfl (⟨by first | rfl | simp [*], rfl⟩)
theorem c12_stick_6 {G : ev_G} {n : Nat} {M : ev_M} {g g' c0 c1 c2 : Nat} {lot : Int32} (h20 : M 21 = .inr (11, [.ref 22, .ref 25, .ref 27, .ref 35, .ref 39, .ref 40, .ref 41, .ref 63, .ref g, .ref g', .int lot])) (hG : M g = .inr (3, [.ref (g + 1), .ref (g + 2), .ref (g + 3), .int (nI c0), .int (nI c1), .int (nI c2)])) {fa : Nat → Option Nat} (hA : M (g + 1) = .inl (2, 12, ev_q fa)) (hfa : ∀ i, i < 12 → fa i = some (g + 4 + i)) {j : Nat} (hj : j < c0) (hc : c0 ≤ 12) {s : Nat → Int32} (hS : M (g + 4 + j) = .inr (9, [.int (s 0), .int (s 1), .int (s 2), .int (s 3), .int (s 4), .int (s 5), .int (s 6)]))  : ev_Cal G mX11_stick 2 0 0 [.ref 21, .int (nI j), .int 6] n M (ev_is (some (.int (s 6))) M) := by
  refine ev_Cal_of (L := [some (.ref 21), some (.int (nI j)), some (.int 6), none]) (by decide +kernel) (Nat.le_of_ble_eq_true rfl) rfl ?_
  refine ev_aload_n (i := 0) dX11_stick_0 rfl rfl ?_
  refine ev_getf dX11_stick_1 flX11_64 (by first | assumption | rfl) (by rfl) ?_
  refine ev_iload_n (i := 1) dX11_stick_4 rfl rfl ?_
  refine ev_c2 kX11_stick_5 (c3_stickAt_in hG hA hfa hj hc) (ev_rv_of (by first | assumption | rfl) rfl rfl) (by decide) (by decide) (Nat.le_of_ble_eq_true rfl) ?_
  refine ev_astore_n (i := 3) dX11_stick_8 rfl (Nat.le_of_ble_eq_true rfl) rfl ?_
  refine ev_aload_n (i := 3) dX11_stick_9 rfl rfl ?_
  refine ev_ifnonnull (tgt := 15) dX11_stick_10 (by decide) ?_
  refine ev_iload_n (i := 2) dX11_stick_15 rfl rfl ?_
  refine ev_tsin (off := 74) (tgt := 90) dX11_stick_16 (by decide) (by decide) (by rfl) (by decide) ?_
  refine ev_aload_n (i := 3) dX11_stick_90 rfl rfl ?_
  refine ev_getf dX11_stick_91 flX11_123 (by first | assumption | rfl) (by rfl) ?_
  exact ev_reti dX11_stick_94 rfl rfl (⟨by first | rfl | simp [*], rfl⟩)
theorem c12_stick_i {G : ev_G} {n : Nat} {M : ev_M} {g g' c0 c1 c2 : Nat} {lot : Int32} (h20 : M 21 = .inr (11, [.ref 22, .ref 25, .ref 27, .ref 35, .ref 39, .ref 40, .ref 41, .ref 63, .ref g, .ref g', .int lot])) (hG : M g = .inr (3, [.ref (g + 1), .ref (g + 2), .ref (g + 3), .int (nI c0), .int (nI c1), .int (nI c2)])) {x : Int32} (hx : x < 0 ∨ nI c0 ≤ x) {w : Int32} : ev_Cal G mX11_stick 2 0 0 [.ref 21, .int x, .int w] n M (ev_is (some (.int (-1))) M) := by
  refine ev_Cal_of (L := [some (.ref 21), some (.int x), some (.int w), none]) (by decide +kernel) (Nat.le_of_ble_eq_true rfl) rfl ?_
  refine ev_aload_n (i := 0) dX11_stick_0 rfl rfl ?_
  refine ev_getf dX11_stick_1 flX11_64 (by first | assumption | rfl) (by rfl) ?_
  refine ev_iload_n (i := 1) dX11_stick_4 rfl rfl ?_
  refine ev_c2 kX11_stick_5 (c3_stickAt_out hG hx) (ev_rv_of (by first | assumption | rfl) rfl rfl) (by decide) (by decide) (Nat.le_of_ble_eq_true rfl) ?_
  refine ev_astore_nN (i := 3) dX11_stick_8 rfl (Nat.le_of_ble_eq_true rfl) rfl ?_
  refine ev_aload_nN (i := 3) dX11_stick_9 rfl rfl ?_
  refine ev_ifnonnullN dX11_stick_10 ?_
  refine ev_iconst (v := (-1)) dX11_stick_13 cni_m1 ?_
  exact ev_reti dX11_stick_14 rfl rfl (⟨by first | rfl | simp [*], rfl⟩)
theorem c12_stick_w {G : ev_G} {n : Nat} {M : ev_M} {g g' c0 c1 c2 : Nat} {lot : Int32} (h20 : M 21 = .inr (11, [.ref 22, .ref 25, .ref 27, .ref 35, .ref 39, .ref 40, .ref 41, .ref 63, .ref g, .ref g', .int lot])) (hG : M g = .inr (3, [.ref (g + 1), .ref (g + 2), .ref (g + 3), .int (nI c0), .int (nI c1), .int (nI c2)])) {fa : Nat → Option Nat} (hA : M (g + 1) = .inl (2, 12, ev_q fa)) (hfa : ∀ i, i < 12 → fa i = some (g + 4 + i)) {j : Nat} (hj : j < c0) (hc : c0 ≤ 12) {w : Int32} (hw : w.toInt < 0 ∨ 6 < w.toInt) : ev_Cal G mX11_stick 2 0 0 [.ref 21, .int (nI j), .int w] n M (ev_is (some (.int (-1))) M) := by
  refine ev_Cal_of (L := [some (.ref 21), some (.int (nI j)), some (.int w), none]) (by decide +kernel) (Nat.le_of_ble_eq_true rfl) rfl ?_
  refine ev_aload_n (i := 0) dX11_stick_0 rfl rfl ?_
  refine ev_getf dX11_stick_1 flX11_64 (by first | assumption | rfl) (by rfl) ?_
  refine ev_iload_n (i := 1) dX11_stick_4 rfl rfl ?_
  refine ev_c2 kX11_stick_5 (c3_stickAt_in hG hA hfa hj hc) (ev_rv_of (by first | assumption | rfl) rfl rfl) (by decide) (by decide) (Nat.le_of_ble_eq_true rfl) ?_
  refine ev_astore_n (i := 3) dX11_stick_8 rfl (Nat.le_of_ble_eq_true rfl) rfl ?_
  refine ev_aload_n (i := 3) dX11_stick_9 rfl rfl ?_
  refine ev_ifnonnull (tgt := 15) dX11_stick_10 (by decide) ?_
  refine ev_iload_n (i := 2) dX11_stick_15 rfl rfl ?_
  refine ev_tsout (tgt := 95) dX11_stick_16 hw (by decide) ?_
  refine ev_iconst (v := (-1)) dX11_stick_95 cni_m1 ?_
  exact ev_reti dX11_stick_96 rfl rfl (⟨by first | rfl | simp [*], rfl⟩)
theorem c12_bow_0 {G : ev_G} {n : Nat} {M : ev_M} {g g' c0 c1 c2 : Nat} {lot : Int32} (h20 : M 21 = .inr (11, [.ref 22, .ref 25, .ref 27, .ref 35, .ref 39, .ref 40, .ref 41, .ref 63, .ref g, .ref g', .int lot])) (hG : M g = .inr (3, [.ref (g + 1), .ref (g + 2), .ref (g + 3), .int (nI c0), .int (nI c1), .int (nI c2)])) {fb : Nat → Option Nat} (hB : M (g + 2) = .inl (3, 3, ev_q fb)) (hfb : ∀ i, i < 3 → fb i = some (g + 16 + i)) {b : Nat} (hb : b < c1) (hc1 : c1 ≤ 3) {dr wi : Int32} (hW : M (g + 16 + b) = .inr (1, [.int dr, .int wi]))  : ev_Cal G mX11_bow 3 0 0 [.ref 21, .int (nI b), .int 0] n M (ev_is (some (.int (dr))) M) := by
  refine ev_Cal_of (L := [some (.ref 21), some (.int (nI b)), some (.int 0), none]) (by decide +kernel) (Nat.le_of_ble_eq_true rfl) rfl ?_
  refine ev_aload_n (i := 0) dX11_bow_0 rfl rfl ?_
  refine ev_getf dX11_bow_1 flX11_64 (by first | assumption | rfl) (by rfl) ?_
  refine ev_iload_n (i := 1) dX11_bow_4 rfl rfl ?_
  refine ev_c2 kX11_bow_5 (c3_bowAt_in hG hB hfb hb hc1) (ev_rv_of (by first | assumption | rfl) rfl rfl) (by decide) (by decide) (Nat.le_of_ble_eq_true rfl) ?_
  refine ev_astore_n (i := 3) dX11_bow_8 rfl (Nat.le_of_ble_eq_true rfl) rfl ?_
  refine ev_aload_n (i := 3) dX11_bow_9 rfl rfl ?_
  refine ev_ifnonnull (tgt := 15) dX11_bow_10 (by decide) ?_
  refine ev_iload_n (i := 2) dX11_bow_15 rfl rfl ?_
  refine ev_tsin (off := 28) (tgt := 44) dX11_bow_16 (by decide) (by decide) (by rfl) (by decide) ?_
  refine ev_aload_n (i := 3) dX11_bow_44 rfl rfl ?_
  refine ev_getf dX11_bow_45 flX11_130 (by first | assumption | rfl) (by rfl) ?_
  exact ev_reti dX11_bow_48 rfl rfl (⟨by first | rfl | simp [*], rfl⟩)
theorem c12_bow_1 {G : ev_G} {n : Nat} {M : ev_M} {g g' c0 c1 c2 : Nat} {lot : Int32} (h20 : M 21 = .inr (11, [.ref 22, .ref 25, .ref 27, .ref 35, .ref 39, .ref 40, .ref 41, .ref 63, .ref g, .ref g', .int lot])) (hG : M g = .inr (3, [.ref (g + 1), .ref (g + 2), .ref (g + 3), .int (nI c0), .int (nI c1), .int (nI c2)])) {fb : Nat → Option Nat} (hB : M (g + 2) = .inl (3, 3, ev_q fb)) (hfb : ∀ i, i < 3 → fb i = some (g + 16 + i)) {b : Nat} (hb : b < c1) (hc1 : c1 ≤ 3) {dr wi : Int32} (hW : M (g + 16 + b) = .inr (1, [.int dr, .int wi]))  : ev_Cal G mX11_bow 3 0 0 [.ref 21, .int (nI b), .int 1] n M (ev_is (some (.int (wi))) M) := by
  refine ev_Cal_of (L := [some (.ref 21), some (.int (nI b)), some (.int 1), none]) (by decide +kernel) (Nat.le_of_ble_eq_true rfl) rfl ?_
  refine ev_aload_n (i := 0) dX11_bow_0 rfl rfl ?_
  refine ev_getf dX11_bow_1 flX11_64 (by first | assumption | rfl) (by rfl) ?_
  refine ev_iload_n (i := 1) dX11_bow_4 rfl rfl ?_
  refine ev_c2 kX11_bow_5 (c3_bowAt_in hG hB hfb hb hc1) (ev_rv_of (by first | assumption | rfl) rfl rfl) (by decide) (by decide) (Nat.le_of_ble_eq_true rfl) ?_
  refine ev_astore_n (i := 3) dX11_bow_8 rfl (Nat.le_of_ble_eq_true rfl) rfl ?_
  refine ev_aload_n (i := 3) dX11_bow_9 rfl rfl ?_
  refine ev_ifnonnull (tgt := 15) dX11_bow_10 (by decide) ?_
  refine ev_iload_n (i := 2) dX11_bow_15 rfl rfl ?_
  refine ev_tsin (off := 33) (tgt := 49) dX11_bow_16 (by decide) (by decide) (by rfl) (by decide) ?_
  refine ev_aload_n (i := 3) dX11_bow_49 rfl rfl ?_
  refine ev_getf dX11_bow_50 flX11_135 (by first | assumption | rfl) (by rfl) ?_
  exact ev_reti dX11_bow_53 rfl rfl (⟨by first | rfl | simp [*], rfl⟩)
theorem c12_bow_2 {G : ev_G} {n : Nat} {M : ev_M} {g g' c0 c1 c2 : Nat} {lot : Int32} (h20 : M 21 = .inr (11, [.ref 22, .ref 25, .ref 27, .ref 35, .ref 39, .ref 40, .ref 41, .ref 63, .ref g, .ref g', .int lot])) (hG : M g = .inr (3, [.ref (g + 1), .ref (g + 2), .ref (g + 3), .int (nI c0), .int (nI c1), .int (nI c2)])) {fb : Nat → Option Nat} (hB : M (g + 2) = .inl (3, 3, ev_q fb)) (hfb : ∀ i, i < 3 → fb i = some (g + 16 + i)) {b : Nat} (hb : b < c1) (hc1 : c1 ≤ 3) {dr wi : Int32} (hW : M (g + 16 + b) = .inr (1, [.int dr, .int wi]))  : ev_Cal G mX11_bow 3 0 0 [.ref 21, .int (nI b), .int 2] n M (ev_is (some (.int (sp_need dr wi))) M) := by
  refine ev_Cal_of (L := [some (.ref 21), some (.int (nI b)), some (.int 2), none]) (by decide +kernel) (Nat.le_of_ble_eq_true rfl) rfl ?_
  refine ev_aload_n (i := 0) dX11_bow_0 rfl rfl ?_
  refine ev_getf dX11_bow_1 flX11_64 (by first | assumption | rfl) (by rfl) ?_
  refine ev_iload_n (i := 1) dX11_bow_4 rfl rfl ?_
  refine ev_c2 kX11_bow_5 (c3_bowAt_in hG hB hfb hb hc1) (ev_rv_of (by first | assumption | rfl) rfl rfl) (by decide) (by decide) (Nat.le_of_ble_eq_true rfl) ?_
  refine ev_astore_n (i := 3) dX11_bow_8 rfl (Nat.le_of_ble_eq_true rfl) rfl ?_
  refine ev_aload_n (i := 3) dX11_bow_9 rfl rfl ?_
  refine ev_ifnonnull (tgt := 15) dX11_bow_10 (by decide) ?_
  refine ev_iload_n (i := 2) dX11_bow_15 rfl rfl ?_
  refine ev_tsin (off := 38) (tgt := 54) dX11_bow_16 (by decide) (by decide) (by rfl) (by decide) ?_
  refine ev_aload_n (i := 3) dX11_bow_54 rfl rfl ?_
  refine ev_c1 kX11_bow_55 (c1_need hW) (ev_rv_of (by first | assumption | rfl) rfl rfl) (by decide) (by decide) (Nat.le_of_ble_eq_true rfl) ?_
  exact ev_reti dX11_bow_58 rfl rfl (⟨by first | rfl | simp [*], rfl⟩)
theorem c12_bow_b {G : ev_G} {n : Nat} {M : ev_M} {g g' c0 c1 c2 : Nat} {lot : Int32} (h20 : M 21 = .inr (11, [.ref 22, .ref 25, .ref 27, .ref 35, .ref 39, .ref 40, .ref 41, .ref 63, .ref g, .ref g', .int lot])) (hG : M g = .inr (3, [.ref (g + 1), .ref (g + 2), .ref (g + 3), .int (nI c0), .int (nI c1), .int (nI c2)])) {xb : Int32} (hxb : xb < 0 ∨ nI c1 ≤ xb) {w : Int32} : ev_Cal G mX11_bow 3 0 0 [.ref 21, .int xb, .int w] n M (ev_is (some (.int (-1))) M) := by
  refine ev_Cal_of (L := [some (.ref 21), some (.int xb), some (.int w), none]) (by decide +kernel) (Nat.le_of_ble_eq_true rfl) rfl ?_
  refine ev_aload_n (i := 0) dX11_bow_0 rfl rfl ?_
  refine ev_getf dX11_bow_1 flX11_64 (by first | assumption | rfl) (by rfl) ?_
  refine ev_iload_n (i := 1) dX11_bow_4 rfl rfl ?_
  refine ev_c2 kX11_bow_5 (c3_bowAt_out hG hxb) (ev_rv_of (by first | assumption | rfl) rfl rfl) (by decide) (by decide) (Nat.le_of_ble_eq_true rfl) ?_
  refine ev_astore_nN (i := 3) dX11_bow_8 rfl (Nat.le_of_ble_eq_true rfl) rfl ?_
  refine ev_aload_nN (i := 3) dX11_bow_9 rfl rfl ?_
  refine ev_ifnonnullN dX11_bow_10 ?_
  refine ev_iconst (v := (-1)) dX11_bow_13 cni_m1 ?_
  exact ev_reti dX11_bow_14 rfl rfl (⟨by first | rfl | simp [*], rfl⟩)
theorem c12_bow_w {G : ev_G} {n : Nat} {M : ev_M} {g g' c0 c1 c2 : Nat} {lot : Int32} (h20 : M 21 = .inr (11, [.ref 22, .ref 25, .ref 27, .ref 35, .ref 39, .ref 40, .ref 41, .ref 63, .ref g, .ref g', .int lot])) (hG : M g = .inr (3, [.ref (g + 1), .ref (g + 2), .ref (g + 3), .int (nI c0), .int (nI c1), .int (nI c2)])) {fb : Nat → Option Nat} (hB : M (g + 2) = .inl (3, 3, ev_q fb)) (hfb : ∀ i, i < 3 → fb i = some (g + 16 + i)) {b : Nat} (hb : b < c1) (hc1 : c1 ≤ 3) {w : Int32} (hw : w.toInt < 0 ∨ 2 < w.toInt) : ev_Cal G mX11_bow 3 0 0 [.ref 21, .int (nI b), .int w] n M (ev_is (some (.int (-1))) M) := by
  refine ev_Cal_of (L := [some (.ref 21), some (.int (nI b)), some (.int w), none]) (by decide +kernel) (Nat.le_of_ble_eq_true rfl) rfl ?_
  refine ev_aload_n (i := 0) dX11_bow_0 rfl rfl ?_
  refine ev_getf dX11_bow_1 flX11_64 (by first | assumption | rfl) (by rfl) ?_
  refine ev_iload_n (i := 1) dX11_bow_4 rfl rfl ?_
  refine ev_c2 kX11_bow_5 (c3_bowAt_in hG hB hfb hb hc1) (ev_rv_of (by first | assumption | rfl) rfl rfl) (by decide) (by decide) (Nat.le_of_ble_eq_true rfl) ?_
  refine ev_astore_n (i := 3) dX11_bow_8 rfl (Nat.le_of_ble_eq_true rfl) rfl ?_
  refine ev_aload_n (i := 3) dX11_bow_9 rfl rfl ?_
  refine ev_ifnonnull (tgt := 15) dX11_bow_10 (by decide) ?_
  refine ev_iload_n (i := 2) dX11_bow_15 rfl rfl ?_
  refine ev_tsout (tgt := 59) dX11_bow_16 hw (by decide) ?_
  refine ev_iconst (v := (-1)) dX11_bow_59 cni_m1 ?_
  exact ev_reti dX11_bow_60 rfl rfl (⟨by first | rfl | simp [*], rfl⟩)
theorem c12_archer_0 {G : ev_G} {n : Nat} {M : ev_M} {g g' c0 c1 c2 : Nat} {lot : Int32} (h20 : M 21 = .inr (11, [.ref 22, .ref 25, .ref 27, .ref 35, .ref 39, .ref 40, .ref 41, .ref 63, .ref g, .ref g', .int lot])) (hG : M g = .inr (3, [.ref (g + 1), .ref (g + 2), .ref (g + 3), .int (nI c0), .int (nI c1), .int (nI c2)])) {fc : Nat → Option Nat} (hC : M (g + 3) = .inl (4, 3, ev_q fc)) (hfc : ∀ i, i < 3 → fc i = some (g + 19 + i)) {a : Nat} (ha : a < c2) (hc2 : c2 ≤ 3) {am wa : Int32} (hR : M (g + 19 + a) = .inr (0, [.int am, .int wa]))  : ev_Cal G mX11_archer 2 0 0 [.ref 21, .int (nI a), .int 0] n M (ev_is (some (.int am)) M) := by
  refine ev_Cal_of (L := [some (.ref 21), some (.int (nI a)), some (.int 0), none]) (by decide +kernel) (Nat.le_of_ble_eq_true rfl) rfl ?_
  refine ev_aload_n (i := 0) dX11_archer_0 rfl rfl ?_
  refine ev_getf dX11_archer_1 flX11_64 (by first | assumption | rfl) (by rfl) ?_
  refine ev_iload_n (i := 1) dX11_archer_4 rfl rfl ?_
  refine ev_c2 kX11_archer_5 (c3_archerAt_in hG hC hfc ha hc2) (ev_rv_of (by first | assumption | rfl) rfl rfl) (by decide) (by decide) (Nat.le_of_ble_eq_true rfl) ?_
  refine ev_astore_n (i := 3) dX11_archer_8 rfl (Nat.le_of_ble_eq_true rfl) rfl ?_
  refine ev_aload_n (i := 3) dX11_archer_9 rfl rfl ?_
  refine ev_ifnonnull (tgt := 16) dX11_archer_10 (by decide) ?_
  refine ev_iload_n (i := 2) dX11_archer_16 rfl rfl ?_
  refine ev_lookup (off := 27) (tgt := 44) dX11_archer_17 (by decide) (by decide) (by decide) ?_
  refine ev_aload_n (i := 3) dX11_archer_44 rfl rfl ?_
  refine ev_getf dX11_archer_45 flX11_146 (by first | assumption | rfl) (by rfl) ?_
  exact ev_reti dX11_archer_48 rfl rfl (⟨by first | rfl | simp [*], rfl⟩)
theorem c12_archer_1 {G : ev_G} {n : Nat} {M : ev_M} {g g' c0 c1 c2 : Nat} {lot : Int32} (h20 : M 21 = .inr (11, [.ref 22, .ref 25, .ref 27, .ref 35, .ref 39, .ref 40, .ref 41, .ref 63, .ref g, .ref g', .int lot])) (hG : M g = .inr (3, [.ref (g + 1), .ref (g + 2), .ref (g + 3), .int (nI c0), .int (nI c1), .int (nI c2)])) {fc : Nat → Option Nat} (hC : M (g + 3) = .inl (4, 3, ev_q fc)) (hfc : ∀ i, i < 3 → fc i = some (g + 19 + i)) {a : Nat} (ha : a < c2) (hc2 : c2 ≤ 3) {am wa : Int32} (hR : M (g + 19 + a) = .inr (0, [.int am, .int wa]))  : ev_Cal G mX11_archer 2 0 0 [.ref 21, .int (nI a), .int 1] n M (ev_is (some (.int wa)) M) := by
  refine ev_Cal_of (L := [some (.ref 21), some (.int (nI a)), some (.int 1), none]) (by decide +kernel) (Nat.le_of_ble_eq_true rfl) rfl ?_
  refine ev_aload_n (i := 0) dX11_archer_0 rfl rfl ?_
  refine ev_getf dX11_archer_1 flX11_64 (by first | assumption | rfl) (by rfl) ?_
  refine ev_iload_n (i := 1) dX11_archer_4 rfl rfl ?_
  refine ev_c2 kX11_archer_5 (c3_archerAt_in hG hC hfc ha hc2) (ev_rv_of (by first | assumption | rfl) rfl rfl) (by decide) (by decide) (Nat.le_of_ble_eq_true rfl) ?_
  refine ev_astore_n (i := 3) dX11_archer_8 rfl (Nat.le_of_ble_eq_true rfl) rfl ?_
  refine ev_aload_n (i := 3) dX11_archer_9 rfl rfl ?_
  refine ev_ifnonnull (tgt := 16) dX11_archer_10 (by decide) ?_
  refine ev_iload_n (i := 2) dX11_archer_16 rfl rfl ?_
  refine ev_lookup (off := 32) (tgt := 49) dX11_archer_17 (by decide) (by decide) (by decide) ?_
  refine ev_aload_n (i := 3) dX11_archer_49 rfl rfl ?_
  refine ev_getf dX11_archer_50 flX11_151 (by first | assumption | rfl) (by rfl) ?_
  exact ev_reti dX11_archer_53 rfl rfl (⟨by first | rfl | simp [*], rfl⟩)
theorem c12_archer_a {G : ev_G} {n : Nat} {M : ev_M} {g g' c0 c1 c2 : Nat} {lot : Int32} (h20 : M 21 = .inr (11, [.ref 22, .ref 25, .ref 27, .ref 35, .ref 39, .ref 40, .ref 41, .ref 63, .ref g, .ref g', .int lot])) (hG : M g = .inr (3, [.ref (g + 1), .ref (g + 2), .ref (g + 3), .int (nI c0), .int (nI c1), .int (nI c2)])) {xa w : Int32} (hxa : xa < 0 ∨ nI c2 ≤ xa) : ev_Cal G mX11_archer 2 0 0 [.ref 21, .int xa, .int w] n M (ev_is (some (.int (-1000000))) M) := by
  refine ev_Cal_of (L := [some (.ref 21), some (.int xa), some (.int w), none]) (by decide +kernel) (Nat.le_of_ble_eq_true rfl) rfl ?_
  refine ev_aload_n (i := 0) dX11_archer_0 rfl rfl ?_
  refine ev_getf dX11_archer_1 flX11_64 (by first | assumption | rfl) (by rfl) ?_
  refine ev_iload_n (i := 1) dX11_archer_4 rfl rfl ?_
  refine ev_c2 kX11_archer_5 (c3_archerAt_out hG hxa) (ev_rv_of (by first | assumption | rfl) rfl rfl) (by decide) (by decide) (Nat.le_of_ble_eq_true rfl) ?_
  refine ev_astore_nN (i := 3) dX11_archer_8 rfl (Nat.le_of_ble_eq_true rfl) rfl ?_
  refine ev_aload_nN (i := 3) dX11_archer_9 rfl rfl ?_
  refine ev_ifnonnullN dX11_archer_10 ?_
  refine ev_ldc dX11_archer_13 coX11_145 ?_
  exact ev_reti dX11_archer_15 rfl rfl (⟨by first | rfl | simp [*], rfl⟩)
theorem c12_archer_w {G : ev_G} {n : Nat} {M : ev_M} {g g' c0 c1 c2 : Nat} {lot : Int32} (h20 : M 21 = .inr (11, [.ref 22, .ref 25, .ref 27, .ref 35, .ref 39, .ref 40, .ref 41, .ref 63, .ref g, .ref g', .int lot])) (hG : M g = .inr (3, [.ref (g + 1), .ref (g + 2), .ref (g + 3), .int (nI c0), .int (nI c1), .int (nI c2)])) {fc : Nat → Option Nat} (hC : M (g + 3) = .inl (4, 3, ev_q fc)) (hfc : ∀ i, i < 3 → fc i = some (g + 19 + i)) {a : Nat} (ha : a < c2) (hc2 : c2 ≤ 3) {w : Int32} (hw0 : ¬ w = 0) (hw1 : ¬ w = 1) : ev_Cal G mX11_archer 2 0 0 [.ref 21, .int (nI a), .int w] n M (ev_is (some (.int (-1000000))) M) := by
  refine ev_Cal_of (L := [some (.ref 21), some (.int (nI a)), some (.int w), none]) (by decide +kernel) (Nat.le_of_ble_eq_true rfl) rfl ?_
  refine ev_aload_n (i := 0) dX11_archer_0 rfl rfl ?_
  refine ev_getf dX11_archer_1 flX11_64 (by first | assumption | rfl) (by rfl) ?_
  refine ev_iload_n (i := 1) dX11_archer_4 rfl rfl ?_
  refine ev_c2 kX11_archer_5 (c3_archerAt_in hG hC hfc ha hc2) (ev_rv_of (by first | assumption | rfl) rfl rfl) (by decide) (by decide) (Nat.le_of_ble_eq_true rfl) ?_
  refine ev_astore_n (i := 3) dX11_archer_8 rfl (Nat.le_of_ble_eq_true rfl) rfl ?_
  refine ev_aload_n (i := 3) dX11_archer_9 rfl rfl ?_
  refine ev_ifnonnull (tgt := 16) dX11_archer_10 (by decide) ?_
  refine ev_iload_n (i := 2) dX11_archer_16 rfl rfl ?_
  refine ev_lookup (off := 37) (tgt := 54) dX11_archer_17 (by decide) (by show Op.lookupswitch.offset [(0, 27), (1, 32)] 37 w.toInt = 37; rw [lv_osw hw0 (by decide : (0 : Int32).toInt = 0), lv_osw hw1 (by decide : (1 : Int32).toInt = 1)]; rfl) (by decide) ?_
  refine ev_ldc dX11_archer_54 coX11_145 ?_
  exact ev_reti dX11_archer_56 rfl rfl (⟨by first | rfl | simp [*], rfl⟩)
theorem c12_cut_ok {G : ev_G} {n : Nat} {M : ev_M} {g g' c0 c1 c2 : Nat} {lot : Int32} (h20 : M 21 = .inr (11, [.ref 22, .ref 25, .ref 27, .ref 35, .ref 39, .ref 40, .ref 41, .ref 63, .ref g, .ref g', .int lot])) (hG : M g = .inr (3, [.ref (g + 1), .ref (g + 2), .ref (g + 3), .int (nI c0), .int (nI c1), .int (nI c2)])) {fa : Nat → Option Nat} (hA : M (g + 1) = .inl (2, 12, ev_q fa)) (hfa : ∀ i, i < 12 → fa i = some (g + 4 + i)) {j : Nat} (hj : j < c0) (hc : c0 ≤ 12) {s : Nat → Int32} (hS : M (g + 4 + j) = .inr (9, [.int (s 0), .int (s 1), .int (s 2), .int (s 3), .int (s 4), .int (s 5), .int (s 6)])) (hm : 1 ≤ s 0 - 80) : ev_Cal G mX11_cut 2 0 0 [.ref 21, .int (nI j)] n M (ev_is (some (.int (s 0 - 1))) (ev_set M (g + 4 + j) (.inr (9, [.int (s 0 - 1), .int (s 1), .int (s 2), .int (s 3), .int (s 4), .int (s 5), .int (s 6)])))) := by
  refine ev_Cal_of (L := [some (.ref 21), some (.int (nI j)), none]) (by decide +kernel) (Nat.le_of_ble_eq_true rfl) rfl ?_
  refine ev_aload_n (i := 0) dX11_cut_0 rfl rfl ?_
  refine ev_getf dX11_cut_1 flX11_64 (by first | exact ev_set_eq | assumption) (by rfl) ?_
  refine ev_iload_n (i := 1) dX11_cut_4 rfl rfl ?_
  refine ev_c2 kX11_cut_5 (c3_stickAt_in hG hA hfa hj hc) (ev_rv_of (by first | exact ev_set_eq | assumption) rfl rfl) (by decide) (by decide) (Nat.le_of_ble_eq_true rfl) ?_
  refine ev_astore_n (i := 2) dX11_cut_8 rfl (Nat.le_of_ble_eq_true rfl) rfl ?_
  refine ev_aload_n (i := 2) dX11_cut_9 rfl rfl ?_
  refine ev_ifnonnull (tgt := 15) dX11_cut_10 (by decide) ?_
  refine ev_aload_n (i := 2) dX11_cut_15 rfl rfl ?_
  refine ev_c1 kX11_cut_16 (c9_mostCuts hS) (ev_rv_of (by first | exact ev_set_eq | assumption) rfl rfl) (by decide) (by decide) (Nat.le_of_ble_eq_true rfl) ?_
  refine ev_iconst (v := 1) dX11_cut_19 cni_1 ?_
  refine ev_icmp_ge (tgt := 26) dX11_cut_20 (by decide) (fun q20 => ?_) (fun q20 => False.elim (Int32.not_le.mpr q20 hm))
  refine ev_pre1 hS ?_
  refine ev_aload_n (i := 2) dX11_cut_26 rfl rfl ?_
  refine ev_dup dX11_cut_27 rfl ?_
  refine ev_getf dX11_cut_28 flX11_103 (by first | exact ev_set_eq | assumption) (by rfl) ?_
  refine ev_iconst (v := 1) dX11_cut_31 cni_1 ?_
  refine ev_isub dX11_cut_32 ?_
  refine ev_putiU dX11_cut_33 fpX11_103 (Nat.le_of_ble_eq_true rfl) ?_
  refine ev_aload_n (i := 2) dX11_cut_36 rfl rfl ?_
  refine ev_getf dX11_cut_37 flX11_103 (by first | exact ev_set_eq | assumption) (by rfl) ?_
  exact ev_reti dX11_cut_40 rfl rfl (⟨by first | rfl | simp [*], rfl⟩)
theorem c12_cut_no {G : ev_G} {n : Nat} {M : ev_M} {g g' c0 c1 c2 : Nat} {lot : Int32} (h20 : M 21 = .inr (11, [.ref 22, .ref 25, .ref 27, .ref 35, .ref 39, .ref 40, .ref 41, .ref 63, .ref g, .ref g', .int lot])) (hG : M g = .inr (3, [.ref (g + 1), .ref (g + 2), .ref (g + 3), .int (nI c0), .int (nI c1), .int (nI c2)])) {fa : Nat → Option Nat} (hA : M (g + 1) = .inl (2, 12, ev_q fa)) (hfa : ∀ i, i < 12 → fa i = some (g + 4 + i)) {j : Nat} (hj : j < c0) (hc : c0 ≤ 12) {s : Nat → Int32} (hS : M (g + 4 + j) = .inr (9, [.int (s 0), .int (s 1), .int (s 2), .int (s 3), .int (s 4), .int (s 5), .int (s 6)])) (hm : s 0 - 80 < 1) : ev_Cal G mX11_cut 2 0 0 [.ref 21, .int (nI j)] n M (ev_is (some (.int (-2))) M) := by
  refine ev_Cal_of (L := [some (.ref 21), some (.int (nI j)), none]) (by decide +kernel) (Nat.le_of_ble_eq_true rfl) rfl ?_
  refine ev_aload_n (i := 0) dX11_cut_0 rfl rfl ?_
  refine ev_getf dX11_cut_1 flX11_64 (by first | assumption | rfl) (by rfl) ?_
  refine ev_iload_n (i := 1) dX11_cut_4 rfl rfl ?_
  refine ev_c2 kX11_cut_5 (c3_stickAt_in hG hA hfa hj hc) (ev_rv_of (by first | assumption | rfl) rfl rfl) (by decide) (by decide) (Nat.le_of_ble_eq_true rfl) ?_
  refine ev_astore_n (i := 2) dX11_cut_8 rfl (Nat.le_of_ble_eq_true rfl) rfl ?_
  refine ev_aload_n (i := 2) dX11_cut_9 rfl rfl ?_
  refine ev_ifnonnull (tgt := 15) dX11_cut_10 (by decide) ?_
  refine ev_aload_n (i := 2) dX11_cut_15 rfl rfl ?_
  refine ev_c1 kX11_cut_16 (c9_mostCuts hS) (ev_rv_of (by first | assumption | rfl) rfl rfl) (by decide) (by decide) (Nat.le_of_ble_eq_true rfl) ?_
  refine ev_iconst (v := 1) dX11_cut_19 cni_1 ?_
  refine ev_icmp_ge (tgt := 26) dX11_cut_20 (by decide) (fun q20 => False.elim (Int32.not_le.mpr hm q20)) (fun q20 => ?_)
  refine ev_bipush (v := (-2)) dX11_cut_23 cnb_m2 ?_
  exact ev_reti dX11_cut_25 rfl rfl (⟨by first | rfl | simp [*], rfl⟩)
theorem c12_cut_i {G : ev_G} {n : Nat} {M : ev_M} {g g' c0 c1 c2 : Nat} {lot : Int32} (h20 : M 21 = .inr (11, [.ref 22, .ref 25, .ref 27, .ref 35, .ref 39, .ref 40, .ref 41, .ref 63, .ref g, .ref g', .int lot])) (hG : M g = .inr (3, [.ref (g + 1), .ref (g + 2), .ref (g + 3), .int (nI c0), .int (nI c1), .int (nI c2)])) {x : Int32} (hx : x < 0 ∨ nI c0 ≤ x)  : ev_Cal G mX11_cut 2 0 0 [.ref 21, .int x] n M (ev_is (some (.int (-1))) M) := by
  refine ev_Cal_of (L := [some (.ref 21), some (.int x), none]) (by decide +kernel) (Nat.le_of_ble_eq_true rfl) rfl ?_
  refine ev_aload_n (i := 0) dX11_cut_0 rfl rfl ?_
  refine ev_getf dX11_cut_1 flX11_64 (by first | assumption | rfl) (by rfl) ?_
  refine ev_iload_n (i := 1) dX11_cut_4 rfl rfl ?_
  refine ev_c2 kX11_cut_5 (c3_stickAt_out hG hx) (ev_rv_of (by first | assumption | rfl) rfl rfl) (by decide) (by decide) (Nat.le_of_ble_eq_true rfl) ?_
  refine ev_astore_nN (i := 2) dX11_cut_8 rfl (Nat.le_of_ble_eq_true rfl) rfl ?_
  refine ev_aload_nN (i := 2) dX11_cut_9 rfl rfl ?_
  refine ev_ifnonnullN dX11_cut_10 ?_
  refine ev_iconst (v := (-1)) dX11_cut_13 cni_m1 ?_
  exact ev_reti dX11_cut_14 rfl rfl (⟨by first | rfl | simp [*], rfl⟩)
theorem c12_scrape_ok {G : ev_G} {n : Nat} {M : ev_M} {g g' c0 c1 c2 : Nat} {lot : Int32} (h20 : M 21 = .inr (11, [.ref 22, .ref 25, .ref 27, .ref 35, .ref 39, .ref 40, .ref 41, .ref 63, .ref g, .ref g', .int lot])) (hG : M g = .inr (3, [.ref (g + 1), .ref (g + 2), .ref (g + 3), .int (nI c0), .int (nI c1), .int (nI c2)])) {fa : Nat → Option Nat} (hA : M (g + 1) = .inl (2, 12, ev_q fa)) (hfa : ∀ i, i < 12 → fa i = some (g + 4 + i)) {j : Nat} (hj : j < c0) (hc : c0 ≤ 12) {s : Nat → Int32} (hS : M (g + 4 + j) = .inr (9, [.int (s 0), .int (s 1), .int (s 2), .int (s 3), .int (s 4), .int (s 5), .int (s 6)])) (hm : 1 ≤ sp_scr (s 2) (s 3) (s 1)) : ev_Cal G mX11_scrape 2 0 0 [.ref 21, .int (nI j)] n M (ev_is (some (.int (s 1 - 2))) (ev_set M (g + 4 + j) (.inr (9, [.int (s 0), .int (s 1 - 2), .int (s 2 - 1), .int (s 3 - 1), .int (s 4), .int (s 5), .int (s 6)])))) := by
  refine ev_Cal_of (L := [some (.ref 21), some (.int (nI j)), none]) (by decide +kernel) (Nat.le_of_ble_eq_true rfl) rfl ?_
  refine ev_aload_n (i := 0) dX11_scrape_0 rfl rfl ?_
  refine ev_getf dX11_scrape_1 flX11_64 (by first | exact ev_set_eq | assumption) (by rfl) ?_
  refine ev_iload_n (i := 1) dX11_scrape_4 rfl rfl ?_
  refine ev_c2 kX11_scrape_5 (c3_stickAt_in hG hA hfa hj hc) (ev_rv_of (by first | exact ev_set_eq | assumption) rfl rfl) (by decide) (by decide) (Nat.le_of_ble_eq_true rfl) ?_
  refine ev_astore_n (i := 2) dX11_scrape_8 rfl (Nat.le_of_ble_eq_true rfl) rfl ?_
  refine ev_aload_n (i := 2) dX11_scrape_9 rfl rfl ?_
  refine ev_ifnonnull (tgt := 15) dX11_scrape_10 (by decide) ?_
  refine ev_aload_n (i := 2) dX11_scrape_15 rfl rfl ?_
  refine ev_c1 kX11_scrape_16 (c9_mostScrapes hS) (ev_rv_of (by first | exact ev_set_eq | assumption) rfl rfl) (by decide) (by decide) (Nat.le_of_ble_eq_true rfl) ?_
  refine ev_iconst (v := 1) dX11_scrape_19 cni_1 ?_
  refine ev_icmp_ge (tgt := 26) dX11_scrape_20 (by decide) (fun q20 => ?_) (fun q20 => False.elim (Int32.not_le.mpr q20 hm))
  refine ev_pre1 hS ?_
  refine ev_aload_n (i := 2) dX11_scrape_26 rfl rfl ?_
  refine ev_dup dX11_scrape_27 rfl ?_
  refine ev_getf dX11_scrape_28 flX11_111 (by first | exact ev_set_eq | assumption) (by rfl) ?_
  refine ev_iconst (v := 1) dX11_scrape_31 cni_1 ?_
  refine ev_isub dX11_scrape_32 ?_
  refine ev_putiU dX11_scrape_33 fpX11_111 (Nat.le_of_ble_eq_true rfl) ?_
  refine ev_aload_n (i := 2) dX11_scrape_36 rfl rfl ?_
  refine ev_dup dX11_scrape_37 rfl ?_
  refine ev_getf dX11_scrape_38 flX11_114 (by first | exact ev_set_eq | assumption) (by rfl) ?_
  refine ev_iconst (v := 1) dX11_scrape_41 cni_1 ?_
  refine ev_isub dX11_scrape_42 ?_
  refine ev_putiU dX11_scrape_43 fpX11_114 (Nat.le_of_ble_eq_true rfl) ?_
  refine ev_aload_n (i := 2) dX11_scrape_46 rfl rfl ?_
  refine ev_dup dX11_scrape_47 rfl ?_
  refine ev_getf dX11_scrape_48 flX11_108 (by first | exact ev_set_eq | assumption) (by rfl) ?_
  refine ev_iconst (v := 2) dX11_scrape_51 cni_2 ?_
  refine ev_isub dX11_scrape_52 ?_
  refine ev_putiU dX11_scrape_53 fpX11_108 (Nat.le_of_ble_eq_true rfl) ?_
  refine ev_aload_n (i := 2) dX11_scrape_56 rfl rfl ?_
  refine ev_getf dX11_scrape_57 flX11_108 (by first | exact ev_set_eq | assumption) (by rfl) ?_
  exact ev_reti dX11_scrape_60 rfl rfl (⟨by first | rfl | simp [*], rfl⟩)
theorem c12_scrape_no {G : ev_G} {n : Nat} {M : ev_M} {g g' c0 c1 c2 : Nat} {lot : Int32} (h20 : M 21 = .inr (11, [.ref 22, .ref 25, .ref 27, .ref 35, .ref 39, .ref 40, .ref 41, .ref 63, .ref g, .ref g', .int lot])) (hG : M g = .inr (3, [.ref (g + 1), .ref (g + 2), .ref (g + 3), .int (nI c0), .int (nI c1), .int (nI c2)])) {fa : Nat → Option Nat} (hA : M (g + 1) = .inl (2, 12, ev_q fa)) (hfa : ∀ i, i < 12 → fa i = some (g + 4 + i)) {j : Nat} (hj : j < c0) (hc : c0 ≤ 12) {s : Nat → Int32} (hS : M (g + 4 + j) = .inr (9, [.int (s 0), .int (s 1), .int (s 2), .int (s 3), .int (s 4), .int (s 5), .int (s 6)])) (hm : sp_scr (s 2) (s 3) (s 1) < 1) : ev_Cal G mX11_scrape 2 0 0 [.ref 21, .int (nI j)] n M (ev_is (some (.int (-2))) M) := by
  refine ev_Cal_of (L := [some (.ref 21), some (.int (nI j)), none]) (by decide +kernel) (Nat.le_of_ble_eq_true rfl) rfl ?_
  refine ev_aload_n (i := 0) dX11_scrape_0 rfl rfl ?_
  refine ev_getf dX11_scrape_1 flX11_64 (by first | assumption | rfl) (by rfl) ?_
  refine ev_iload_n (i := 1) dX11_scrape_4 rfl rfl ?_
  refine ev_c2 kX11_scrape_5 (c3_stickAt_in hG hA hfa hj hc) (ev_rv_of (by first | assumption | rfl) rfl rfl) (by decide) (by decide) (Nat.le_of_ble_eq_true rfl) ?_
  refine ev_astore_n (i := 2) dX11_scrape_8 rfl (Nat.le_of_ble_eq_true rfl) rfl ?_
  refine ev_aload_n (i := 2) dX11_scrape_9 rfl rfl ?_
  refine ev_ifnonnull (tgt := 15) dX11_scrape_10 (by decide) ?_
  refine ev_aload_n (i := 2) dX11_scrape_15 rfl rfl ?_
  refine ev_c1 kX11_scrape_16 (c9_mostScrapes hS) (ev_rv_of (by first | assumption | rfl) rfl rfl) (by decide) (by decide) (Nat.le_of_ble_eq_true rfl) ?_
  refine ev_iconst (v := 1) dX11_scrape_19 cni_1 ?_
  refine ev_icmp_ge (tgt := 26) dX11_scrape_20 (by decide) (fun q20 => False.elim (Int32.not_le.mpr hm q20)) (fun q20 => ?_)
  refine ev_bipush (v := (-2)) dX11_scrape_23 cnb_m2 ?_
  exact ev_reti dX11_scrape_25 rfl rfl (⟨by first | rfl | simp [*], rfl⟩)
theorem c12_scrape_i {G : ev_G} {n : Nat} {M : ev_M} {g g' c0 c1 c2 : Nat} {lot : Int32} (h20 : M 21 = .inr (11, [.ref 22, .ref 25, .ref 27, .ref 35, .ref 39, .ref 40, .ref 41, .ref 63, .ref g, .ref g', .int lot])) (hG : M g = .inr (3, [.ref (g + 1), .ref (g + 2), .ref (g + 3), .int (nI c0), .int (nI c1), .int (nI c2)])) {x : Int32} (hx : x < 0 ∨ nI c0 ≤ x)  : ev_Cal G mX11_scrape 2 0 0 [.ref 21, .int x] n M (ev_is (some (.int (-1))) M) := by
  refine ev_Cal_of (L := [some (.ref 21), some (.int x), none]) (by decide +kernel) (Nat.le_of_ble_eq_true rfl) rfl ?_
  refine ev_aload_n (i := 0) dX11_scrape_0 rfl rfl ?_
  refine ev_getf dX11_scrape_1 flX11_64 (by first | assumption | rfl) (by rfl) ?_
  refine ev_iload_n (i := 1) dX11_scrape_4 rfl rfl ?_
  refine ev_c2 kX11_scrape_5 (c3_stickAt_out hG hx) (ev_rv_of (by first | assumption | rfl) rfl rfl) (by decide) (by decide) (Nat.le_of_ble_eq_true rfl) ?_
  refine ev_astore_nN (i := 2) dX11_scrape_8 rfl (Nat.le_of_ble_eq_true rfl) rfl ?_
  refine ev_aload_nN (i := 2) dX11_scrape_9 rfl rfl ?_
  refine ev_ifnonnullN dX11_scrape_10 ?_
  refine ev_iconst (v := (-1)) dX11_scrape_13 cni_m1 ?_
  exact ev_reti dX11_scrape_14 rfl rfl (⟨by first | rfl | simp [*], rfl⟩)
theorem c12_load_ok {G : ev_G} {n : Nat} {M : ev_M} {g g' c0 c1 c2 : Nat} {lot : Int32} (h20 : M 21 = .inr (11, [.ref 22, .ref 25, .ref 27, .ref 35, .ref 39, .ref 40, .ref 41, .ref 63, .ref g, .ref g', .int lot])) (hG : M g = .inr (3, [.ref (g + 1), .ref (g + 2), .ref (g + 3), .int (nI c0), .int (nI c1), .int (nI c2)])) {fa : Nat → Option Nat} (hA : M (g + 1) = .inl (2, 12, ev_q fa)) (hfa : ∀ i, i < 12 → fa i = some (g + 4 + i)) {j : Nat} (hj : j < c0) (hc : c0 ≤ 12) {s : Nat → Int32} (hS : M (g + 4 + j) = .inr (9, [.int (s 0), .int (s 1), .int (s 2), .int (s 3), .int (s 4), .int (s 5), .int (s 6)])) (hm : 1 ≤ (200 - s 4) / 5) : ev_Cal G mX11_load 2 0 0 [.ref 21, .int (nI j)] n M (ev_is (some (.int (s 4 + 5))) (ev_set M (g + 4 + j) (.inr (9, [.int (s 0), .int (s 1), .int (s 2), .int (s 3), .int (s 4 + 5), .int (s 5), .int (s 6)])))) := by
  refine ev_Cal_of (L := [some (.ref 21), some (.int (nI j)), none]) (by decide +kernel) (Nat.le_of_ble_eq_true rfl) rfl ?_
  refine ev_aload_n (i := 0) dX11_load_0 rfl rfl ?_
  refine ev_getf dX11_load_1 flX11_64 (by first | exact ev_set_eq | assumption) (by rfl) ?_
  refine ev_iload_n (i := 1) dX11_load_4 rfl rfl ?_
  refine ev_c2 kX11_load_5 (c3_stickAt_in hG hA hfa hj hc) (ev_rv_of (by first | exact ev_set_eq | assumption) rfl rfl) (by decide) (by decide) (Nat.le_of_ble_eq_true rfl) ?_
  refine ev_astore_n (i := 2) dX11_load_8 rfl (Nat.le_of_ble_eq_true rfl) rfl ?_
  refine ev_aload_n (i := 2) dX11_load_9 rfl rfl ?_
  refine ev_ifnonnull (tgt := 15) dX11_load_10 (by decide) ?_
  refine ev_aload_n (i := 2) dX11_load_15 rfl rfl ?_
  refine ev_c1 kX11_load_16 (c9_mostLoads hS) (ev_rv_of (by first | exact ev_set_eq | assumption) rfl rfl) (by decide) (by decide) (Nat.le_of_ble_eq_true rfl) ?_
  refine ev_iconst (v := 1) dX11_load_19 cni_1 ?_
  refine ev_icmp_ge (tgt := 26) dX11_load_20 (by decide) (fun q20 => ?_) (fun q20 => False.elim (Int32.not_le.mpr q20 hm))
  refine ev_pre1 hS ?_
  refine ev_aload_n (i := 2) dX11_load_26 rfl rfl ?_
  refine ev_dup dX11_load_27 rfl ?_
  refine ev_getf dX11_load_28 flX11_117 (by first | exact ev_set_eq | assumption) (by rfl) ?_
  refine ev_iconst (v := 5) dX11_load_31 cni_5 ?_
  refine ev_iadd dX11_load_32 ?_
  refine ev_putiU dX11_load_33 fpX11_117 (Nat.le_of_ble_eq_true rfl) ?_
  refine ev_aload_n (i := 2) dX11_load_36 rfl rfl ?_
  refine ev_getf dX11_load_37 flX11_117 (by first | exact ev_set_eq | assumption) (by rfl) ?_
  exact ev_reti dX11_load_40 rfl rfl (⟨by first | rfl | simp [*], rfl⟩)
theorem c12_load_no {G : ev_G} {n : Nat} {M : ev_M} {g g' c0 c1 c2 : Nat} {lot : Int32} (h20 : M 21 = .inr (11, [.ref 22, .ref 25, .ref 27, .ref 35, .ref 39, .ref 40, .ref 41, .ref 63, .ref g, .ref g', .int lot])) (hG : M g = .inr (3, [.ref (g + 1), .ref (g + 2), .ref (g + 3), .int (nI c0), .int (nI c1), .int (nI c2)])) {fa : Nat → Option Nat} (hA : M (g + 1) = .inl (2, 12, ev_q fa)) (hfa : ∀ i, i < 12 → fa i = some (g + 4 + i)) {j : Nat} (hj : j < c0) (hc : c0 ≤ 12) {s : Nat → Int32} (hS : M (g + 4 + j) = .inr (9, [.int (s 0), .int (s 1), .int (s 2), .int (s 3), .int (s 4), .int (s 5), .int (s 6)])) (hm : (200 - s 4) / 5 < 1) : ev_Cal G mX11_load 2 0 0 [.ref 21, .int (nI j)] n M (ev_is (some (.int (-2))) M) := by
  refine ev_Cal_of (L := [some (.ref 21), some (.int (nI j)), none]) (by decide +kernel) (Nat.le_of_ble_eq_true rfl) rfl ?_
  refine ev_aload_n (i := 0) dX11_load_0 rfl rfl ?_
  refine ev_getf dX11_load_1 flX11_64 (by first | assumption | rfl) (by rfl) ?_
  refine ev_iload_n (i := 1) dX11_load_4 rfl rfl ?_
  refine ev_c2 kX11_load_5 (c3_stickAt_in hG hA hfa hj hc) (ev_rv_of (by first | assumption | rfl) rfl rfl) (by decide) (by decide) (Nat.le_of_ble_eq_true rfl) ?_
  refine ev_astore_n (i := 2) dX11_load_8 rfl (Nat.le_of_ble_eq_true rfl) rfl ?_
  refine ev_aload_n (i := 2) dX11_load_9 rfl rfl ?_
  refine ev_ifnonnull (tgt := 15) dX11_load_10 (by decide) ?_
  refine ev_aload_n (i := 2) dX11_load_15 rfl rfl ?_
  refine ev_c1 kX11_load_16 (c9_mostLoads hS) (ev_rv_of (by first | assumption | rfl) rfl rfl) (by decide) (by decide) (Nat.le_of_ble_eq_true rfl) ?_
  refine ev_iconst (v := 1) dX11_load_19 cni_1 ?_
  refine ev_icmp_ge (tgt := 26) dX11_load_20 (by decide) (fun q20 => False.elim (Int32.not_le.mpr hm q20)) (fun q20 => ?_)
  refine ev_bipush (v := (-2)) dX11_load_23 cnb_m2 ?_
  exact ev_reti dX11_load_25 rfl rfl (⟨by first | rfl | simp [*], rfl⟩)
theorem c12_load_i {G : ev_G} {n : Nat} {M : ev_M} {g g' c0 c1 c2 : Nat} {lot : Int32} (h20 : M 21 = .inr (11, [.ref 22, .ref 25, .ref 27, .ref 35, .ref 39, .ref 40, .ref 41, .ref 63, .ref g, .ref g', .int lot])) (hG : M g = .inr (3, [.ref (g + 1), .ref (g + 2), .ref (g + 3), .int (nI c0), .int (nI c1), .int (nI c2)])) {x : Int32} (hx : x < 0 ∨ nI c0 ≤ x)  : ev_Cal G mX11_load 2 0 0 [.ref 21, .int x] n M (ev_is (some (.int (-1))) M) := by
  refine ev_Cal_of (L := [some (.ref 21), some (.int x), none]) (by decide +kernel) (Nat.le_of_ble_eq_true rfl) rfl ?_
  refine ev_aload_n (i := 0) dX11_load_0 rfl rfl ?_
  refine ev_getf dX11_load_1 flX11_64 (by first | assumption | rfl) (by rfl) ?_
  refine ev_iload_n (i := 1) dX11_load_4 rfl rfl ?_
  refine ev_c2 kX11_load_5 (c3_stickAt_out hG hx) (ev_rv_of (by first | assumption | rfl) rfl rfl) (by decide) (by decide) (Nat.le_of_ble_eq_true rfl) ?_
  refine ev_astore_nN (i := 2) dX11_load_8 rfl (Nat.le_of_ble_eq_true rfl) rfl ?_
  refine ev_aload_nN (i := 2) dX11_load_9 rfl rfl ?_
  refine ev_ifnonnullN dX11_load_10 ?_
  refine ev_iconst (v := (-1)) dX11_load_13 cni_m1 ?_
  exact ev_reti dX11_load_14 rfl rfl (⟨by first | rfl | simp [*], rfl⟩)
theorem c12_turn_ok {G : ev_G} {n : Nat} {M : ev_M} {g g' c0 c1 c2 : Nat} {lot : Int32} (h20 : M 21 = .inr (11, [.ref 22, .ref 25, .ref 27, .ref 35, .ref 39, .ref 40, .ref 41, .ref 63, .ref g, .ref g', .int lot])) (hG : M g = .inr (3, [.ref (g + 1), .ref (g + 2), .ref (g + 3), .int (nI c0), .int (nI c1), .int (nI c2)])) {fa : Nat → Option Nat} (hA : M (g + 1) = .inl (2, 12, ev_q fa)) (hfa : ∀ i, i < 12 → fa i = some (g + 4 + i)) {j : Nat} (hj : j < c0) (hc : c0 ≤ 12) {s : Nat → Int32} (hS : M (g + 4 + j) = .inr (9, [.int (s 0), .int (s 1), .int (s 2), .int (s 3), .int (s 4), .int (s 5), .int (s 6)]))  : ev_Cal G mX11_turn 2 0 0 [.ref 21, .int (nI j)] n M (ev_is (some (.int (1 - s 6))) (ev_set M (g + 4 + j) (.inr (9, [.int (s 0), .int (s 1), .int (s 2), .int (s 3), .int (s 4), .int (s 5), .int (1 - s 6)])))) := by
  refine ev_Cal_of (L := [some (.ref 21), some (.int (nI j)), none]) (by decide +kernel) (Nat.le_of_ble_eq_true rfl) rfl ?_
  refine ev_aload_n (i := 0) dX11_turn_0 rfl rfl ?_
  refine ev_getf dX11_turn_1 flX11_64 (by first | exact ev_set_eq | assumption) (by rfl) ?_
  refine ev_iload_n (i := 1) dX11_turn_4 rfl rfl ?_
  refine ev_c2 kX11_turn_5 (c3_stickAt_in hG hA hfa hj hc) (ev_rv_of (by first | exact ev_set_eq | assumption) rfl rfl) (by decide) (by decide) (Nat.le_of_ble_eq_true rfl) ?_
  refine ev_astore_n (i := 2) dX11_turn_8 rfl (Nat.le_of_ble_eq_true rfl) rfl ?_
  refine ev_aload_n (i := 2) dX11_turn_9 rfl rfl ?_
  refine ev_ifnonnull (tgt := 15) dX11_turn_10 (by decide) ?_
  refine ev_pre1 hS ?_
  refine ev_aload_n (i := 2) dX11_turn_15 rfl rfl ?_
  refine ev_iconst (v := 1) dX11_turn_16 cni_1 ?_
  refine ev_aload_n (i := 2) dX11_turn_17 rfl rfl ?_
  refine ev_getf dX11_turn_18 flX11_123 (by first | exact ev_set_eq | assumption) (by rfl) ?_
  refine ev_isub dX11_turn_21 ?_
  refine ev_putiU dX11_turn_22 fpX11_123 (Nat.le_of_ble_eq_true rfl) ?_
  refine ev_aload_n (i := 2) dX11_turn_25 rfl rfl ?_
  refine ev_getf dX11_turn_26 flX11_123 (by first | exact ev_set_eq | assumption) (by rfl) ?_
  exact ev_reti dX11_turn_29 rfl rfl (⟨by first | rfl | simp [*], rfl⟩)
theorem c12_turn_i {G : ev_G} {n : Nat} {M : ev_M} {g g' c0 c1 c2 : Nat} {lot : Int32} (h20 : M 21 = .inr (11, [.ref 22, .ref 25, .ref 27, .ref 35, .ref 39, .ref 40, .ref 41, .ref 63, .ref g, .ref g', .int lot])) (hG : M g = .inr (3, [.ref (g + 1), .ref (g + 2), .ref (g + 3), .int (nI c0), .int (nI c1), .int (nI c2)])) {x : Int32} (hx : x < 0 ∨ nI c0 ≤ x)  : ev_Cal G mX11_turn 2 0 0 [.ref 21, .int x] n M (ev_is (some (.int (-1))) M) := by
  refine ev_Cal_of (L := [some (.ref 21), some (.int x), none]) (by decide +kernel) (Nat.le_of_ble_eq_true rfl) rfl ?_
  refine ev_aload_n (i := 0) dX11_turn_0 rfl rfl ?_
  refine ev_getf dX11_turn_1 flX11_64 (by first | assumption | rfl) (by rfl) ?_
  refine ev_iload_n (i := 1) dX11_turn_4 rfl rfl ?_
  refine ev_c2 kX11_turn_5 (c3_stickAt_out hG hx) (ev_rv_of (by first | assumption | rfl) rfl rfl) (by decide) (by decide) (Nat.le_of_ble_eq_true rfl) ?_
  refine ev_astore_nN (i := 2) dX11_turn_8 rfl (Nat.le_of_ble_eq_true rfl) rfl ?_
  refine ev_aload_nN (i := 2) dX11_turn_9 rfl rfl ?_
  refine ev_ifnonnullN dX11_turn_10 ?_
  refine ev_iconst (v := (-1)) dX11_turn_13 cni_m1 ?_
  exact ev_reti dX11_turn_14 rfl rfl (⟨by first | rfl | simp [*], rfl⟩)
theorem c12_clear {G : ev_G} {n : Nat} {M : ev_M} {g g' : Nat} {lot x pl : Int32} (h20 : M 21 = .inr (11, [.ref 22, .ref 25, .ref 27, .ref 35, .ref 39, .ref 40, .ref 41, .ref 63, .ref g, .ref g', .int lot])) (hT2 : M 22 = .inr (7, [.ref 23, .ref 24, .int (pl), .int (x)])) : ev_Cal G mX11_clear 2 0 0 [.ref 21] n M (ev_is (some (.int x)) (ev_set M 22 (.inr (7, [.ref 23, .ref 24, .int (pl), .int (0)])))) := by
  refine ev_Cal_of (L := [some (.ref 21)]) (by decide +kernel) (Nat.le_of_ble_eq_true rfl) rfl ?_
  refine ev_aload_n (i := 0) dX11_clear_0 rfl rfl ?_
  refine ev_getf dX11_clear_1 flX11_10 (by first | assumption | rfl) (by rfl) ?_
  refine ev_c1 kX11_clear_4 (c10_empty hT2) (ev_rv_of (by first | assumption | rfl) rfl rfl) (by decide) (by decide) (Nat.le_of_ble_eq_true rfl) ?_
  exact ev_reti dX11_clear_7 rfl rfl (⟨by first | rfl | simp [*], rfl⟩)
theorem c12_lot {G : ev_G} {n : Nat} {M : ev_M} {g g' : Nat} {lot v : Int32} (h20 : M 21 = .inr (11, [.ref 22, .ref 25, .ref 27, .ref 35, .ref 39, .ref 40, .ref 41, .ref 63, .ref g, .ref g', .int lot])) : ev_Cal G mX11_lot 1 0 0 [.ref 21, .int v] n M (ev_is (some (.int lot)) (ev_set M 21 (.inr (11, [.ref 22, .ref 25, .ref 27, .ref 35, .ref 39, .ref 40, .ref 41, .ref 63, .ref g, .ref g', .int v])))) := by
  refine ev_Cal_of (L := [some (.ref 21), some (.int v), none]) (by decide +kernel) (Nat.le_of_ble_eq_true rfl) rfl ?_
  refine ev_aload_n (i := 0) dX11_lot_0 rfl rfl ?_
  refine ev_getf dX11_lot_1 flX11_71 (by first | assumption | rfl) (by rfl) ?_
  refine ev_istore_n (i := 2) dX11_lot_4 rfl (Nat.le_of_ble_eq_true rfl) rfl ?_
  refine ev_aload_n (i := 0) dX11_lot_5 rfl rfl ?_
  refine ev_iload_n (i := 1) dX11_lot_6 rfl rfl ?_
  refine ev_puti dX11_lot_7 fpX11_71 (by first | assumption | rfl) (by exact Nat.le_of_ble_eq_true rfl) ?_
  refine ev_iload_n (i := 2) dX11_lot_10 rfl rfl ?_
  exact ev_reti dX11_lot_11 rfl rfl (⟨by first | rfl | simp [*], rfl⟩)
theorem c12_trace {G : ev_G} {n : Nat} {M : ev_M} {g g' : Nat} {lot : Int32} {tr : Int64} (h20 : M 21 = .inr (11, [.ref 22, .ref 25, .ref 27, .ref 35, .ref 39, .ref 40, .ref 41, .ref 63, .ref g, .ref g', .int lot])) (h40 : M 40 = .inr (5, [.long tr])) : ev_Cal G mX11_trace 1 0 0 [.ref 21] n M (ev_is (some (.long tr)) M) := by
  refine ev_Cal_of (L := [some (.ref 21)]) (by decide +kernel) (Nat.le_of_ble_eq_true rfl) rfl ?_
  refine ev_aload_n (i := 0) dX11_trace_0 rfl rfl ?_
  refine ev_getf dX11_trace_1 flX11_47 (by first | assumption | rfl) (by rfl) ?_
  refine ev_getf dX11_trace_4 flX11_281 (by first | assumption | rfl) (by rfl) ?_
  exact ev_retl dX11_trace_7 rfl (⟨rfl, rfl⟩)
