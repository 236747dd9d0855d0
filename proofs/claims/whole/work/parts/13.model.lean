/-! ===== contracts: the model's small methods ===== -/
theorem sp_in_ix {j k : Nat} (h : j < k) (hk : k < 2 ^ 31) : sp_in (nI j) 0 (nI k - 1) = true := by
  obtain ⟨q, rfl⟩ : ∃ q, k = q + 1 := ⟨k - 1, by omega⟩
  rw [nI_pred]
  exact sp_in_t (nI_pos' (by omega)) (nI_le (by omega) (by omega))
theorem sp_in_out {x : Int32} {k : Nat} (hk : k < 2 ^ 31) (h : x < 0 ∨ nI k ≤ x) : sp_in x 0 (nI k - 1) = false := by
  rcases h with h | h
  · exact sp_in_1 h
  · by_cases h0 : x < 0
    · exact sp_in_1 h0
    · obtain ⟨i, hi, rfl⟩ := nI_of h0
      have h2 := (nI_leI hk hi).mp h
      cases k with
      | zero => exact sp_in_2 (by show nI 0 - 1 < nI i; rw [Int32.lt_iff_toInt_lt, nI_toInt hi]; have e : (nI 0 - 1).toInt = -1 := by decide
                                  rw [e]; omega)
      | succ q => rw [nI_pred]; exact sp_in_2 (nI_lt (by omega) hi)
theorem nI_mul (a b : Nat) : nI a * nI b = nI (a * b) := (Int32.ofNat_mul a b).symm
theorem ev_ixc {x : Int32} {j : Nat} (h : x = nI j) (hj : j < 2 ^ 31) : ev_ix x j := by rw [h]; exact ev_ix_nI hj
theorem ev_ix7 (j k : Nat) (h : 7 * j + k < 2 ^ 31) : ev_ix (nI 7 * nI j + nI k) (7 * j + k) := ev_ixc (by rw [nI_mul, nI_add]) h
theorem ev_ix2 (j k : Nat) (h : 2 * j + k < 2 ^ 31) : ev_ix (nI 2 * nI j + nI k) (2 * j + k) := ev_ixc (by rw [nI_mul, nI_add]) h
theorem ev_ix20 (j : Nat) (h : 2 * j < 2 ^ 31) : ev_ix (nI 2 * nI j) (2 * j) := ev_ixc (by rw [nI_mul]) h
theorem ev_ixa (a k : Nat) (h : a + k < 2 ^ 31) : ev_ix (nI a + nI k) (a + k) := ev_ixc (by rw [nI_add]) h
theorem ev_ixa3 (a : Nat) (h : a + 3 < 2 ^ 31) : ev_ix (nI a + nI 2 + nI 1) (a + 3) := ev_ixc (by rw [nI_add, nI_add]) h
theorem sp_sub2 (a b c : Int32) : a - b - c = a - (b + c) := by
  simp only [Int32.sub_eq_add_neg, Int32.neg_add, Int32.add_assoc]
theorem c13_in {G : ev_G} {n : Nat} {M : ev_M} {v lo hi : Int32} : ev_Cal G mX12_in 1 0 0 [.int v, .int lo, .int hi] n M (ev_is (some (.int (ev_b (sp_in v lo hi)))) M) := by
  refine ev_Cal_of (L := [some (.int v), some (.int lo), some (.int hi)]) (by decide +kernel) (Nat.le_of_ble_eq_true rfl) rfl ?_
  refine ev_iload_n (i := 0) dX12_in_0 rfl rfl ?_
  refine ev_iload_n (i := 1) dX12_in_1 rfl rfl ?_
  refine ev_icmp_lt (tgt := 14) dX12_in_2 (by decide) (fun h1 => ?_) (fun h1 => ?_)
  · skip
    refine ev_iconst (v := 0) dX12_in_14 cni_0 ?_
    exact ev_reti dX12_in_15 rfl rfl (⟨by first | rw [sp_in_t h1 h2]; rfl | rw [sp_in_1 h1]; rfl | rw [sp_in_2 h2]; rfl, rfl⟩)
  · skip
    refine ev_iload_n (i := 0) dX12_in_5 rfl rfl ?_
    refine ev_iload_n (i := 2) dX12_in_6 rfl rfl ?_
    refine ev_icmp_gt (tgt := 14) dX12_in_7 (by decide) (fun h2 => ?_) (fun h2 => ?_)
    · skip
      refine ev_iconst (v := 0) dX12_in_14 cni_0 ?_
      exact ev_reti dX12_in_15 rfl rfl (⟨by first | rw [sp_in_t h1 h2]; rfl | rw [sp_in_1 h1]; rfl | rw [sp_in_2 h2]; rfl, rfl⟩)
    · skip
      refine ev_iconst (v := 1) dX12_in_10 cni_1 ?_
      refine ev_goto (tgt := 15) dX12_in_11 (by decide) ?_
      exact ev_reti dX12_in_15 rfl rfl (⟨by first | rw [sp_in_t h1 h2]; rfl | rw [sp_in_1 h1]; rfl | rw [sp_in_2 h2]; rfl, rfl⟩)
theorem c13_size {G : ev_G} {n : Nat} {M : ev_M} {v : Int32} : ev_Cal G mX12_size 1 0 0 [.int v] n M (ev_is (some (.int (sp_abs v))) M) := by
  refine ev_Cal_of (L := [some (.int v)]) (by decide +kernel) (Nat.le_of_ble_eq_true rfl) rfl ?_
  refine ev_iload_n (i := 0) dX12_size_0 rfl rfl ?_
  refine ev_if_ge (tgt := 9) dX12_size_1 (by decide) (fun h1 => ?_) (fun h1 => ?_)
  · skip
    refine ev_iload_n (i := 0) dX12_size_9 rfl rfl ?_
    exact ev_reti dX12_size_10 rfl rfl (⟨by rw [sp_abs]; first | rw [if_pos h1] | (rw [if_neg (Int32.not_le.mpr h1), Int32.zero_sub]), rfl⟩)
  · skip
    refine ev_iload_n (i := 0) dX12_size_4 rfl rfl ?_
    refine ev_ineg dX12_size_5 ?_
    refine ev_goto (tgt := 10) dX12_size_6 (by decide) ?_
    exact ev_reti dX12_size_10 rfl rfl (⟨by rw [sp_abs]; first | rw [if_pos h1] | (rw [if_neg (Int32.not_le.mpr h1), Int32.zero_sub]), rfl⟩)
theorem c13_isStick {G : ev_G} {n : Nat} {M : ev_M} {th tn nx tk pl va fa c0 c1 c2 d0 d1 d2 sp of ba go dr ki : Int32} {tr up dn : Int64} (h129 : M 129 = md_o th tr tn nx tk pl va fa c0 c1 c2 d0 d1 d2 sp of ba go dr ki up dn) {x : Int32} : ev_Cal G mX12_isStick 2 0 0 [.ref 129, .int x] n M (ev_is (some (.int (ev_b (sp_in x 0 (c0 - 1))))) M) := by
  refine ev_Cal_of (L := [some (.ref 129), some (.int x)]) (by decide +kernel) (Nat.le_of_ble_eq_true rfl) rfl ?_
  refine ev_iload_n (i := 1) dX12_isStick_0 rfl rfl ?_
  refine ev_iconst (v := 0) dX12_isStick_1 cni_0 ?_
  refine ev_aload_n (i := 0) dX12_isStick_2 rfl rfl ?_
  refine ev_getf dX12_isStick_3 flX12_127 (by first | assumption | rfl) (by rfl) ?_
  refine ev_iconst (v := 1) dX12_isStick_6 cni_1 ?_
  refine ev_isub dX12_isStick_7 ?_
  refine ev_c3 kX12_isStick_8 (c13_in) trivial (by decide) (by decide) (Nat.le_of_ble_eq_true rfl) ?_
  exact ev_retz dX12_isStick_11 rfl (⟨by first | rfl | simp [*], rfl⟩)
theorem c13_isBow {G : ev_G} {n : Nat} {M : ev_M} {th tn nx tk pl va fa c0 c1 c2 d0 d1 d2 sp of ba go dr ki : Int32} {tr up dn : Int64} (h129 : M 129 = md_o th tr tn nx tk pl va fa c0 c1 c2 d0 d1 d2 sp of ba go dr ki up dn) {x : Int32} : ev_Cal G mX12_isBow 2 0 0 [.ref 129, .int x] n M (ev_is (some (.int (ev_b (sp_in x 0 (c1 - 1))))) M) := by
  refine ev_Cal_of (L := [some (.ref 129), some (.int x)]) (by decide +kernel) (Nat.le_of_ble_eq_true rfl) rfl ?_
  refine ev_iload_n (i := 1) dX12_isBow_0 rfl rfl ?_
  refine ev_iconst (v := 0) dX12_isBow_1 cni_0 ?_
  refine ev_aload_n (i := 0) dX12_isBow_2 rfl rfl ?_
  refine ev_getf dX12_isBow_3 flX12_130 (by first | assumption | rfl) (by rfl) ?_
  refine ev_iconst (v := 1) dX12_isBow_6 cni_1 ?_
  refine ev_isub dX12_isBow_7 ?_
  refine ev_c3 kX12_isBow_8 (c13_in) trivial (by decide) (by decide) (Nat.le_of_ble_eq_true rfl) ?_
  exact ev_retz dX12_isBow_11 rfl (⟨by first | rfl | simp [*], rfl⟩)
theorem c13_isAct {G : ev_G} {n : Nat} {M : ev_M} {x : Int32} : ev_Cal G mX12_isAct 2 0 0 [.int x] n M (ev_is (some (.int (ev_b (sp_in x 0 4)))) M) := by
  refine ev_Cal_of (L := [some (.int x)]) (by decide +kernel) (Nat.le_of_ble_eq_true rfl) rfl ?_
  refine ev_iload_n (i := 0) dX12_isAct_0 rfl rfl ?_
  refine ev_iconst (v := 0) dX12_isAct_1 cni_0 ?_
  refine ev_iconst (v := 4) dX12_isAct_2 cni_4 ?_
  refine ev_c3 kX12_isAct_3 (c13_in) trivial (by decide) (by decide) (Nat.le_of_ble_eq_true rfl) ?_
  exact ev_retz dX12_isAct_6 rfl (⟨by first | rfl | simp [*], rfl⟩)
theorem c13_areSame {G : ev_G} {n : Nat} {M : ev_M} {d e : Int32} : ev_Cal G mX12_areSame 2 0 0 [.int d, .int e] n M (ev_is (some (.int (ev_b (sp_in d 0 999 && sp_in e 0 999)))) M) := by
  refine ev_Cal_of (L := [some (.int d), some (.int e)]) (by decide +kernel) (Nat.le_of_ble_eq_true rfl) rfl ?_
  refine ev_iload_n (i := 0) dX12_areSame_0 rfl rfl ?_
  refine ev_iconst (v := 0) dX12_areSame_1 cni_0 ?_
  refine ev_sipush (v := 999) dX12_areSame_2 cns_999 ?_
  refine ev_c3 kX12_areSame_5 (c13_in) trivial (by decide) (by decide) (Nat.le_of_ble_eq_true rfl) ?_
  refine ev_if_eqb (tgt := 26) dX12_areSame_8 (by decide) (fun h8 => ?_) (fun h8 => ?_)
  · skip
    refine ev_iconst (v := 0) dX12_areSame_26 cni_0 ?_
    exact ev_reti dX12_areSame_27 rfl rfl (⟨by simp [*, ev_b], rfl⟩)
  · skip
    refine ev_iload_n (i := 1) dX12_areSame_11 rfl rfl ?_
    refine ev_iconst (v := 0) dX12_areSame_12 cni_0 ?_
    refine ev_sipush (v := 999) dX12_areSame_13 cns_999 ?_
    refine ev_c3 kX12_areSame_16 (c13_in) trivial (by decide) (by decide) (Nat.le_of_ble_eq_true rfl) ?_
    refine ev_if_eqb (tgt := 26) dX12_areSame_19 (by decide) (fun h19 => ?_) (fun h19 => ?_)
    · skip
      refine ev_iconst (v := 0) dX12_areSame_26 cni_0 ?_
      exact ev_reti dX12_areSame_27 rfl rfl (⟨by simp [*, ev_b], rfl⟩)
    · skip
      refine ev_iconst (v := 1) dX12_areSame_22 cni_1 ?_
      refine ev_goto (tgt := 27) dX12_areSame_23 (by decide) ?_
      exact ev_reti dX12_areSame_27 rfl rfl (⟨by simp [*, ev_b], rfl⟩)
theorem c13_mayScrape {G : ev_G} {n : Nat} {M : ev_M} {s : Nat → Int32} (hs : M 131 = .inl (0, 386, .inl s)) {a : Nat} (ha : a + 3 < 386) {t : Int32} : ev_Cal G mX12_mayScrape 1 0 0 [.ref 129, .ref 131, .int (nI a), .int t] n M (ev_is (some (.int (ev_b (decide (20 ≤ s (a + 2) - t) && decide (20 ≤ s (a + 3) - t) && decide (200 ≤ s (a + 1) - 2 * t))))) M) := by
  refine ev_Cal_of (L := [some (.ref 129), some (.ref 131), some (.int (nI a)), some (.int t)]) (by decide +kernel) (Nat.le_of_ble_eq_true rfl) rfl ?_
  refine ev_aload_n (i := 1) dX12_mayScrape_0 rfl rfl ?_
  refine ev_iload_n (i := 2) dX12_mayScrape_1 rfl rfl ?_
  refine ev_iconst (v := 2) dX12_mayScrape_2 cni_2 ?_
  refine ev_iadd dX12_mayScrape_3 ?_
  refine ev_iald (j := a + 2) dX12_mayScrape_4 (by first | assumption | rfl) (ev_ixa a 2 (by omega)) (by omega) ?_
  refine ev_iload_n (i := 3) dX12_mayScrape_5 rfl rfl ?_
  refine ev_isub dX12_mayScrape_6 ?_
  refine ev_bipush (v := 20) dX12_mayScrape_7 cnb_20 ?_
  refine ev_icmp_lt (tgt := 45) dX12_mayScrape_9 (by decide) (fun h9 => ?_) (fun h9 => ?_)
  · skip
    refine ev_iconst (v := 0) dX12_mayScrape_45 cni_0 ?_
    exact ev_reti dX12_mayScrape_46 rfl rfl (⟨by first | (rw [decide_eq_true h9, decide_eq_true h23, decide_eq_true h38]; rfl) | (rw [decide_eq_false (Int32.not_le.mpr h9)]; rfl) | (rw [decide_eq_false (Int32.not_le.mpr h23), Bool.and_false]; rfl) | (rw [decide_eq_false (Int32.not_le.mpr h38), Bool.and_false]; rfl), rfl⟩)
  · skip
    refine ev_aload_n (i := 1) dX12_mayScrape_12 rfl rfl ?_
    refine ev_iload_n (i := 2) dX12_mayScrape_13 rfl rfl ?_
    refine ev_iconst (v := 2) dX12_mayScrape_14 cni_2 ?_
    refine ev_iadd dX12_mayScrape_15 ?_
    refine ev_iconst (v := 1) dX12_mayScrape_16 cni_1 ?_
    refine ev_iadd dX12_mayScrape_17 ?_
    refine ev_iald (j := a + 3) dX12_mayScrape_18 (by first | assumption | rfl) (ev_ixa3 a (by omega)) (by omega) ?_
    refine ev_iload_n (i := 3) dX12_mayScrape_19 rfl rfl ?_
    refine ev_isub dX12_mayScrape_20 ?_
    refine ev_bipush (v := 20) dX12_mayScrape_21 cnb_20 ?_
    refine ev_icmp_lt (tgt := 45) dX12_mayScrape_23 (by decide) (fun h23 => ?_) (fun h23 => ?_)
    · skip
      refine ev_iconst (v := 0) dX12_mayScrape_45 cni_0 ?_
      exact ev_reti dX12_mayScrape_46 rfl rfl (⟨by first | (rw [decide_eq_true h9, decide_eq_true h23, decide_eq_true h38]; rfl) | (rw [decide_eq_false (Int32.not_le.mpr h9)]; rfl) | (rw [decide_eq_false (Int32.not_le.mpr h23), Bool.and_false]; rfl) | (rw [decide_eq_false (Int32.not_le.mpr h38), Bool.and_false]; rfl), rfl⟩)
    · skip
      refine ev_aload_n (i := 1) dX12_mayScrape_26 rfl rfl ?_
      refine ev_iload_n (i := 2) dX12_mayScrape_27 rfl rfl ?_
      refine ev_iconst (v := 1) dX12_mayScrape_28 cni_1 ?_
      refine ev_iadd dX12_mayScrape_29 ?_
      refine ev_iald (j := a + 1) dX12_mayScrape_30 (by first | assumption | rfl) (ev_ixa a 1 (by omega)) (by omega) ?_
      refine ev_iconst (v := 2) dX12_mayScrape_31 cni_2 ?_
      refine ev_iload_n (i := 3) dX12_mayScrape_32 rfl rfl ?_
      refine ev_imul dX12_mayScrape_33 ?_
      refine ev_isub dX12_mayScrape_34 ?_
      refine ev_sipush (v := 200) dX12_mayScrape_35 cns_200 ?_
      refine ev_icmp_lt (tgt := 45) dX12_mayScrape_38 (by decide) (fun h38 => ?_) (fun h38 => ?_)
      · skip
        refine ev_iconst (v := 0) dX12_mayScrape_45 cni_0 ?_
        exact ev_reti dX12_mayScrape_46 rfl rfl (⟨by first | (rw [decide_eq_true h9, decide_eq_true h23, decide_eq_true h38]; rfl) | (rw [decide_eq_false (Int32.not_le.mpr h9)]; rfl) | (rw [decide_eq_false (Int32.not_le.mpr h23), Bool.and_false]; rfl) | (rw [decide_eq_false (Int32.not_le.mpr h38), Bool.and_false]; rfl), rfl⟩)
      · skip
        refine ev_iconst (v := 1) dX12_mayScrape_41 cni_1 ?_
        refine ev_goto (tgt := 46) dX12_mayScrape_42 (by decide) ?_
        exact ev_reti dX12_mayScrape_46 rfl rfl (⟨by first | (rw [decide_eq_true h9, decide_eq_true h23, decide_eq_true h38]; rfl) | (rw [decide_eq_false (Int32.not_le.mpr h9)]; rfl) | (rw [decide_eq_false (Int32.not_le.mpr h23), Bool.and_false]; rfl) | (rw [decide_eq_false (Int32.not_le.mpr h38), Bool.and_false]; rfl), rfl⟩)
theorem l13_lays {G : ev_G} {n : Nat} {M : ev_M} {th tn nx tk pl va fa c0 c1 c2 d0 d1 d2 sp of ba go dr ki : Int32} {tr up dn : Int64} (h129 : M 129 = md_o th tr tn nx tk pl va fa c0 c1 c2 d0 d1 d2 sp of ba go dr ki up dn) {s : Nat → Int32} (hs : M 131 = .inl (0, 386, .inl s)) {j : Nat} (hj : 7 * j + 7 ≤ 386) : ∀ (m k : Nat) (o2 : Nat → Int32), k + m = 7 → (∀ q, q < k → o2 q = s (7 * j + q)) → ev_E G mX12_lays 1 0 0 n (ev_set M 140 (.inl (0, 7, .inl o2))) 2 [some (.ref 129), some (.int (nI j)), some (.int (nI k))] [] (fun r M1 => r = none ∧ ∃ o2 : Nat → Int32, M1 = ev_set M 140 (.inl (0, 7, .inl o2)) ∧ ∀ q, q < 7 → o2 q = s (7 * j + q)) := by
  intro m
  induction m with
  | zero =>
    intro k o2 hk ho
    refine ev_iload_n (i := 2) dX12_lays_2 rfl rfl ?_
    refine ev_bipush (v := 7) dX12_lays_3 cnb_7 ?_
    refine ev_icmp_ge (tgt := 31) dX12_lays_5 (by decide) (fun h5 => ?_) (fun h5 => False.elim (Int32.not_le.mpr h5 (nI_le (a := 7) (b := k) (by omega) (by omega))))
    exact ev_retv dX12_lays_31 rfl (⟨rfl, o2, rfl, fun q hq => ho q (by omega)⟩)
  | succ m ih =>
    intro k o2 hk ho
    refine ev_iload_n (i := 2) dX12_lays_2 rfl rfl ?_
    refine ev_bipush (v := 7) dX12_lays_3 cnb_7 ?_
    refine ev_icmp_ge (tgt := 31) dX12_lays_5 (by decide) (fun h5 => False.elim (nI_ge (a := k) (b := 7) (by omega) (by decide) h5)) (fun h5 => ?_)
    refine ev_aload_n (i := 0) dX12_lays_8 rfl rfl ?_
    refine ev_getf dX12_lays_9 flX12_41 (by first | exact ev_set_eq | exact (ev_set_ne (by decide)).trans h129 | exact (ev_set_ne (by decide)).trans hs) (by rfl) ?_
    refine ev_iload_n (i := 2) dX12_lays_12 rfl rfl ?_
    refine ev_aload_n (i := 0) dX12_lays_13 rfl rfl ?_
    refine ev_getf dX12_lays_14 flX12_13 (by first | exact ev_set_eq | exact (ev_set_ne (by decide)).trans h129 | exact (ev_set_ne (by decide)).trans hs) (by rfl) ?_
    refine ev_bipush (v := 7) dX12_lays_17 cnb_7 ?_
    refine ev_iload_n (i := 1) dX12_lays_19 rfl rfl ?_
    refine ev_imul dX12_lays_20 ?_
    refine ev_iload_n (i := 2) dX12_lays_21 rfl rfl ?_
    refine ev_iadd dX12_lays_22 ?_
    refine ev_iald (j := 7 * j + k) dX12_lays_23 (by first | exact ev_set_eq | exact (ev_set_ne (by decide)).trans h129 | exact (ev_set_ne (by decide)).trans hs) (ev_ix7 j k (by omega)) (by omega) ?_
    refine ev_iastU (j := k) dX12_lays_24 (ev_ix_nI (by omega)) (by omega) ?_
    refine ev_iinc (v := nI (k + 1)) dX12_lays_25 rfl (nI_1 k) (Nat.le_of_ble_eq_true rfl) rfl ?_
    refine ev_goto (tgt := 2) dX12_lays_28 (by decide) ?_
    refine ih (k + 1) _ (by omega) (fun q hq => ?_)
    by_cases hqk : q = k
    · rw [hqk]; exact if_pos rfl
    · exact (if_neg hqk).trans (ho q (by omega))
theorem c13_lays {G : ev_G} {n : Nat} {M : ev_M} {th tn nx tk pl va fa c0 c1 c2 d0 d1 d2 sp of ba go dr ki : Int32} {tr up dn : Int64} (h129 : M 129 = md_o th tr tn nx tk pl va fa c0 c1 c2 d0 d1 d2 sp of ba go dr ki up dn) {s : Nat → Int32} (hs : M 131 = .inl (0, 386, .inl s)) {o : Nat → Int32} (hO : M 140 = .inl (0, 7, .inl o)) {j : Nat} (hj : 7 * j + 7 ≤ 386) : ev_Cal G mX12_lays 1 0 0 [.ref 129, .int (nI j)] n M (fun r M1 => r = none ∧ ∃ o2 : Nat → Int32, M1 = ev_set M 140 (.inl (0, 7, .inl o2)) ∧ ∀ q, q < 7 → o2 q = s (7 * j + q)) := by
  refine ev_Cal_of (L := [some (.ref 129), some (.int (nI j)), none]) (by decide +kernel) (Nat.le_of_ble_eq_true rfl) rfl ?_
  refine ev_iconst (v := 0) dX12_lays_0 cni_0 ?_
  refine ev_istore_n (i := 2) dX12_lays_1 rfl (Nat.le_of_ble_eq_true rfl) rfl ?_
  refine ev_pre1 hO ?_
  exact l13_lays h129 hs hj 7 0 o rfl (fun q hq => absurd hq (Nat.not_lt_zero q))
theorem c13_kindOf {G : ev_G} {n : Nat} {M : ev_M} {th tn nx tk pl va fa c0 c1 c2 d0 d1 d2 sp of ba go dr ki : Int32} {tr up dn : Int64} (h129 : M 129 = md_o th tr tn nx tk pl va fa c0 c1 c2 d0 d1 d2 sp of ba go dr ki up dn) {tu : Nat → Int32} (hV : M 139 = .inl (0, 4, .inl tu)) {x : Int32} : ev_Cal G mX12_kindOf 2 0 0 [.ref 129, .int x] n M (ev_is (some (.int (sp_kind (tu 0) (tu 1) x))) M) := by
  refine ev_Cal_of (L := [some (.ref 129), some (.int x)]) (by decide +kernel) (Nat.le_of_ble_eq_true rfl) rfl ?_
  refine ev_iload_n (i := 1) dX12_kindOf_0 rfl rfl ?_
  refine ev_c1 kX12_kindOf_1 (c13_size) trivial (by decide) (by decide) (Nat.le_of_ble_eq_true rfl) ?_
  refine ev_aload_n (i := 0) dX12_kindOf_4 rfl rfl ?_
  refine ev_getf dX12_kindOf_5 flX12_38 (by first | assumption | rfl) (by rfl) ?_
  refine ev_iconst (v := 0) dX12_kindOf_8 cni_0 ?_
  refine ev_iald (j := 0) dX12_kindOf_9 (by first | assumption | rfl) (by decide) (by decide) ?_
  refine ev_icmp_gt (tgt := 17) dX12_kindOf_10 (by decide) (fun h1 => ?_) (fun h1 => ?_)
  · skip
    refine ev_iload_n (i := 1) dX12_kindOf_17 rfl rfl ?_
    refine ev_c1 kX12_kindOf_18 (c13_size) trivial (by decide) (by decide) (Nat.le_of_ble_eq_true rfl) ?_
    refine ev_aload_n (i := 0) dX12_kindOf_21 rfl rfl ?_
    refine ev_getf dX12_kindOf_22 flX12_38 (by first | assumption | rfl) (by rfl) ?_
    refine ev_iconst (v := 1) dX12_kindOf_25 cni_1 ?_
    refine ev_iald (j := 1) dX12_kindOf_26 (by first | assumption | rfl) (by decide) (by decide) ?_
    refine ev_icmp_le (tgt := 34) dX12_kindOf_27 (by decide) (fun h2 => ?_) (fun h2 => ?_)
    · skip
      refine ev_iload_n (i := 1) dX12_kindOf_34 rfl rfl ?_
      refine ev_if_le (tgt := 42) dX12_kindOf_35 (by decide) (fun h3 => ?_) (fun h3 => ?_)
      · skip
        refine ev_iconst (v := 5) dX12_kindOf_42 cni_5 ?_
        exact ev_reti dX12_kindOf_43 rfl rfl (⟨by rw [sp_kind]; first | rw [if_pos h1] | (rw [if_neg (Int32.not_le.mpr h1)]; first | rw [if_pos h2] | (rw [if_neg (Int32.not_lt.mpr h2)]; first | rw [if_pos h3] | rw [if_neg (Int32.not_lt.mpr h3)])), rfl⟩)
      · skip
        refine ev_iconst (v := 2) dX12_kindOf_38 cni_2 ?_
        refine ev_goto (tgt := 43) dX12_kindOf_39 (by decide) ?_
        exact ev_reti dX12_kindOf_43 rfl rfl (⟨by rw [sp_kind]; first | rw [if_pos h1] | (rw [if_neg (Int32.not_le.mpr h1)]; first | rw [if_pos h2] | (rw [if_neg (Int32.not_lt.mpr h2)]; first | rw [if_pos h3] | rw [if_neg (Int32.not_lt.mpr h3)])), rfl⟩)
    · skip
      refine ev_iconst (v := 4) dX12_kindOf_30 cni_4 ?_
      refine ev_goto (tgt := 43) dX12_kindOf_31 (by decide) ?_
      exact ev_reti dX12_kindOf_43 rfl rfl (⟨by rw [sp_kind]; first | rw [if_pos h1] | (rw [if_neg (Int32.not_le.mpr h1)]; first | rw [if_pos h2] | (rw [if_neg (Int32.not_lt.mpr h2)]; first | rw [if_pos h3] | rw [if_neg (Int32.not_lt.mpr h3)])), rfl⟩)
  · skip
    refine ev_iconst (v := 1) dX12_kindOf_13 cni_1 ?_
    refine ev_goto (tgt := 43) dX12_kindOf_14 (by decide) ?_
    exact ev_reti dX12_kindOf_43 rfl rfl (⟨by rw [sp_kind]; first | rw [if_pos h1] | (rw [if_neg (Int32.not_le.mpr h1)]; first | rw [if_pos h2] | (rw [if_neg (Int32.not_lt.mpr h2)]; first | rw [if_pos h3] | rw [if_neg (Int32.not_lt.mpr h3)])), rfl⟩)
theorem c13_bareOf {G : ev_G} {n : Nat} {M : ev_M} {th tn nx tk pl va fa c0 c1 c2 d0 d1 d2 sp of ba go dr ki : Int32} {tr up dn : Int64} (h129 : M 129 = md_o th tr tn nx tk pl va fa c0 c1 c2 d0 d1 d2 sp of ba go dr ki up dn) {tu : Nat → Int32} (hV : M 139 = .inl (0, 4, .inl tu)) {x : Int32} (hn : -x * tu 2 / 10 = -(x * tu 2 / 10)) : ev_Cal G mX12_bareOf 3 0 0 [.ref 129, .int x] n M (ev_is (some (.int (sp_bare (tu 0) (tu 1) (tu 2) x))) M) := by
  refine ev_Cal_of (L := [some (.ref 129), some (.int x), none, none]) (by decide +kernel) (Nat.le_of_ble_eq_true rfl) rfl ?_
  refine ev_aload_n (i := 0) dX12_bareOf_0 rfl rfl ?_
  refine ev_iload_n (i := 1) dX12_bareOf_1 rfl rfl ?_
  refine ev_c2 kX12_bareOf_2 (c13_kindOf h129 hV) (ev_rv_of (by first | assumption | rfl) rfl rfl) (by decide) (by decide) (Nat.le_of_ble_eq_true rfl) ?_
  refine ev_istore_n (i := 2) dX12_bareOf_5 rfl (Nat.le_of_ble_eq_true rfl) rfl ?_
  refine ev_iload_n (i := 1) dX12_bareOf_6 rfl rfl ?_
  refine ev_ineg dX12_bareOf_7 ?_
  refine ev_aload_n (i := 0) dX12_bareOf_8 rfl rfl ?_
  refine ev_getf dX12_bareOf_9 flX12_38 (by first | assumption | rfl) (by rfl) ?_
  refine ev_iconst (v := 2) dX12_bareOf_12 cni_2 ?_
  refine ev_iald (j := 2) dX12_bareOf_13 (by first | assumption | rfl) (by decide) (by decide) ?_
  refine ev_imul dX12_bareOf_14 ?_
  refine ev_bipush (v := 10) dX12_bareOf_15 cnb_10 ?_
  refine ev_idiv dX12_bareOf_17 (by decide) ?_
  refine ev_topi hn ?_
  refine ev_istore_n (i := 3) dX12_bareOf_18 rfl (Nat.le_of_ble_eq_true rfl) rfl ?_
  refine ev_iload_n (i := 2) dX12_bareOf_19 rfl rfl ?_
  refine ev_iconst (v := 1) dX12_bareOf_20 cni_1 ?_
  refine ev_icmp_ne (tgt := 28) dX12_bareOf_21 (by decide) (fun h1 => ?_) (fun h1 => ?_)
  · skip
    refine ev_iload_n (i := 2) dX12_bareOf_28 rfl rfl ?_
    refine ev_iconst (v := 4) dX12_bareOf_29 cni_4 ?_
    refine ev_icmp_ne (tgt := 39) dX12_bareOf_30 (by decide) (fun h2 => ?_) (fun h2 => ?_)
    · skip
      refine ev_iload_n (i := 3) dX12_bareOf_39 rfl rfl ?_
      exact ev_reti dX12_bareOf_40 rfl rfl (⟨by rw [sp_bare]; first | rw [if_pos h1] | (rw [if_neg h1]; first | rw [if_pos h2] | rw [if_neg h2]), rfl⟩)
    · skip
      refine ev_iconst (v := 2) dX12_bareOf_33 cni_2 ?_
      refine ev_iload_n (i := 3) dX12_bareOf_34 rfl rfl ?_
      refine ev_imul dX12_bareOf_35 ?_
      refine ev_goto (tgt := 40) dX12_bareOf_36 (by decide) ?_
      exact ev_reti dX12_bareOf_40 rfl rfl (⟨by rw [sp_bare]; first | rw [if_pos h1] | (rw [if_neg h1]; first | rw [if_pos h2] | rw [if_neg h2]), rfl⟩)
  · skip
    refine ev_iconst (v := 0) dX12_bareOf_24 cni_0 ?_
    refine ev_goto (tgt := 40) dX12_bareOf_25 (by decide) ?_
    exact ev_reti dX12_bareOf_40 rfl rfl (⟨by rw [sp_bare]; first | rw [if_pos h1] | (rw [if_neg h1]; first | rw [if_pos h2] | rw [if_neg h2]), rfl⟩)
theorem c13_flies0 {G : ev_G} {n : Nat} {M : ev_M} {th tn nx tk pl va fa c0 c1 c2 d0 d1 d2 sp of ba go dr ki : Int32} {tr up dn : Int64} (h129 : M 129 = md_o th tr tn nx tk pl va fa c0 c1 c2 d0 d1 d2 sp of ba go dr ki up dn) {tu : Nat → Int32} (hV : M 139 = .inl (0, 4, .inl tu)) {o : Nat → Int32} (hO : M 140 = .inl (0, 7, .inl o)) {draw wide : Int32} (h0 : ¬ o 0 = 0) (h1 : ¬ o 1 + o 4 = 0) (hd : ¬ draw = 0) (hn : -(sp_spine (sp_stiff (o 2) (o 3) (o 6)) (o 0) (o 4) - sp_need draw wide) * tu 2 / 10 = -((sp_spine (sp_stiff (o 2) (o 3) (o 6)) (o 0) (o 4) - sp_need draw wide) * tu 2 / 10)) (h6 : o 6 = 0) : ev_Cal G mX12_flies 4 0 0 [.ref 129, .int draw, .int wide] n M (ev_is none (ev_set M 129 (md_o th tr tn nx tk pl va fa c0 c1 c2 d0 d1 d2 (sp_spine (sp_stiff (o 2) (o 3) (o 6)) (o 0) (o 4)) (sp_spine (sp_stiff (o 2) (o 3) (o 6)) (o 0) (o 4) - sp_need draw wide) (sp_bare (tu 0) (tu 1) (tu 2) (sp_spine (sp_stiff (o 2) (o 3) (o 6)) (o 0) (o 4) - sp_need draw wide)) (sp_goes (tu 0) (tu 1) (tu 2) (tu 3) (sp_spine (sp_stiff (o 2) (o 3) (o 6)) (o 0) (o 4) - sp_need draw wide) (o 5) (o 1 + o 4)) (sp_drop (o 1 + o 4) draw (o 5)) (sp_kind (tu 0) (tu 1) (sp_spine (sp_stiff (o 2) (o 3) (o 6)) (o 0) (o 4) - sp_need draw wide)) up dn))) := by
  refine ev_Cal_of (L := [some (.ref 129), some (.int draw), some (.int wide)]) (by decide +kernel) (Nat.le_of_ble_eq_true rfl) rfl ?_
  refine ev_pre1 h129 ?_
  refine ev_aload_n (i := 0) dX12_flies_0 rfl rfl ?_
  refine ev_aload_n (i := 0) dX12_flies_1 rfl rfl ?_
  refine ev_getf dX12_flies_2 flX12_41 (by first | exact ev_set_eq | exact (ev_set_ne (by decide)).trans hO | exact (ev_set_ne (by decide)).trans hV) (by rfl) ?_
  refine ev_iconst (v := 2) dX12_flies_5 cni_2 ?_
  refine ev_aload_n (i := 0) dX12_flies_6 rfl rfl ?_
  refine ev_getf dX12_flies_7 flX12_41 (by first | exact ev_set_eq | exact (ev_set_ne (by decide)).trans hO | exact (ev_set_ne (by decide)).trans hV) (by rfl) ?_
  refine ev_bipush (v := 6) dX12_flies_10 cnb_6 ?_
  refine ev_iald (j := 6) dX12_flies_12 (by first | exact ev_set_eq | exact (ev_set_ne (by decide)).trans hO | exact (ev_set_ne (by decide)).trans hV) (by decide) (by decide) ?_
  refine ev_iadd dX12_flies_13 ?_
  refine ev_iald (j := 2) dX12_flies_14 (by first | exact ev_set_eq | exact (ev_set_ne (by decide)).trans hO | exact (ev_set_ne (by decide)).trans hV) (by rw [h6]; decide) (by decide) ?_
  refine ev_bipush (v := 112) dX12_flies_15 cnb_112 ?_
  refine ev_imul dX12_flies_17 ?_
  refine ev_aload_n (i := 0) dX12_flies_18 rfl rfl ?_
  refine ev_getf dX12_flies_19 flX12_41 (by first | exact ev_set_eq | exact (ev_set_ne (by decide)).trans hO | exact (ev_set_ne (by decide)).trans hV) (by rfl) ?_
  refine ev_iconst (v := 0) dX12_flies_22 cni_0 ?_
  refine ev_iald (j := 0) dX12_flies_23 (by first | exact ev_set_eq | exact (ev_set_ne (by decide)).trans hO | exact (ev_set_ne (by decide)).trans hV) (by decide) (by decide) ?_
  refine ev_idiv dX12_flies_24 (h0) ?_
  refine ev_aload_n (i := 0) dX12_flies_25 rfl rfl ?_
  refine ev_getf dX12_flies_26 flX12_41 (by first | exact ev_set_eq | exact (ev_set_ne (by decide)).trans hO | exact (ev_set_ne (by decide)).trans hV) (by rfl) ?_
  refine ev_iconst (v := 4) dX12_flies_29 cni_4 ?_
  refine ev_iald (j := 4) dX12_flies_30 (by first | exact ev_set_eq | exact (ev_set_ne (by decide)).trans hO | exact (ev_set_ne (by decide)).trans hV) (by decide) (by decide) ?_
  refine ev_bipush (v := 10) dX12_flies_31 cnb_10 ?_
  refine ev_idiv dX12_flies_33 (by decide) ?_
  refine ev_isub dX12_flies_34 ?_
  refine ev_topi (x2 := sp_spine (sp_stiff (o 2) (o 3) (o 6)) (o 0) (o 4)) (by rw [sp_spine, sp_div, if_neg h0, sp_stiff, h6]; rfl) ?_
  refine ev_putiU dX12_flies_35 fpX12_171 (Nat.le_of_ble_eq_true rfl) ?_
  refine ev_aload_n (i := 0) dX12_flies_38 rfl rfl ?_
  refine ev_aload_n (i := 0) dX12_flies_39 rfl rfl ?_
  refine ev_getf dX12_flies_40 flX12_171 (by first | exact ev_set_eq | exact (ev_set_ne (by decide)).trans hO | exact (ev_set_ne (by decide)).trans hV) (by rfl) ?_
  refine ev_iload_n (i := 1) dX12_flies_43 rfl rfl ?_
  refine ev_isub dX12_flies_44 ?_
  refine ev_iconst (v := 2) dX12_flies_45 cni_2 ?_
  refine ev_iload_n (i := 2) dX12_flies_46 rfl rfl ?_
  refine ev_imul dX12_flies_47 ?_
  refine ev_isub dX12_flies_48 ?_
  refine ev_topi (x2 := sp_spine (sp_stiff (o 2) (o 3) (o 6)) (o 0) (o 4) - sp_need draw wide) (sp_sub2 _ _ _) ?_
  refine ev_putiU dX12_flies_49 fpX12_174 (Nat.le_of_ble_eq_true rfl) ?_
  refine ev_aload_n (i := 0) dX12_flies_52 rfl rfl ?_
  refine ev_aload_n (i := 0) dX12_flies_53 rfl rfl ?_
  refine ev_aload_n (i := 0) dX12_flies_54 rfl rfl ?_
  refine ev_getf dX12_flies_55 flX12_174 (by first | exact ev_set_eq | exact (ev_set_ne (by decide)).trans hO | exact (ev_set_ne (by decide)).trans hV) (by rfl) ?_
  refine ev_c2 kX12_flies_58 (c13_kindOf ev_set_eq ((ev_set_ne (by decide)).trans hV)) (ev_rv_of (by first | exact ev_set_eq | exact (ev_set_ne (by decide)).trans hO | exact (ev_set_ne (by decide)).trans hV) rfl rfl) (by decide) (by decide) (Nat.le_of_ble_eq_true rfl) ?_
  refine ev_putiU dX12_flies_61 fpX12_162 (Nat.le_of_ble_eq_true rfl) ?_
  refine ev_aload_n (i := 0) dX12_flies_64 rfl rfl ?_
  refine ev_aload_n (i := 0) dX12_flies_65 rfl rfl ?_
  refine ev_aload_n (i := 0) dX12_flies_66 rfl rfl ?_
  refine ev_getf dX12_flies_67 flX12_174 (by first | exact ev_set_eq | exact (ev_set_ne (by decide)).trans hO | exact (ev_set_ne (by decide)).trans hV) (by rfl) ?_
  refine ev_c2 kX12_flies_70 (c13_bareOf ev_set_eq ((ev_set_ne (by decide)).trans hV) hn) (ev_rv_of (by first | exact ev_set_eq | exact (ev_set_ne (by decide)).trans hO | exact (ev_set_ne (by decide)).trans hV) rfl rfl) (by decide) (by decide) (Nat.le_of_ble_eq_true rfl) ?_
  refine ev_putiU dX12_flies_73 fpX12_180 (Nat.le_of_ble_eq_true rfl) ?_
  refine ev_aload_n (i := 0) dX12_flies_76 rfl rfl ?_
  refine ev_aload_n (i := 0) dX12_flies_77 rfl rfl ?_
  refine ev_getf dX12_flies_78 flX12_180 (by first | exact ev_set_eq | exact (ev_set_ne (by decide)).trans hO | exact (ev_set_ne (by decide)).trans hV) (by rfl) ?_
  refine ev_bipush (v := 10) dX12_flies_81 cnb_10 ?_
  refine ev_aload_n (i := 0) dX12_flies_83 rfl rfl ?_
  refine ev_getf dX12_flies_84 flX12_41 (by first | exact ev_set_eq | exact (ev_set_ne (by decide)).trans hO | exact (ev_set_ne (by decide)).trans hV) (by rfl) ?_
  refine ev_iconst (v := 5) dX12_flies_87 cni_5 ?_
  refine ev_iald (j := 5) dX12_flies_88 (by first | exact ev_set_eq | exact (ev_set_ne (by decide)).trans hO | exact (ev_set_ne (by decide)).trans hV) (by decide) (by decide) ?_
  refine ev_isub dX12_flies_89 ?_
  refine ev_imul dX12_flies_90 ?_
  refine ev_bipush (v := 10) dX12_flies_91 cnb_10 ?_
  refine ev_idiv dX12_flies_93 (by decide) ?_
  refine ev_aload_n (i := 0) dX12_flies_94 rfl rfl ?_
  refine ev_getf dX12_flies_95 flX12_38 (by first | exact ev_set_eq | exact (ev_set_ne (by decide)).trans hO | exact (ev_set_ne (by decide)).trans hV) (by rfl) ?_
  refine ev_iconst (v := 3) dX12_flies_98 cni_3 ?_
  refine ev_iald (j := 3) dX12_flies_99 (by first | exact ev_set_eq | exact (ev_set_ne (by decide)).trans hO | exact (ev_set_ne (by decide)).trans hV) (by decide) (by decide) ?_
  refine ev_sipush (v := 600) dX12_flies_100 cns_600 ?_
  refine ev_imul dX12_flies_103 ?_
  refine ev_aload_n (i := 0) dX12_flies_104 rfl rfl ?_
  refine ev_getf dX12_flies_105 flX12_41 (by first | exact ev_set_eq | exact (ev_set_ne (by decide)).trans hO | exact (ev_set_ne (by decide)).trans hV) (by rfl) ?_
  refine ev_iconst (v := 1) dX12_flies_108 cni_1 ?_
  refine ev_iald (j := 1) dX12_flies_109 (by first | exact ev_set_eq | exact (ev_set_ne (by decide)).trans hO | exact (ev_set_ne (by decide)).trans hV) (by decide) (by decide) ?_
  refine ev_aload_n (i := 0) dX12_flies_110 rfl rfl ?_
  refine ev_getf dX12_flies_111 flX12_41 (by first | exact ev_set_eq | exact (ev_set_ne (by decide)).trans hO | exact (ev_set_ne (by decide)).trans hV) (by rfl) ?_
  refine ev_iconst (v := 4) dX12_flies_114 cni_4 ?_
  refine ev_iald (j := 4) dX12_flies_115 (by first | exact ev_set_eq | exact (ev_set_ne (by decide)).trans hO | exact (ev_set_ne (by decide)).trans hV) (by decide) (by decide) ?_
  refine ev_iadd dX12_flies_116 ?_
  refine ev_idiv dX12_flies_117 (h1) ?_
  refine ev_iadd dX12_flies_118 ?_
  refine ev_topi (x2 := sp_goes (tu 0) (tu 1) (tu 2) (tu 3) (sp_spine (sp_stiff (o 2) (o 3) (o 6)) (o 0) (o 4) - sp_need draw wide) (o 5) (o 1 + o 4)) (by rw [sp_goes, sp_div, if_neg h1]; rfl) ?_
  refine ev_putiU dX12_flies_119 fpX12_183 (Nat.le_of_ble_eq_true rfl) ?_
  refine ev_aload_n (i := 0) dX12_flies_122 rfl rfl ?_
  refine ev_bipush (v := 10) dX12_flies_123 cnb_10 ?_
  refine ev_aload_n (i := 0) dX12_flies_125 rfl rfl ?_
  refine ev_getf dX12_flies_126 flX12_41 (by first | exact ev_set_eq | exact (ev_set_ne (by decide)).trans hO | exact (ev_set_ne (by decide)).trans hV) (by rfl) ?_
  refine ev_iconst (v := 1) dX12_flies_129 cni_1 ?_
  refine ev_iald (j := 1) dX12_flies_130 (by first | exact ev_set_eq | exact (ev_set_ne (by decide)).trans hO | exact (ev_set_ne (by decide)).trans hV) (by decide) (by decide) ?_
  refine ev_aload_n (i := 0) dX12_flies_131 rfl rfl ?_
  refine ev_getf dX12_flies_132 flX12_41 (by first | exact ev_set_eq | exact (ev_set_ne (by decide)).trans hO | exact (ev_set_ne (by decide)).trans hV) (by rfl) ?_
  refine ev_iconst (v := 4) dX12_flies_135 cni_4 ?_
  refine ev_iald (j := 4) dX12_flies_136 (by first | exact ev_set_eq | exact (ev_set_ne (by decide)).trans hO | exact (ev_set_ne (by decide)).trans hV) (by decide) (by decide) ?_
  refine ev_iadd dX12_flies_137 ?_
  refine ev_imul dX12_flies_138 ?_
  refine ev_iload_n (i := 1) dX12_flies_139 rfl rfl ?_
  refine ev_idiv dX12_flies_140 (hd) ?_
  refine ev_aload_n (i := 0) dX12_flies_141 rfl rfl ?_
  refine ev_getf dX12_flies_142 flX12_41 (by first | exact ev_set_eq | exact (ev_set_ne (by decide)).trans hO | exact (ev_set_ne (by decide)).trans hV) (by rfl) ?_
  refine ev_iconst (v := 5) dX12_flies_145 cni_5 ?_
  refine ev_iald (j := 5) dX12_flies_146 (by first | exact ev_set_eq | exact (ev_set_ne (by decide)).trans hO | exact (ev_set_ne (by decide)).trans hV) (by decide) (by decide) ?_
  refine ev_iadd dX12_flies_147 ?_
  refine ev_topi (x2 := sp_drop (o 1 + o 4) draw (o 5)) (by rw [sp_drop, sp_div, if_neg hd]) ?_
  refine ev_putiU dX12_flies_148 fpX12_186 (Nat.le_of_ble_eq_true rfl) ?_
  exact ev_retv dX12_flies_151 rfl (⟨rfl, rfl⟩)
theorem c13_flies1 {G : ev_G} {n : Nat} {M : ev_M} {th tn nx tk pl va fa c0 c1 c2 d0 d1 d2 sp of ba go dr ki : Int32} {tr up dn : Int64} (h129 : M 129 = md_o th tr tn nx tk pl va fa c0 c1 c2 d0 d1 d2 sp of ba go dr ki up dn) {tu : Nat → Int32} (hV : M 139 = .inl (0, 4, .inl tu)) {o : Nat → Int32} (hO : M 140 = .inl (0, 7, .inl o)) {draw wide : Int32} (h0 : ¬ o 0 = 0) (h1 : ¬ o 1 + o 4 = 0) (hd : ¬ draw = 0) (hn : -(sp_spine (sp_stiff (o 2) (o 3) (o 6)) (o 0) (o 4) - sp_need draw wide) * tu 2 / 10 = -((sp_spine (sp_stiff (o 2) (o 3) (o 6)) (o 0) (o 4) - sp_need draw wide) * tu 2 / 10)) (h6 : o 6 = 1) : ev_Cal G mX12_flies 4 0 0 [.ref 129, .int draw, .int wide] n M (ev_is none (ev_set M 129 (md_o th tr tn nx tk pl va fa c0 c1 c2 d0 d1 d2 (sp_spine (sp_stiff (o 2) (o 3) (o 6)) (o 0) (o 4)) (sp_spine (sp_stiff (o 2) (o 3) (o 6)) (o 0) (o 4) - sp_need draw wide) (sp_bare (tu 0) (tu 1) (tu 2) (sp_spine (sp_stiff (o 2) (o 3) (o 6)) (o 0) (o 4) - sp_need draw wide)) (sp_goes (tu 0) (tu 1) (tu 2) (tu 3) (sp_spine (sp_stiff (o 2) (o 3) (o 6)) (o 0) (o 4) - sp_need draw wide) (o 5) (o 1 + o 4)) (sp_drop (o 1 + o 4) draw (o 5)) (sp_kind (tu 0) (tu 1) (sp_spine (sp_stiff (o 2) (o 3) (o 6)) (o 0) (o 4) - sp_need draw wide)) up dn))) := by
  refine ev_Cal_of (L := [some (.ref 129), some (.int draw), some (.int wide)]) (by decide +kernel) (Nat.le_of_ble_eq_true rfl) rfl ?_
  refine ev_pre1 h129 ?_
  refine ev_aload_n (i := 0) dX12_flies_0 rfl rfl ?_
  refine ev_aload_n (i := 0) dX12_flies_1 rfl rfl ?_
  refine ev_getf dX12_flies_2 flX12_41 (by first | exact ev_set_eq | exact (ev_set_ne (by decide)).trans hO | exact (ev_set_ne (by decide)).trans hV) (by rfl) ?_
  refine ev_iconst (v := 2) dX12_flies_5 cni_2 ?_
  refine ev_aload_n (i := 0) dX12_flies_6 rfl rfl ?_
  refine ev_getf dX12_flies_7 flX12_41 (by first | exact ev_set_eq | exact (ev_set_ne (by decide)).trans hO | exact (ev_set_ne (by decide)).trans hV) (by rfl) ?_
  refine ev_bipush (v := 6) dX12_flies_10 cnb_6 ?_
  refine ev_iald (j := 6) dX12_flies_12 (by first | exact ev_set_eq | exact (ev_set_ne (by decide)).trans hO | exact (ev_set_ne (by decide)).trans hV) (by decide) (by decide) ?_
  refine ev_iadd dX12_flies_13 ?_
  refine ev_iald (j := 3) dX12_flies_14 (by first | exact ev_set_eq | exact (ev_set_ne (by decide)).trans hO | exact (ev_set_ne (by decide)).trans hV) (by rw [h6]; decide) (by decide) ?_
  refine ev_bipush (v := 112) dX12_flies_15 cnb_112 ?_
  refine ev_imul dX12_flies_17 ?_
  refine ev_aload_n (i := 0) dX12_flies_18 rfl rfl ?_
  refine ev_getf dX12_flies_19 flX12_41 (by first | exact ev_set_eq | exact (ev_set_ne (by decide)).trans hO | exact (ev_set_ne (by decide)).trans hV) (by rfl) ?_
  refine ev_iconst (v := 0) dX12_flies_22 cni_0 ?_
  refine ev_iald (j := 0) dX12_flies_23 (by first | exact ev_set_eq | exact (ev_set_ne (by decide)).trans hO | exact (ev_set_ne (by decide)).trans hV) (by decide) (by decide) ?_
  refine ev_idiv dX12_flies_24 (h0) ?_
  refine ev_aload_n (i := 0) dX12_flies_25 rfl rfl ?_
  refine ev_getf dX12_flies_26 flX12_41 (by first | exact ev_set_eq | exact (ev_set_ne (by decide)).trans hO | exact (ev_set_ne (by decide)).trans hV) (by rfl) ?_
  refine ev_iconst (v := 4) dX12_flies_29 cni_4 ?_
  refine ev_iald (j := 4) dX12_flies_30 (by first | exact ev_set_eq | exact (ev_set_ne (by decide)).trans hO | exact (ev_set_ne (by decide)).trans hV) (by decide) (by decide) ?_
  refine ev_bipush (v := 10) dX12_flies_31 cnb_10 ?_
  refine ev_idiv dX12_flies_33 (by decide) ?_
  refine ev_isub dX12_flies_34 ?_
  refine ev_topi (x2 := sp_spine (sp_stiff (o 2) (o 3) (o 6)) (o 0) (o 4)) (by rw [sp_spine, sp_div, if_neg h0, sp_stiff, h6]; rfl) ?_
  refine ev_putiU dX12_flies_35 fpX12_171 (Nat.le_of_ble_eq_true rfl) ?_
  refine ev_aload_n (i := 0) dX12_flies_38 rfl rfl ?_
  refine ev_aload_n (i := 0) dX12_flies_39 rfl rfl ?_
  refine ev_getf dX12_flies_40 flX12_171 (by first | exact ev_set_eq | exact (ev_set_ne (by decide)).trans hO | exact (ev_set_ne (by decide)).trans hV) (by rfl) ?_
  refine ev_iload_n (i := 1) dX12_flies_43 rfl rfl ?_
  refine ev_isub dX12_flies_44 ?_
  refine ev_iconst (v := 2) dX12_flies_45 cni_2 ?_
  refine ev_iload_n (i := 2) dX12_flies_46 rfl rfl ?_
  refine ev_imul dX12_flies_47 ?_
  refine ev_isub dX12_flies_48 ?_
  refine ev_topi (x2 := sp_spine (sp_stiff (o 2) (o 3) (o 6)) (o 0) (o 4) - sp_need draw wide) (sp_sub2 _ _ _) ?_
  refine ev_putiU dX12_flies_49 fpX12_174 (Nat.le_of_ble_eq_true rfl) ?_
  refine ev_aload_n (i := 0) dX12_flies_52 rfl rfl ?_
  refine ev_aload_n (i := 0) dX12_flies_53 rfl rfl ?_
  refine ev_aload_n (i := 0) dX12_flies_54 rfl rfl ?_
  refine ev_getf dX12_flies_55 flX12_174 (by first | exact ev_set_eq | exact (ev_set_ne (by decide)).trans hO | exact (ev_set_ne (by decide)).trans hV) (by rfl) ?_
  refine ev_c2 kX12_flies_58 (c13_kindOf ev_set_eq ((ev_set_ne (by decide)).trans hV)) (ev_rv_of (by first | exact ev_set_eq | exact (ev_set_ne (by decide)).trans hO | exact (ev_set_ne (by decide)).trans hV) rfl rfl) (by decide) (by decide) (Nat.le_of_ble_eq_true rfl) ?_
  refine ev_putiU dX12_flies_61 fpX12_162 (Nat.le_of_ble_eq_true rfl) ?_
  refine ev_aload_n (i := 0) dX12_flies_64 rfl rfl ?_
  refine ev_aload_n (i := 0) dX12_flies_65 rfl rfl ?_
  refine ev_aload_n (i := 0) dX12_flies_66 rfl rfl ?_
  refine ev_getf dX12_flies_67 flX12_174 (by first | exact ev_set_eq | exact (ev_set_ne (by decide)).trans hO | exact (ev_set_ne (by decide)).trans hV) (by rfl) ?_
  refine ev_c2 kX12_flies_70 (c13_bareOf ev_set_eq ((ev_set_ne (by decide)).trans hV) hn) (ev_rv_of (by first | exact ev_set_eq | exact (ev_set_ne (by decide)).trans hO | exact (ev_set_ne (by decide)).trans hV) rfl rfl) (by decide) (by decide) (Nat.le_of_ble_eq_true rfl) ?_
  refine ev_putiU dX12_flies_73 fpX12_180 (Nat.le_of_ble_eq_true rfl) ?_
  refine ev_aload_n (i := 0) dX12_flies_76 rfl rfl ?_
  refine ev_aload_n (i := 0) dX12_flies_77 rfl rfl ?_
  refine ev_getf dX12_flies_78 flX12_180 (by first | exact ev_set_eq | exact (ev_set_ne (by decide)).trans hO | exact (ev_set_ne (by decide)).trans hV) (by rfl) ?_
  refine ev_bipush (v := 10) dX12_flies_81 cnb_10 ?_
  refine ev_aload_n (i := 0) dX12_flies_83 rfl rfl ?_
  refine ev_getf dX12_flies_84 flX12_41 (by first | exact ev_set_eq | exact (ev_set_ne (by decide)).trans hO | exact (ev_set_ne (by decide)).trans hV) (by rfl) ?_
  refine ev_iconst (v := 5) dX12_flies_87 cni_5 ?_
  refine ev_iald (j := 5) dX12_flies_88 (by first | exact ev_set_eq | exact (ev_set_ne (by decide)).trans hO | exact (ev_set_ne (by decide)).trans hV) (by decide) (by decide) ?_
  refine ev_isub dX12_flies_89 ?_
  refine ev_imul dX12_flies_90 ?_
  refine ev_bipush (v := 10) dX12_flies_91 cnb_10 ?_
  refine ev_idiv dX12_flies_93 (by decide) ?_
  refine ev_aload_n (i := 0) dX12_flies_94 rfl rfl ?_
  refine ev_getf dX12_flies_95 flX12_38 (by first | exact ev_set_eq | exact (ev_set_ne (by decide)).trans hO | exact (ev_set_ne (by decide)).trans hV) (by rfl) ?_
  refine ev_iconst (v := 3) dX12_flies_98 cni_3 ?_
  refine ev_iald (j := 3) dX12_flies_99 (by first | exact ev_set_eq | exact (ev_set_ne (by decide)).trans hO | exact (ev_set_ne (by decide)).trans hV) (by decide) (by decide) ?_
  refine ev_sipush (v := 600) dX12_flies_100 cns_600 ?_
  refine ev_imul dX12_flies_103 ?_
  refine ev_aload_n (i := 0) dX12_flies_104 rfl rfl ?_
  refine ev_getf dX12_flies_105 flX12_41 (by first | exact ev_set_eq | exact (ev_set_ne (by decide)).trans hO | exact (ev_set_ne (by decide)).trans hV) (by rfl) ?_
  refine ev_iconst (v := 1) dX12_flies_108 cni_1 ?_
  refine ev_iald (j := 1) dX12_flies_109 (by first | exact ev_set_eq | exact (ev_set_ne (by decide)).trans hO | exact (ev_set_ne (by decide)).trans hV) (by decide) (by decide) ?_
  refine ev_aload_n (i := 0) dX12_flies_110 rfl rfl ?_
  refine ev_getf dX12_flies_111 flX12_41 (by first | exact ev_set_eq | exact (ev_set_ne (by decide)).trans hO | exact (ev_set_ne (by decide)).trans hV) (by rfl) ?_
  refine ev_iconst (v := 4) dX12_flies_114 cni_4 ?_
  refine ev_iald (j := 4) dX12_flies_115 (by first | exact ev_set_eq | exact (ev_set_ne (by decide)).trans hO | exact (ev_set_ne (by decide)).trans hV) (by decide) (by decide) ?_
  refine ev_iadd dX12_flies_116 ?_
  refine ev_idiv dX12_flies_117 (h1) ?_
  refine ev_iadd dX12_flies_118 ?_
  refine ev_topi (x2 := sp_goes (tu 0) (tu 1) (tu 2) (tu 3) (sp_spine (sp_stiff (o 2) (o 3) (o 6)) (o 0) (o 4) - sp_need draw wide) (o 5) (o 1 + o 4)) (by rw [sp_goes, sp_div, if_neg h1]; rfl) ?_
  refine ev_putiU dX12_flies_119 fpX12_183 (Nat.le_of_ble_eq_true rfl) ?_
  refine ev_aload_n (i := 0) dX12_flies_122 rfl rfl ?_
  refine ev_bipush (v := 10) dX12_flies_123 cnb_10 ?_
  refine ev_aload_n (i := 0) dX12_flies_125 rfl rfl ?_
  refine ev_getf dX12_flies_126 flX12_41 (by first | exact ev_set_eq | exact (ev_set_ne (by decide)).trans hO | exact (ev_set_ne (by decide)).trans hV) (by rfl) ?_
  refine ev_iconst (v := 1) dX12_flies_129 cni_1 ?_
  refine ev_iald (j := 1) dX12_flies_130 (by first | exact ev_set_eq | exact (ev_set_ne (by decide)).trans hO | exact (ev_set_ne (by decide)).trans hV) (by decide) (by decide) ?_
  refine ev_aload_n (i := 0) dX12_flies_131 rfl rfl ?_
  refine ev_getf dX12_flies_132 flX12_41 (by first | exact ev_set_eq | exact (ev_set_ne (by decide)).trans hO | exact (ev_set_ne (by decide)).trans hV) (by rfl) ?_
  refine ev_iconst (v := 4) dX12_flies_135 cni_4 ?_
  refine ev_iald (j := 4) dX12_flies_136 (by first | exact ev_set_eq | exact (ev_set_ne (by decide)).trans hO | exact (ev_set_ne (by decide)).trans hV) (by decide) (by decide) ?_
  refine ev_iadd dX12_flies_137 ?_
  refine ev_imul dX12_flies_138 ?_
  refine ev_iload_n (i := 1) dX12_flies_139 rfl rfl ?_
  refine ev_idiv dX12_flies_140 (hd) ?_
  refine ev_aload_n (i := 0) dX12_flies_141 rfl rfl ?_
  refine ev_getf dX12_flies_142 flX12_41 (by first | exact ev_set_eq | exact (ev_set_ne (by decide)).trans hO | exact (ev_set_ne (by decide)).trans hV) (by rfl) ?_
  refine ev_iconst (v := 5) dX12_flies_145 cni_5 ?_
  refine ev_iald (j := 5) dX12_flies_146 (by first | exact ev_set_eq | exact (ev_set_ne (by decide)).trans hO | exact (ev_set_ne (by decide)).trans hV) (by decide) (by decide) ?_
  refine ev_iadd dX12_flies_147 ?_
  refine ev_topi (x2 := sp_drop (o 1 + o 4) draw (o 5)) (by rw [sp_drop, sp_div, if_neg hd]) ?_
  refine ev_putiU dX12_flies_148 fpX12_186 (Nat.le_of_ble_eq_true rfl) ?_
  exact ev_retv dX12_flies_151 rfl (⟨rfl, rfl⟩)
theorem c13_flies {G : ev_G} {n : Nat} {M : ev_M} {th tn nx tk pl va fa c0 c1 c2 d0 d1 d2 sp of ba go dr ki : Int32} {tr up dn : Int64} (h129 : M 129 = md_o th tr tn nx tk pl va fa c0 c1 c2 d0 d1 d2 sp of ba go dr ki up dn) {tu : Nat → Int32} (hV : M 139 = .inl (0, 4, .inl tu)) {o : Nat → Int32} (hO : M 140 = .inl (0, 7, .inl o)) {draw wide : Int32} (h0 : ¬ o 0 = 0) (h1 : ¬ o 1 + o 4 = 0) (hd : ¬ draw = 0) (hn : -(sp_spine (sp_stiff (o 2) (o 3) (o 6)) (o 0) (o 4) - sp_need draw wide) * tu 2 / 10 = -((sp_spine (sp_stiff (o 2) (o 3) (o 6)) (o 0) (o 4) - sp_need draw wide) * tu 2 / 10)) (h6 : o 6 = 0 ∨ o 6 = 1) : ev_Cal G mX12_flies 4 0 0 [.ref 129, .int draw, .int wide] n M (ev_is none (ev_set M 129 (md_o th tr tn nx tk pl va fa c0 c1 c2 d0 d1 d2 (sp_spine (sp_stiff (o 2) (o 3) (o 6)) (o 0) (o 4)) (sp_spine (sp_stiff (o 2) (o 3) (o 6)) (o 0) (o 4) - sp_need draw wide) (sp_bare (tu 0) (tu 1) (tu 2) (sp_spine (sp_stiff (o 2) (o 3) (o 6)) (o 0) (o 4) - sp_need draw wide)) (sp_goes (tu 0) (tu 1) (tu 2) (tu 3) (sp_spine (sp_stiff (o 2) (o 3) (o 6)) (o 0) (o 4) - sp_need draw wide) (o 5) (o 1 + o 4)) (sp_drop (o 1 + o 4) draw (o 5)) (sp_kind (tu 0) (tu 1) (sp_spine (sp_stiff (o 2) (o 3) (o 6)) (o 0) (o 4) - sp_need draw wide)) up dn))) :=
  h6.elim (c13_flies0 h129 hV hO h0 h1 hd hn) (c13_flies1 h129 hV hO h0 h1 hd hn)
