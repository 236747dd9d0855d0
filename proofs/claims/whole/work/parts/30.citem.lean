/-! ===== contracts: the reader: an item ===== -/
theorem c7_readItem_S {G : ev_G} {n : Nat} {M : ev_M} {tn : Nat} {tb : Nat → Int32} (hTb : M 23 = .inl (0, 400, .inl tb)) (hn : tn ≤ 400) {p : Nat} (hsio : ev_hs G) (h23 : M 22 = .inr (7, [.ref 23, .ref 24, .int (nI (p)), .int (nI tn)])) (hp : p ≤ tn) (hfix : rd_skip tn tb p = p) {g c0 c1 c2 : Nat} (hG : M g = .inr (3, [.ref (g + 1), .ref (g + 2), .ref (g + 3), .int (nI c0), .int (nI c1), .int (nI c2)])) (hcc : c0 ≤ 12 ∧ c1 ≤ 3 ∧ c2 ≤ 3) (rS : c0 < 12) (wS : rd_W tn tb 0 p) {bb : Bool} {M1 : ev_M} (hcal : ev_Cal G mX7_readStick 4 0 0 [.ref 22, .ref g] n (ev_set M 22 (.inr (7, [.ref 23, .ref 24, .int (nI (p + ch_n 0)), .int (nI tn)]))) (ev_is (some (.int (ev_b bb))) M1)) : ev_Cal G mX7_readItem 7 0 0 [.ref 22, .ref g] n M (ev_is (some (.int (ev_b bb))) M1) := by
  refine ev_Cal_of (L := [some (.ref 22), some (.ref g)]) (by decide +kernel) (Nat.le_of_ble_eq_true rfl) rfl ?_
  refine ev_aload_n (i := 1) dX7_readItem_0 rfl rfl ?_
  refine ev_getf dX7_readItem_1 flX7_37 (by first | exact h23 | exact hG | exact ev_set_eq) (by rfl) ?_
  refine ev_bipush (v := 12) dX7_readItem_4 cnb_12 ?_
  refine ev_icmp_ge (tgt := 24) dX7_readItem_6 (by decide) (fun h6 => False.elim (nI_ge (a := c0) (b := 12) (by omega) (by decide) h6)) (fun h6 => ?_)
  refine ev_aload_n (i := 0) dX7_readItem_9 rfl rfl ?_
  refine ev_ldcS (i := 0) dX7_readItem_10 rfl (by decide) rfl ?_
  refine ev_c2 kX7_readItem_12 (c7_takeWord_1 hTb hn (i := 0) (by decide) hsio h23 hp (by rw [hfix]; exact wS.1) (by rw [hfix]; exact wS.2)) (ev_rv_of (by first | exact h23 | exact hG | exact ev_set_eq) rfl rfl) (by decide) (by decide) (Nat.le_of_ble_eq_true rfl) ?_
  refine ev_mem (M2 := (ev_set M 22 (.inr (7, [.ref 23, .ref 24, .int (nI (p + ch_n 0)), .int (nI tn)])))) (by rw [hfix]) ?_
  refine ev_if_eq (tgt := 24) dX7_readItem_15 (by decide) (fun h15 => False.elim (absurd h15 (by decide))) (fun h15 => ?_)
  refine ev_aload_n (i := 0) dX7_readItem_18 rfl rfl ?_
  refine ev_aload_n (i := 1) dX7_readItem_19 rfl rfl ?_
  refine ev_c2 kX7_readItem_20 (hcal) (ev_rv_of (by first | exact h23 | exact hG | exact ev_set_eq) rfl rfl) (by decide) (by decide) (Nat.le_of_ble_eq_true rfl) ?_
  exact ev_retz dX7_readItem_23 rfl (⟨rfl, rfl⟩)
theorem c7_readItem_B_0 {G : ev_G} {n : Nat} {M : ev_M} {tn : Nat} {tb : Nat → Int32} (hTb : M 23 = .inl (0, 400, .inl tb)) (hn : tn ≤ 400) {p : Nat} (hsio : ev_hs G) (h23 : M 22 = .inr (7, [.ref 23, .ref 24, .int (nI (p)), .int (nI tn)])) (hp : p ≤ tn) (hfix : rd_skip tn tb p = p) {g c0 c1 c2 : Nat} (hG : M g = .inr (3, [.ref (g + 1), .ref (g + 2), .ref (g + 3), .int (nI c0), .int (nI c1), .int (nI c2)])) (hcc : c0 ≤ 12 ∧ c1 ≤ 3 ∧ c2 ≤ 3) (rS : c0 < 12) (wS : ¬ rd_W tn tb 0 p) (rB : c1 < 3) (wB : rd_W tn tb 1 p) {bb : Bool} {M1 : ev_M} (hcal : ev_Cal G mX7_readBow 4 0 0 [.ref 22, .ref g] n (ev_set M 22 (.inr (7, [.ref 23, .ref 24, .int (nI (p + ch_n 1)), .int (nI tn)]))) (ev_is (some (.int (ev_b bb))) M1)) : ev_Cal G mX7_readItem 7 0 0 [.ref 22, .ref g] n M (ev_is (some (.int (ev_b bb))) M1) := by
  refine ev_Cal_of (L := [some (.ref 22), some (.ref g)]) (by decide +kernel) (Nat.le_of_ble_eq_true rfl) rfl ?_
  refine ev_aload_n (i := 1) dX7_readItem_0 rfl rfl ?_
  refine ev_getf dX7_readItem_1 flX7_37 (by first | exact h23 | exact hG | exact ev_set_eq) (by rfl) ?_
  refine ev_bipush (v := 12) dX7_readItem_4 cnb_12 ?_
  refine ev_icmp_ge (tgt := 24) dX7_readItem_6 (by decide) (fun h6 => False.elim (nI_ge (a := c0) (b := 12) (by omega) (by decide) h6)) (fun h6 => ?_)
  refine ev_aload_n (i := 0) dX7_readItem_9 rfl rfl ?_
  refine ev_ldcS (i := 0) dX7_readItem_10 rfl (by decide) rfl ?_
  refine ev_c2 kX7_readItem_12 (c7_takeWord_0 hTb hn (i := 0) (by decide) hsio h23 hp (rd_W_no (by rw [hfix]; exact wS))) (ev_rv_of (by first | exact h23 | exact hG | exact ev_set_eq) rfl rfl) (by decide) (by decide) (Nat.le_of_ble_eq_true rfl) ?_
  refine ev_mem (M2 := M) (by rw [hfix]; exact ev_set_self h23) ?_
  refine ev_if_eq (tgt := 24) dX7_readItem_15 (by decide) (fun h15 => ?_) (fun h15 => False.elim (h15 rfl))
  refine ev_aload_n (i := 1) dX7_readItem_24 rfl rfl ?_
  refine ev_getf dX7_readItem_25 flX7_49 (by first | exact h23 | exact hG | exact ev_set_eq) (by rfl) ?_
  refine ev_iconst (v := 3) dX7_readItem_28 cni_3 ?_
  refine ev_icmp_ge (tgt := 47) dX7_readItem_29 (by decide) (fun h29 => False.elim (nI_ge (a := c1) (b := 3) (by omega) (by decide) h29)) (fun h29 => ?_)
  refine ev_aload_n (i := 0) dX7_readItem_32 rfl rfl ?_
  refine ev_ldcS (i := 1) dX7_readItem_33 rfl (by decide) rfl ?_
  refine ev_c2 kX7_readItem_35 (c7_takeWord_1 hTb hn (i := 1) (by decide) hsio h23 hp (by rw [hfix]; exact wB.1) (by rw [hfix]; exact wB.2)) (ev_rv_of (by first | exact h23 | exact hG | exact ev_set_eq) rfl rfl) (by decide) (by decide) (Nat.le_of_ble_eq_true rfl) ?_
  refine ev_mem (M2 := (ev_set M 22 (.inr (7, [.ref 23, .ref 24, .int (nI (p + ch_n 1)), .int (nI tn)])))) (by rw [hfix]) ?_
  refine ev_if_eq (tgt := 47) dX7_readItem_38 (by decide) (fun h38 => False.elim (absurd h38 (by decide))) (fun h38 => ?_)
  refine ev_aload_n (i := 0) dX7_readItem_41 rfl rfl ?_
  refine ev_aload_n (i := 1) dX7_readItem_42 rfl rfl ?_
  refine ev_c2 kX7_readItem_43 (hcal) (ev_rv_of (by first | exact h23 | exact hG | exact ev_set_eq) rfl rfl) (by decide) (by decide) (Nat.le_of_ble_eq_true rfl) ?_
  exact ev_retz dX7_readItem_46 rfl (⟨rfl, rfl⟩)
theorem c7_readItem_B_1 {G : ev_G} {n : Nat} {M : ev_M} {tn : Nat} {tb : Nat → Int32} (hTb : M 23 = .inl (0, 400, .inl tb)) (hn : tn ≤ 400) {p : Nat} (hsio : ev_hs G) (h23 : M 22 = .inr (7, [.ref 23, .ref 24, .int (nI (p)), .int (nI tn)])) (hp : p ≤ tn) (hfix : rd_skip tn tb p = p) {g c0 c1 c2 : Nat} (hG : M g = .inr (3, [.ref (g + 1), .ref (g + 2), .ref (g + 3), .int (nI c0), .int (nI c1), .int (nI c2)])) (hcc : c0 ≤ 12 ∧ c1 ≤ 3 ∧ c2 ≤ 3) (fS : c0 = 12) (rB : c1 < 3) (wB : rd_W tn tb 1 p) {bb : Bool} {M1 : ev_M} (hcal : ev_Cal G mX7_readBow 4 0 0 [.ref 22, .ref g] n (ev_set M 22 (.inr (7, [.ref 23, .ref 24, .int (nI (p + ch_n 1)), .int (nI tn)]))) (ev_is (some (.int (ev_b bb))) M1)) : ev_Cal G mX7_readItem 7 0 0 [.ref 22, .ref g] n M (ev_is (some (.int (ev_b bb))) M1) := by
  refine ev_Cal_of (L := [some (.ref 22), some (.ref g)]) (by decide +kernel) (Nat.le_of_ble_eq_true rfl) rfl ?_
  refine ev_aload_n (i := 1) dX7_readItem_0 rfl rfl ?_
  refine ev_getf dX7_readItem_1 flX7_37 (by first | exact h23 | exact hG | exact ev_set_eq) (by rfl) ?_
  refine ev_bipush (v := 12) dX7_readItem_4 cnb_12 ?_
  refine ev_icmp_ge (tgt := 24) dX7_readItem_6 (by decide) (fun h6 => ?_) (fun h6 => False.elim (Int32.not_lt.mpr (nI_le (a := 12) (b := c0) (by omega) (by omega)) h6))
  refine ev_aload_n (i := 1) dX7_readItem_24 rfl rfl ?_
  refine ev_getf dX7_readItem_25 flX7_49 (by first | exact h23 | exact hG | exact ev_set_eq) (by rfl) ?_
  refine ev_iconst (v := 3) dX7_readItem_28 cni_3 ?_
  refine ev_icmp_ge (tgt := 47) dX7_readItem_29 (by decide) (fun h29 => False.elim (nI_ge (a := c1) (b := 3) (by omega) (by decide) h29)) (fun h29 => ?_)
  refine ev_aload_n (i := 0) dX7_readItem_32 rfl rfl ?_
  refine ev_ldcS (i := 1) dX7_readItem_33 rfl (by decide) rfl ?_
  refine ev_c2 kX7_readItem_35 (c7_takeWord_1 hTb hn (i := 1) (by decide) hsio h23 hp (by rw [hfix]; exact wB.1) (by rw [hfix]; exact wB.2)) (ev_rv_of (by first | exact h23 | exact hG | exact ev_set_eq) rfl rfl) (by decide) (by decide) (Nat.le_of_ble_eq_true rfl) ?_
  refine ev_mem (M2 := (ev_set M 22 (.inr (7, [.ref 23, .ref 24, .int (nI (p + ch_n 1)), .int (nI tn)])))) (by rw [hfix]) ?_
  refine ev_if_eq (tgt := 47) dX7_readItem_38 (by decide) (fun h38 => False.elim (absurd h38 (by decide))) (fun h38 => ?_)
  refine ev_aload_n (i := 0) dX7_readItem_41 rfl rfl ?_
  refine ev_aload_n (i := 1) dX7_readItem_42 rfl rfl ?_
  refine ev_c2 kX7_readItem_43 (hcal) (ev_rv_of (by first | exact h23 | exact hG | exact ev_set_eq) rfl rfl) (by decide) (by decide) (Nat.le_of_ble_eq_true rfl) ?_
  exact ev_retz dX7_readItem_46 rfl (⟨rfl, rfl⟩)
theorem c7_readItem_A_00 {G : ev_G} {n : Nat} {M : ev_M} {tn : Nat} {tb : Nat → Int32} (hTb : M 23 = .inl (0, 400, .inl tb)) (hn : tn ≤ 400) {p : Nat} (hsio : ev_hs G) (h23 : M 22 = .inr (7, [.ref 23, .ref 24, .int (nI (p)), .int (nI tn)])) (hp : p ≤ tn) (hfix : rd_skip tn tb p = p) {g c0 c1 c2 : Nat} (hG : M g = .inr (3, [.ref (g + 1), .ref (g + 2), .ref (g + 3), .int (nI c0), .int (nI c1), .int (nI c2)])) (hcc : c0 ≤ 12 ∧ c1 ≤ 3 ∧ c2 ≤ 3) (rS : c0 < 12) (wS : ¬ rd_W tn tb 0 p) (rB : c1 < 3) (wB : ¬ rd_W tn tb 1 p) (rA : c2 < 3) (wA : rd_W tn tb 2 p) {bb : Bool} {M1 : ev_M} (hcal : ev_Cal G mX7_readArcher 6 0 0 [.ref 22, .ref g] n (ev_set M 22 (.inr (7, [.ref 23, .ref 24, .int (nI (p + ch_n 2)), .int (nI tn)]))) (ev_is (some (.int (ev_b bb))) M1)) : ev_Cal G mX7_readItem 7 0 0 [.ref 22, .ref g] n M (ev_is (some (.int (ev_b bb))) M1) := by
  refine ev_Cal_of (L := [some (.ref 22), some (.ref g)]) (by decide +kernel) (Nat.le_of_ble_eq_true rfl) rfl ?_
  refine ev_aload_n (i := 1) dX7_readItem_0 rfl rfl ?_
  refine ev_getf dX7_readItem_1 flX7_37 (by first | exact h23 | exact hG | exact ev_set_eq) (by rfl) ?_
  refine ev_bipush (v := 12) dX7_readItem_4 cnb_12 ?_
  refine ev_icmp_ge (tgt := 24) dX7_readItem_6 (by decide) (fun h6 => False.elim (nI_ge (a := c0) (b := 12) (by omega) (by decide) h6)) (fun h6 => ?_)
  refine ev_aload_n (i := 0) dX7_readItem_9 rfl rfl ?_
  refine ev_ldcS (i := 0) dX7_readItem_10 rfl (by decide) rfl ?_
  refine ev_c2 kX7_readItem_12 (c7_takeWord_0 hTb hn (i := 0) (by decide) hsio h23 hp (rd_W_no (by rw [hfix]; exact wS))) (ev_rv_of (by first | exact h23 | exact hG | exact ev_set_eq) rfl rfl) (by decide) (by decide) (Nat.le_of_ble_eq_true rfl) ?_
  refine ev_mem (M2 := M) (by rw [hfix]; exact ev_set_self h23) ?_
  refine ev_if_eq (tgt := 24) dX7_readItem_15 (by decide) (fun h15 => ?_) (fun h15 => False.elim (h15 rfl))
  refine ev_aload_n (i := 1) dX7_readItem_24 rfl rfl ?_
  refine ev_getf dX7_readItem_25 flX7_49 (by first | exact h23 | exact hG | exact ev_set_eq) (by rfl) ?_
  refine ev_iconst (v := 3) dX7_readItem_28 cni_3 ?_
  refine ev_icmp_ge (tgt := 47) dX7_readItem_29 (by decide) (fun h29 => False.elim (nI_ge (a := c1) (b := 3) (by omega) (by decide) h29)) (fun h29 => ?_)
  refine ev_aload_n (i := 0) dX7_readItem_32 rfl rfl ?_
  refine ev_ldcS (i := 1) dX7_readItem_33 rfl (by decide) rfl ?_
  refine ev_c2 kX7_readItem_35 (c7_takeWord_0 hTb hn (i := 1) (by decide) hsio h23 hp (rd_W_no (by rw [hfix]; exact wB))) (ev_rv_of (by first | exact h23 | exact hG | exact ev_set_eq) rfl rfl) (by decide) (by decide) (Nat.le_of_ble_eq_true rfl) ?_
  refine ev_mem (M2 := M) (by rw [hfix]; exact ev_set_self h23) ?_
  refine ev_if_eq (tgt := 47) dX7_readItem_38 (by decide) (fun h38 => ?_) (fun h38 => False.elim (h38 rfl))
  refine ev_aload_n (i := 1) dX7_readItem_47 rfl rfl ?_
  refine ev_getf dX7_readItem_48 flX7_57 (by first | exact h23 | exact hG | exact ev_set_eq) (by rfl) ?_
  refine ev_iconst (v := 3) dX7_readItem_51 cni_3 ?_
  refine ev_icmp_ge (tgt := 70) dX7_readItem_52 (by decide) (fun h52 => False.elim (nI_ge (a := c2) (b := 3) (by omega) (by decide) h52)) (fun h52 => ?_)
  refine ev_aload_n (i := 0) dX7_readItem_55 rfl rfl ?_
  refine ev_ldcS (i := 2) dX7_readItem_56 rfl (by decide) rfl ?_
  refine ev_c2 kX7_readItem_58 (c7_takeWord_1 hTb hn (i := 2) (by decide) hsio h23 hp (by rw [hfix]; exact wA.1) (by rw [hfix]; exact wA.2)) (ev_rv_of (by first | exact h23 | exact hG | exact ev_set_eq) rfl rfl) (by decide) (by decide) (Nat.le_of_ble_eq_true rfl) ?_
  refine ev_mem (M2 := (ev_set M 22 (.inr (7, [.ref 23, .ref 24, .int (nI (p + ch_n 2)), .int (nI tn)])))) (by rw [hfix]) ?_
  refine ev_if_eq (tgt := 70) dX7_readItem_61 (by decide) (fun h61 => False.elim (absurd h61 (by decide))) (fun h61 => ?_)
  refine ev_aload_n (i := 0) dX7_readItem_64 rfl rfl ?_
  refine ev_aload_n (i := 1) dX7_readItem_65 rfl rfl ?_
  refine ev_c2 kX7_readItem_66 (hcal) (ev_rv_of (by first | exact h23 | exact hG | exact ev_set_eq) rfl rfl) (by decide) (by decide) (Nat.le_of_ble_eq_true rfl) ?_
  exact ev_retz dX7_readItem_69 rfl (⟨rfl, rfl⟩)
theorem c7_readItem_A_01 {G : ev_G} {n : Nat} {M : ev_M} {tn : Nat} {tb : Nat → Int32} (hTb : M 23 = .inl (0, 400, .inl tb)) (hn : tn ≤ 400) {p : Nat} (hsio : ev_hs G) (h23 : M 22 = .inr (7, [.ref 23, .ref 24, .int (nI (p)), .int (nI tn)])) (hp : p ≤ tn) (hfix : rd_skip tn tb p = p) {g c0 c1 c2 : Nat} (hG : M g = .inr (3, [.ref (g + 1), .ref (g + 2), .ref (g + 3), .int (nI c0), .int (nI c1), .int (nI c2)])) (hcc : c0 ≤ 12 ∧ c1 ≤ 3 ∧ c2 ≤ 3) (rS : c0 < 12) (wS : ¬ rd_W tn tb 0 p) (fB : c1 = 3) (rA : c2 < 3) (wA : rd_W tn tb 2 p) {bb : Bool} {M1 : ev_M} (hcal : ev_Cal G mX7_readArcher 6 0 0 [.ref 22, .ref g] n (ev_set M 22 (.inr (7, [.ref 23, .ref 24, .int (nI (p + ch_n 2)), .int (nI tn)]))) (ev_is (some (.int (ev_b bb))) M1)) : ev_Cal G mX7_readItem 7 0 0 [.ref 22, .ref g] n M (ev_is (some (.int (ev_b bb))) M1) := by
  refine ev_Cal_of (L := [some (.ref 22), some (.ref g)]) (by decide +kernel) (Nat.le_of_ble_eq_true rfl) rfl ?_
  refine ev_aload_n (i := 1) dX7_readItem_0 rfl rfl ?_
  refine ev_getf dX7_readItem_1 flX7_37 (by first | exact h23 | exact hG | exact ev_set_eq) (by rfl) ?_
  refine ev_bipush (v := 12) dX7_readItem_4 cnb_12 ?_
  refine ev_icmp_ge (tgt := 24) dX7_readItem_6 (by decide) (fun h6 => False.elim (nI_ge (a := c0) (b := 12) (by omega) (by decide) h6)) (fun h6 => ?_)
  refine ev_aload_n (i := 0) dX7_readItem_9 rfl rfl ?_
  refine ev_ldcS (i := 0) dX7_readItem_10 rfl (by decide) rfl ?_
  refine ev_c2 kX7_readItem_12 (c7_takeWord_0 hTb hn (i := 0) (by decide) hsio h23 hp (rd_W_no (by rw [hfix]; exact wS))) (ev_rv_of (by first | exact h23 | exact hG | exact ev_set_eq) rfl rfl) (by decide) (by decide) (Nat.le_of_ble_eq_true rfl) ?_
  refine ev_mem (M2 := M) (by rw [hfix]; exact ev_set_self h23) ?_
  refine ev_if_eq (tgt := 24) dX7_readItem_15 (by decide) (fun h15 => ?_) (fun h15 => False.elim (h15 rfl))
  refine ev_aload_n (i := 1) dX7_readItem_24 rfl rfl ?_
  refine ev_getf dX7_readItem_25 flX7_49 (by first | exact h23 | exact hG | exact ev_set_eq) (by rfl) ?_
  refine ev_iconst (v := 3) dX7_readItem_28 cni_3 ?_
  refine ev_icmp_ge (tgt := 47) dX7_readItem_29 (by decide) (fun h29 => ?_) (fun h29 => False.elim (Int32.not_lt.mpr (nI_le (a := 3) (b := c1) (by omega) (by omega)) h29))
  refine ev_aload_n (i := 1) dX7_readItem_47 rfl rfl ?_
  refine ev_getf dX7_readItem_48 flX7_57 (by first | exact h23 | exact hG | exact ev_set_eq) (by rfl) ?_
  refine ev_iconst (v := 3) dX7_readItem_51 cni_3 ?_
  refine ev_icmp_ge (tgt := 70) dX7_readItem_52 (by decide) (fun h52 => False.elim (nI_ge (a := c2) (b := 3) (by omega) (by decide) h52)) (fun h52 => ?_)
  refine ev_aload_n (i := 0) dX7_readItem_55 rfl rfl ?_
  refine ev_ldcS (i := 2) dX7_readItem_56 rfl (by decide) rfl ?_
  refine ev_c2 kX7_readItem_58 (c7_takeWord_1 hTb hn (i := 2) (by decide) hsio h23 hp (by rw [hfix]; exact wA.1) (by rw [hfix]; exact wA.2)) (ev_rv_of (by first | exact h23 | exact hG | exact ev_set_eq) rfl rfl) (by decide) (by decide) (Nat.le_of_ble_eq_true rfl) ?_
  refine ev_mem (M2 := (ev_set M 22 (.inr (7, [.ref 23, .ref 24, .int (nI (p + ch_n 2)), .int (nI tn)])))) (by rw [hfix]) ?_
  refine ev_if_eq (tgt := 70) dX7_readItem_61 (by decide) (fun h61 => False.elim (absurd h61 (by decide))) (fun h61 => ?_)
  refine ev_aload_n (i := 0) dX7_readItem_64 rfl rfl ?_
  refine ev_aload_n (i := 1) dX7_readItem_65 rfl rfl ?_
  refine ev_c2 kX7_readItem_66 (hcal) (ev_rv_of (by first | exact h23 | exact hG | exact ev_set_eq) rfl rfl) (by decide) (by decide) (Nat.le_of_ble_eq_true rfl) ?_
  exact ev_retz dX7_readItem_69 rfl (⟨rfl, rfl⟩)
theorem c7_readItem_A_10 {G : ev_G} {n : Nat} {M : ev_M} {tn : Nat} {tb : Nat → Int32} (hTb : M 23 = .inl (0, 400, .inl tb)) (hn : tn ≤ 400) {p : Nat} (hsio : ev_hs G) (h23 : M 22 = .inr (7, [.ref 23, .ref 24, .int (nI (p)), .int (nI tn)])) (hp : p ≤ tn) (hfix : rd_skip tn tb p = p) {g c0 c1 c2 : Nat} (hG : M g = .inr (3, [.ref (g + 1), .ref (g + 2), .ref (g + 3), .int (nI c0), .int (nI c1), .int (nI c2)])) (hcc : c0 ≤ 12 ∧ c1 ≤ 3 ∧ c2 ≤ 3) (fS : c0 = 12) (rB : c1 < 3) (wB : ¬ rd_W tn tb 1 p) (rA : c2 < 3) (wA : rd_W tn tb 2 p) {bb : Bool} {M1 : ev_M} (hcal : ev_Cal G mX7_readArcher 6 0 0 [.ref 22, .ref g] n (ev_set M 22 (.inr (7, [.ref 23, .ref 24, .int (nI (p + ch_n 2)), .int (nI tn)]))) (ev_is (some (.int (ev_b bb))) M1)) : ev_Cal G mX7_readItem 7 0 0 [.ref 22, .ref g] n M (ev_is (some (.int (ev_b bb))) M1) := by
  refine ev_Cal_of (L := [some (.ref 22), some (.ref g)]) (by decide +kernel) (Nat.le_of_ble_eq_true rfl) rfl ?_
  refine ev_aload_n (i := 1) dX7_readItem_0 rfl rfl ?_
  refine ev_getf dX7_readItem_1 flX7_37 (by first | exact h23 | exact hG | exact ev_set_eq) (by rfl) ?_
  refine ev_bipush (v := 12) dX7_readItem_4 cnb_12 ?_
  refine ev_icmp_ge (tgt := 24) dX7_readItem_6 (by decide) (fun h6 => ?_) (fun h6 => False.elim (Int32.not_lt.mpr (nI_le (a := 12) (b := c0) (by omega) (by omega)) h6))
  refine ev_aload_n (i := 1) dX7_readItem_24 rfl rfl ?_
  refine ev_getf dX7_readItem_25 flX7_49 (by first | exact h23 | exact hG | exact ev_set_eq) (by rfl) ?_
  refine ev_iconst (v := 3) dX7_readItem_28 cni_3 ?_
  refine ev_icmp_ge (tgt := 47) dX7_readItem_29 (by decide) (fun h29 => False.elim (nI_ge (a := c1) (b := 3) (by omega) (by decide) h29)) (fun h29 => ?_)
  refine ev_aload_n (i := 0) dX7_readItem_32 rfl rfl ?_
  refine ev_ldcS (i := 1) dX7_readItem_33 rfl (by decide) rfl ?_
  refine ev_c2 kX7_readItem_35 (c7_takeWord_0 hTb hn (i := 1) (by decide) hsio h23 hp (rd_W_no (by rw [hfix]; exact wB))) (ev_rv_of (by first | exact h23 | exact hG | exact ev_set_eq) rfl rfl) (by decide) (by decide) (Nat.le_of_ble_eq_true rfl) ?_
  refine ev_mem (M2 := M) (by rw [hfix]; exact ev_set_self h23) ?_
  refine ev_if_eq (tgt := 47) dX7_readItem_38 (by decide) (fun h38 => ?_) (fun h38 => False.elim (h38 rfl))
  refine ev_aload_n (i := 1) dX7_readItem_47 rfl rfl ?_
  refine ev_getf dX7_readItem_48 flX7_57 (by first | exact h23 | exact hG | exact ev_set_eq) (by rfl) ?_
  refine ev_iconst (v := 3) dX7_readItem_51 cni_3 ?_
  refine ev_icmp_ge (tgt := 70) dX7_readItem_52 (by decide) (fun h52 => False.elim (nI_ge (a := c2) (b := 3) (by omega) (by decide) h52)) (fun h52 => ?_)
  refine ev_aload_n (i := 0) dX7_readItem_55 rfl rfl ?_
  refine ev_ldcS (i := 2) dX7_readItem_56 rfl (by decide) rfl ?_
  refine ev_c2 kX7_readItem_58 (c7_takeWord_1 hTb hn (i := 2) (by decide) hsio h23 hp (by rw [hfix]; exact wA.1) (by rw [hfix]; exact wA.2)) (ev_rv_of (by first | exact h23 | exact hG | exact ev_set_eq) rfl rfl) (by decide) (by decide) (Nat.le_of_ble_eq_true rfl) ?_
  refine ev_mem (M2 := (ev_set M 22 (.inr (7, [.ref 23, .ref 24, .int (nI (p + ch_n 2)), .int (nI tn)])))) (by rw [hfix]) ?_
  refine ev_if_eq (tgt := 70) dX7_readItem_61 (by decide) (fun h61 => False.elim (absurd h61 (by decide))) (fun h61 => ?_)
  refine ev_aload_n (i := 0) dX7_readItem_64 rfl rfl ?_
  refine ev_aload_n (i := 1) dX7_readItem_65 rfl rfl ?_
  refine ev_c2 kX7_readItem_66 (hcal) (ev_rv_of (by first | exact h23 | exact hG | exact ev_set_eq) rfl rfl) (by decide) (by decide) (Nat.le_of_ble_eq_true rfl) ?_
  exact ev_retz dX7_readItem_69 rfl (⟨rfl, rfl⟩)
theorem c7_readItem_A_11 {G : ev_G} {n : Nat} {M : ev_M} {tn : Nat} {tb : Nat → Int32} (hTb : M 23 = .inl (0, 400, .inl tb)) (hn : tn ≤ 400) {p : Nat} (hsio : ev_hs G) (h23 : M 22 = .inr (7, [.ref 23, .ref 24, .int (nI (p)), .int (nI tn)])) (hp : p ≤ tn) (hfix : rd_skip tn tb p = p) {g c0 c1 c2 : Nat} (hG : M g = .inr (3, [.ref (g + 1), .ref (g + 2), .ref (g + 3), .int (nI c0), .int (nI c1), .int (nI c2)])) (hcc : c0 ≤ 12 ∧ c1 ≤ 3 ∧ c2 ≤ 3) (fS : c0 = 12) (fB : c1 = 3) (rA : c2 < 3) (wA : rd_W tn tb 2 p) {bb : Bool} {M1 : ev_M} (hcal : ev_Cal G mX7_readArcher 6 0 0 [.ref 22, .ref g] n (ev_set M 22 (.inr (7, [.ref 23, .ref 24, .int (nI (p + ch_n 2)), .int (nI tn)]))) (ev_is (some (.int (ev_b bb))) M1)) : ev_Cal G mX7_readItem 7 0 0 [.ref 22, .ref g] n M (ev_is (some (.int (ev_b bb))) M1) := by
  refine ev_Cal_of (L := [some (.ref 22), some (.ref g)]) (by decide +kernel) (Nat.le_of_ble_eq_true rfl) rfl ?_
  refine ev_aload_n (i := 1) dX7_readItem_0 rfl rfl ?_
  refine ev_getf dX7_readItem_1 flX7_37 (by first | exact h23 | exact hG | exact ev_set_eq) (by rfl) ?_
  refine ev_bipush (v := 12) dX7_readItem_4 cnb_12 ?_
  refine ev_icmp_ge (tgt := 24) dX7_readItem_6 (by decide) (fun h6 => ?_) (fun h6 => False.elim (Int32.not_lt.mpr (nI_le (a := 12) (b := c0) (by omega) (by omega)) h6))
  refine ev_aload_n (i := 1) dX7_readItem_24 rfl rfl ?_
  refine ev_getf dX7_readItem_25 flX7_49 (by first | exact h23 | exact hG | exact ev_set_eq) (by rfl) ?_
  refine ev_iconst (v := 3) dX7_readItem_28 cni_3 ?_
  refine ev_icmp_ge (tgt := 47) dX7_readItem_29 (by decide) (fun h29 => ?_) (fun h29 => False.elim (Int32.not_lt.mpr (nI_le (a := 3) (b := c1) (by omega) (by omega)) h29))
  refine ev_aload_n (i := 1) dX7_readItem_47 rfl rfl ?_
  refine ev_getf dX7_readItem_48 flX7_57 (by first | exact h23 | exact hG | exact ev_set_eq) (by rfl) ?_
  refine ev_iconst (v := 3) dX7_readItem_51 cni_3 ?_
  refine ev_icmp_ge (tgt := 70) dX7_readItem_52 (by decide) (fun h52 => False.elim (nI_ge (a := c2) (b := 3) (by omega) (by decide) h52)) (fun h52 => ?_)
  refine ev_aload_n (i := 0) dX7_readItem_55 rfl rfl ?_
  refine ev_ldcS (i := 2) dX7_readItem_56 rfl (by decide) rfl ?_
  refine ev_c2 kX7_readItem_58 (c7_takeWord_1 hTb hn (i := 2) (by decide) hsio h23 hp (by rw [hfix]; exact wA.1) (by rw [hfix]; exact wA.2)) (ev_rv_of (by first | exact h23 | exact hG | exact ev_set_eq) rfl rfl) (by decide) (by decide) (Nat.le_of_ble_eq_true rfl) ?_
  refine ev_mem (M2 := (ev_set M 22 (.inr (7, [.ref 23, .ref 24, .int (nI (p + ch_n 2)), .int (nI tn)])))) (by rw [hfix]) ?_
  refine ev_if_eq (tgt := 70) dX7_readItem_61 (by decide) (fun h61 => False.elim (absurd h61 (by decide))) (fun h61 => ?_)
  refine ev_aload_n (i := 0) dX7_readItem_64 rfl rfl ?_
  refine ev_aload_n (i := 1) dX7_readItem_65 rfl rfl ?_
  refine ev_c2 kX7_readItem_66 (hcal) (ev_rv_of (by first | exact h23 | exact hG | exact ev_set_eq) rfl rfl) (by decide) (by decide) (Nat.le_of_ble_eq_true rfl) ?_
  exact ev_retz dX7_readItem_69 rfl (⟨rfl, rfl⟩)
theorem c7_readItem_no_000 {G : ev_G} {n : Nat} {M : ev_M} {tn : Nat} {tb : Nat → Int32} (hTb : M 23 = .inl (0, 400, .inl tb)) (hn : tn ≤ 400) {p : Nat} (hsio : ev_hs G) (h23 : M 22 = .inr (7, [.ref 23, .ref 24, .int (nI (p)), .int (nI tn)])) (hp : p ≤ tn) (hfix : rd_skip tn tb p = p) {g c0 c1 c2 : Nat} (hG : M g = .inr (3, [.ref (g + 1), .ref (g + 2), .ref (g + 3), .int (nI c0), .int (nI c1), .int (nI c2)])) (hcc : c0 ≤ 12 ∧ c1 ≤ 3 ∧ c2 ≤ 3) (rS : c0 < 12) (wS : ¬ rd_W tn tb 0 p) (rB : c1 < 3) (wB : ¬ rd_W tn tb 1 p) (rA : c2 < 3) (wA : ¬ rd_W tn tb 2 p)  : ev_Cal G mX7_readItem 7 0 0 [.ref 22, .ref g] n M (ev_is (some (.int 0)) M) := by
  refine ev_Cal_of (L := [some (.ref 22), some (.ref g)]) (by decide +kernel) (Nat.le_of_ble_eq_true rfl) rfl ?_
  refine ev_aload_n (i := 1) dX7_readItem_0 rfl rfl ?_
  refine ev_getf dX7_readItem_1 flX7_37 (by first | exact h23 | exact hG | exact ev_set_eq) (by rfl) ?_
  refine ev_bipush (v := 12) dX7_readItem_4 cnb_12 ?_
  refine ev_icmp_ge (tgt := 24) dX7_readItem_6 (by decide) (fun h6 => False.elim (nI_ge (a := c0) (b := 12) (by omega) (by decide) h6)) (fun h6 => ?_)
  refine ev_aload_n (i := 0) dX7_readItem_9 rfl rfl ?_
  refine ev_ldcS (i := 0) dX7_readItem_10 rfl (by decide) rfl ?_
  refine ev_c2 kX7_readItem_12 (c7_takeWord_0 hTb hn (i := 0) (by decide) hsio h23 hp (rd_W_no (by rw [hfix]; exact wS))) (ev_rv_of (by first | exact h23 | exact hG | exact ev_set_eq) rfl rfl) (by decide) (by decide) (Nat.le_of_ble_eq_true rfl) ?_
  refine ev_mem (M2 := M) (by rw [hfix]; exact ev_set_self h23) ?_
  refine ev_if_eq (tgt := 24) dX7_readItem_15 (by decide) (fun h15 => ?_) (fun h15 => False.elim (h15 rfl))
  refine ev_aload_n (i := 1) dX7_readItem_24 rfl rfl ?_
  refine ev_getf dX7_readItem_25 flX7_49 (by first | exact h23 | exact hG | exact ev_set_eq) (by rfl) ?_
  refine ev_iconst (v := 3) dX7_readItem_28 cni_3 ?_
  refine ev_icmp_ge (tgt := 47) dX7_readItem_29 (by decide) (fun h29 => False.elim (nI_ge (a := c1) (b := 3) (by omega) (by decide) h29)) (fun h29 => ?_)
  refine ev_aload_n (i := 0) dX7_readItem_32 rfl rfl ?_
  refine ev_ldcS (i := 1) dX7_readItem_33 rfl (by decide) rfl ?_
  refine ev_c2 kX7_readItem_35 (c7_takeWord_0 hTb hn (i := 1) (by decide) hsio h23 hp (rd_W_no (by rw [hfix]; exact wB))) (ev_rv_of (by first | exact h23 | exact hG | exact ev_set_eq) rfl rfl) (by decide) (by decide) (Nat.le_of_ble_eq_true rfl) ?_
  refine ev_mem (M2 := M) (by rw [hfix]; exact ev_set_self h23) ?_
  refine ev_if_eq (tgt := 47) dX7_readItem_38 (by decide) (fun h38 => ?_) (fun h38 => False.elim (h38 rfl))
  refine ev_aload_n (i := 1) dX7_readItem_47 rfl rfl ?_
  refine ev_getf dX7_readItem_48 flX7_57 (by first | exact h23 | exact hG | exact ev_set_eq) (by rfl) ?_
  refine ev_iconst (v := 3) dX7_readItem_51 cni_3 ?_
  refine ev_icmp_ge (tgt := 70) dX7_readItem_52 (by decide) (fun h52 => False.elim (nI_ge (a := c2) (b := 3) (by omega) (by decide) h52)) (fun h52 => ?_)
  refine ev_aload_n (i := 0) dX7_readItem_55 rfl rfl ?_
  refine ev_ldcS (i := 2) dX7_readItem_56 rfl (by decide) rfl ?_
  refine ev_c2 kX7_readItem_58 (c7_takeWord_0 hTb hn (i := 2) (by decide) hsio h23 hp (rd_W_no (by rw [hfix]; exact wA))) (ev_rv_of (by first | exact h23 | exact hG | exact ev_set_eq) rfl rfl) (by decide) (by decide) (Nat.le_of_ble_eq_true rfl) ?_
  refine ev_mem (M2 := M) (by rw [hfix]; exact ev_set_self h23) ?_
  refine ev_if_eq (tgt := 70) dX7_readItem_61 (by decide) (fun h61 => ?_) (fun h61 => False.elim (h61 rfl))
  refine ev_iconst (v := 0) dX7_readItem_70 cni_0 ?_
  exact ev_reti dX7_readItem_71 rfl rfl (⟨rfl, rfl⟩)
theorem c7_readItem_no_001 {G : ev_G} {n : Nat} {M : ev_M} {tn : Nat} {tb : Nat → Int32} (hTb : M 23 = .inl (0, 400, .inl tb)) (hn : tn ≤ 400) {p : Nat} (hsio : ev_hs G) (h23 : M 22 = .inr (7, [.ref 23, .ref 24, .int (nI (p)), .int (nI tn)])) (hp : p ≤ tn) (hfix : rd_skip tn tb p = p) {g c0 c1 c2 : Nat} (hG : M g = .inr (3, [.ref (g + 1), .ref (g + 2), .ref (g + 3), .int (nI c0), .int (nI c1), .int (nI c2)])) (hcc : c0 ≤ 12 ∧ c1 ≤ 3 ∧ c2 ≤ 3) (rS : c0 < 12) (wS : ¬ rd_W tn tb 0 p) (rB : c1 < 3) (wB : ¬ rd_W tn tb 1 p) (fA : c2 = 3)  : ev_Cal G mX7_readItem 7 0 0 [.ref 22, .ref g] n M (ev_is (some (.int 0)) M) := by
  refine ev_Cal_of (L := [some (.ref 22), some (.ref g)]) (by decide +kernel) (Nat.le_of_ble_eq_true rfl) rfl ?_
  refine ev_aload_n (i := 1) dX7_readItem_0 rfl rfl ?_
  refine ev_getf dX7_readItem_1 flX7_37 (by first | exact h23 | exact hG | exact ev_set_eq) (by rfl) ?_
  refine ev_bipush (v := 12) dX7_readItem_4 cnb_12 ?_
  refine ev_icmp_ge (tgt := 24) dX7_readItem_6 (by decide) (fun h6 => False.elim (nI_ge (a := c0) (b := 12) (by omega) (by decide) h6)) (fun h6 => ?_)
  refine ev_aload_n (i := 0) dX7_readItem_9 rfl rfl ?_
  refine ev_ldcS (i := 0) dX7_readItem_10 rfl (by decide) rfl ?_
  refine ev_c2 kX7_readItem_12 (c7_takeWord_0 hTb hn (i := 0) (by decide) hsio h23 hp (rd_W_no (by rw [hfix]; exact wS))) (ev_rv_of (by first | exact h23 | exact hG | exact ev_set_eq) rfl rfl) (by decide) (by decide) (Nat.le_of_ble_eq_true rfl) ?_
  refine ev_mem (M2 := M) (by rw [hfix]; exact ev_set_self h23) ?_
  refine ev_if_eq (tgt := 24) dX7_readItem_15 (by decide) (fun h15 => ?_) (fun h15 => False.elim (h15 rfl))
  refine ev_aload_n (i := 1) dX7_readItem_24 rfl rfl ?_
  refine ev_getf dX7_readItem_25 flX7_49 (by first | exact h23 | exact hG | exact ev_set_eq) (by rfl) ?_
  refine ev_iconst (v := 3) dX7_readItem_28 cni_3 ?_
  refine ev_icmp_ge (tgt := 47) dX7_readItem_29 (by decide) (fun h29 => False.elim (nI_ge (a := c1) (b := 3) (by omega) (by decide) h29)) (fun h29 => ?_)
  refine ev_aload_n (i := 0) dX7_readItem_32 rfl rfl ?_
  refine ev_ldcS (i := 1) dX7_readItem_33 rfl (by decide) rfl ?_
  refine ev_c2 kX7_readItem_35 (c7_takeWord_0 hTb hn (i := 1) (by decide) hsio h23 hp (rd_W_no (by rw [hfix]; exact wB))) (ev_rv_of (by first | exact h23 | exact hG | exact ev_set_eq) rfl rfl) (by decide) (by decide) (Nat.le_of_ble_eq_true rfl) ?_
  refine ev_mem (M2 := M) (by rw [hfix]; exact ev_set_self h23) ?_
  refine ev_if_eq (tgt := 47) dX7_readItem_38 (by decide) (fun h38 => ?_) (fun h38 => False.elim (h38 rfl))
  refine ev_aload_n (i := 1) dX7_readItem_47 rfl rfl ?_
  refine ev_getf dX7_readItem_48 flX7_57 (by first | exact h23 | exact hG | exact ev_set_eq) (by rfl) ?_
  refine ev_iconst (v := 3) dX7_readItem_51 cni_3 ?_
  refine ev_icmp_ge (tgt := 70) dX7_readItem_52 (by decide) (fun h52 => ?_) (fun h52 => False.elim (Int32.not_lt.mpr (nI_le (a := 3) (b := c2) (by omega) (by omega)) h52))
  refine ev_iconst (v := 0) dX7_readItem_70 cni_0 ?_
  exact ev_reti dX7_readItem_71 rfl rfl (⟨rfl, rfl⟩)
theorem c7_readItem_no_010 {G : ev_G} {n : Nat} {M : ev_M} {tn : Nat} {tb : Nat → Int32} (hTb : M 23 = .inl (0, 400, .inl tb)) (hn : tn ≤ 400) {p : Nat} (hsio : ev_hs G) (h23 : M 22 = .inr (7, [.ref 23, .ref 24, .int (nI (p)), .int (nI tn)])) (hp : p ≤ tn) (hfix : rd_skip tn tb p = p) {g c0 c1 c2 : Nat} (hG : M g = .inr (3, [.ref (g + 1), .ref (g + 2), .ref (g + 3), .int (nI c0), .int (nI c1), .int (nI c2)])) (hcc : c0 ≤ 12 ∧ c1 ≤ 3 ∧ c2 ≤ 3) (rS : c0 < 12) (wS : ¬ rd_W tn tb 0 p) (fB : c1 = 3) (rA : c2 < 3) (wA : ¬ rd_W tn tb 2 p)  : ev_Cal G mX7_readItem 7 0 0 [.ref 22, .ref g] n M (ev_is (some (.int 0)) M) := by
  refine ev_Cal_of (L := [some (.ref 22), some (.ref g)]) (by decide +kernel) (Nat.le_of_ble_eq_true rfl) rfl ?_
  refine ev_aload_n (i := 1) dX7_readItem_0 rfl rfl ?_
  refine ev_getf dX7_readItem_1 flX7_37 (by first | exact h23 | exact hG | exact ev_set_eq) (by rfl) ?_
  refine ev_bipush (v := 12) dX7_readItem_4 cnb_12 ?_
  refine ev_icmp_ge (tgt := 24) dX7_readItem_6 (by decide) (fun h6 => False.elim (nI_ge (a := c0) (b := 12) (by omega) (by decide) h6)) (fun h6 => ?_)
  refine ev_aload_n (i := 0) dX7_readItem_9 rfl rfl ?_
  refine ev_ldcS (i := 0) dX7_readItem_10 rfl (by decide) rfl ?_
  refine ev_c2 kX7_readItem_12 (c7_takeWord_0 hTb hn (i := 0) (by decide) hsio h23 hp (rd_W_no (by rw [hfix]; exact wS))) (ev_rv_of (by first | exact h23 | exact hG | exact ev_set_eq) rfl rfl) (by decide) (by decide) (Nat.le_of_ble_eq_true rfl) ?_
  refine ev_mem (M2 := M) (by rw [hfix]; exact ev_set_self h23) ?_
  refine ev_if_eq (tgt := 24) dX7_readItem_15 (by decide) (fun h15 => ?_) (fun h15 => False.elim (h15 rfl))
  refine ev_aload_n (i := 1) dX7_readItem_24 rfl rfl ?_
  refine ev_getf dX7_readItem_25 flX7_49 (by first | exact h23 | exact hG | exact ev_set_eq) (by rfl) ?_
  refine ev_iconst (v := 3) dX7_readItem_28 cni_3 ?_
  refine ev_icmp_ge (tgt := 47) dX7_readItem_29 (by decide) (fun h29 => ?_) (fun h29 => False.elim (Int32.not_lt.mpr (nI_le (a := 3) (b := c1) (by omega) (by omega)) h29))
  refine ev_aload_n (i := 1) dX7_readItem_47 rfl rfl ?_
  refine ev_getf dX7_readItem_48 flX7_57 (by first | exact h23 | exact hG | exact ev_set_eq) (by rfl) ?_
  refine ev_iconst (v := 3) dX7_readItem_51 cni_3 ?_
  refine ev_icmp_ge (tgt := 70) dX7_readItem_52 (by decide) (fun h52 => False.elim (nI_ge (a := c2) (b := 3) (by omega) (by decide) h52)) (fun h52 => ?_)
  refine ev_aload_n (i := 0) dX7_readItem_55 rfl rfl ?_
  refine ev_ldcS (i := 2) dX7_readItem_56 rfl (by decide) rfl ?_
  refine ev_c2 kX7_readItem_58 (c7_takeWord_0 hTb hn (i := 2) (by decide) hsio h23 hp (rd_W_no (by rw [hfix]; exact wA))) (ev_rv_of (by first | exact h23 | exact hG | exact ev_set_eq) rfl rfl) (by decide) (by decide) (Nat.le_of_ble_eq_true rfl) ?_
  refine ev_mem (M2 := M) (by rw [hfix]; exact ev_set_self h23) ?_
  refine ev_if_eq (tgt := 70) dX7_readItem_61 (by decide) (fun h61 => ?_) (fun h61 => False.elim (h61 rfl))
  refine ev_iconst (v := 0) dX7_readItem_70 cni_0 ?_
  exact ev_reti dX7_readItem_71 rfl rfl (⟨rfl, rfl⟩)
theorem c7_readItem_no_011 {G : ev_G} {n : Nat} {M : ev_M} {tn : Nat} {tb : Nat → Int32} (hTb : M 23 = .inl (0, 400, .inl tb)) (hn : tn ≤ 400) {p : Nat} (hsio : ev_hs G) (h23 : M 22 = .inr (7, [.ref 23, .ref 24, .int (nI (p)), .int (nI tn)])) (hp : p ≤ tn) (hfix : rd_skip tn tb p = p) {g c0 c1 c2 : Nat} (hG : M g = .inr (3, [.ref (g + 1), .ref (g + 2), .ref (g + 3), .int (nI c0), .int (nI c1), .int (nI c2)])) (hcc : c0 ≤ 12 ∧ c1 ≤ 3 ∧ c2 ≤ 3) (rS : c0 < 12) (wS : ¬ rd_W tn tb 0 p) (fB : c1 = 3) (fA : c2 = 3)  : ev_Cal G mX7_readItem 7 0 0 [.ref 22, .ref g] n M (ev_is (some (.int 0)) M) := by
  refine ev_Cal_of (L := [some (.ref 22), some (.ref g)]) (by decide +kernel) (Nat.le_of_ble_eq_true rfl) rfl ?_
  refine ev_aload_n (i := 1) dX7_readItem_0 rfl rfl ?_
  refine ev_getf dX7_readItem_1 flX7_37 (by first | exact h23 | exact hG | exact ev_set_eq) (by rfl) ?_
  refine ev_bipush (v := 12) dX7_readItem_4 cnb_12 ?_
  refine ev_icmp_ge (tgt := 24) dX7_readItem_6 (by decide) (fun h6 => False.elim (nI_ge (a := c0) (b := 12) (by omega) (by decide) h6)) (fun h6 => ?_)
  refine ev_aload_n (i := 0) dX7_readItem_9 rfl rfl ?_
  refine ev_ldcS (i := 0) dX7_readItem_10 rfl (by decide) rfl ?_
  refine ev_c2 kX7_readItem_12 (c7_takeWord_0 hTb hn (i := 0) (by decide) hsio h23 hp (rd_W_no (by rw [hfix]; exact wS))) (ev_rv_of (by first | exact h23 | exact hG | exact ev_set_eq) rfl rfl) (by decide) (by decide) (Nat.le_of_ble_eq_true rfl) ?_
  refine ev_mem (M2 := M) (by rw [hfix]; exact ev_set_self h23) ?_
  refine ev_if_eq (tgt := 24) dX7_readItem_15 (by decide) (fun h15 => ?_) (fun h15 => False.elim (h15 rfl))
  refine ev_aload_n (i := 1) dX7_readItem_24 rfl rfl ?_
  refine ev_getf dX7_readItem_25 flX7_49 (by first | exact h23 | exact hG | exact ev_set_eq) (by rfl) ?_
  refine ev_iconst (v := 3) dX7_readItem_28 cni_3 ?_
  refine ev_icmp_ge (tgt := 47) dX7_readItem_29 (by decide) (fun h29 => ?_) (fun h29 => False.elim (Int32.not_lt.mpr (nI_le (a := 3) (b := c1) (by omega) (by omega)) h29))
  refine ev_aload_n (i := 1) dX7_readItem_47 rfl rfl ?_
  refine ev_getf dX7_readItem_48 flX7_57 (by first | exact h23 | exact hG | exact ev_set_eq) (by rfl) ?_
  refine ev_iconst (v := 3) dX7_readItem_51 cni_3 ?_
  refine ev_icmp_ge (tgt := 70) dX7_readItem_52 (by decide) (fun h52 => ?_) (fun h52 => False.elim (Int32.not_lt.mpr (nI_le (a := 3) (b := c2) (by omega) (by omega)) h52))
  refine ev_iconst (v := 0) dX7_readItem_70 cni_0 ?_
  exact ev_reti dX7_readItem_71 rfl rfl (⟨rfl, rfl⟩)
theorem c7_readItem_no_100 {G : ev_G} {n : Nat} {M : ev_M} {tn : Nat} {tb : Nat → Int32} (hTb : M 23 = .inl (0, 400, .inl tb)) (hn : tn ≤ 400) {p : Nat} (hsio : ev_hs G) (h23 : M 22 = .inr (7, [.ref 23, .ref 24, .int (nI (p)), .int (nI tn)])) (hp : p ≤ tn) (hfix : rd_skip tn tb p = p) {g c0 c1 c2 : Nat} (hG : M g = .inr (3, [.ref (g + 1), .ref (g + 2), .ref (g + 3), .int (nI c0), .int (nI c1), .int (nI c2)])) (hcc : c0 ≤ 12 ∧ c1 ≤ 3 ∧ c2 ≤ 3) (fS : c0 = 12) (rB : c1 < 3) (wB : ¬ rd_W tn tb 1 p) (rA : c2 < 3) (wA : ¬ rd_W tn tb 2 p)  : ev_Cal G mX7_readItem 7 0 0 [.ref 22, .ref g] n M (ev_is (some (.int 0)) M) := by
  refine ev_Cal_of (L := [some (.ref 22), some (.ref g)]) (by decide +kernel) (Nat.le_of_ble_eq_true rfl) rfl ?_
  refine ev_aload_n (i := 1) dX7_readItem_0 rfl rfl ?_
  refine ev_getf dX7_readItem_1 flX7_37 (by first | exact h23 | exact hG | exact ev_set_eq) (by rfl) ?_
  refine ev_bipush (v := 12) dX7_readItem_4 cnb_12 ?_
  refine ev_icmp_ge (tgt := 24) dX7_readItem_6 (by decide) (fun h6 => ?_) (fun h6 => False.elim (Int32.not_lt.mpr (nI_le (a := 12) (b := c0) (by omega) (by omega)) h6))
  refine ev_aload_n (i := 1) dX7_readItem_24 rfl rfl ?_
  refine ev_getf dX7_readItem_25 flX7_49 (by first | exact h23 | exact hG | exact ev_set_eq) (by rfl) ?_
  refine ev_iconst (v := 3) dX7_readItem_28 cni_3 ?_
  refine ev_icmp_ge (tgt := 47) dX7_readItem_29 (by decide) (fun h29 => False.elim (nI_ge (a := c1) (b := 3) (by omega) (by decide) h29)) (fun h29 => ?_)
  refine ev_aload_n (i := 0) dX7_readItem_32 rfl rfl ?_
  refine ev_ldcS (i := 1) dX7_readItem_33 rfl (by decide) rfl ?_
  refine ev_c2 kX7_readItem_35 (c7_takeWord_0 hTb hn (i := 1) (by decide) hsio h23 hp (rd_W_no (by rw [hfix]; exact wB))) (ev_rv_of (by first | exact h23 | exact hG | exact ev_set_eq) rfl rfl) (by decide) (by decide) (Nat.le_of_ble_eq_true rfl) ?_
  refine ev_mem (M2 := M) (by rw [hfix]; exact ev_set_self h23) ?_
  refine ev_if_eq (tgt := 47) dX7_readItem_38 (by decide) (fun h38 => ?_) (fun h38 => False.elim (h38 rfl))
  refine ev_aload_n (i := 1) dX7_readItem_47 rfl rfl ?_
  refine ev_getf dX7_readItem_48 flX7_57 (by first | exact h23 | exact hG | exact ev_set_eq) (by rfl) ?_
  refine ev_iconst (v := 3) dX7_readItem_51 cni_3 ?_
  refine ev_icmp_ge (tgt := 70) dX7_readItem_52 (by decide) (fun h52 => False.elim (nI_ge (a := c2) (b := 3) (by omega) (by decide) h52)) (fun h52 => ?_)
  refine ev_aload_n (i := 0) dX7_readItem_55 rfl rfl ?_
  refine ev_ldcS (i := 2) dX7_readItem_56 rfl (by decide) rfl ?_
  refine ev_c2 kX7_readItem_58 (c7_takeWord_0 hTb hn (i := 2) (by decide) hsio h23 hp (rd_W_no (by rw [hfix]; exact wA))) (ev_rv_of (by first | exact h23 | exact hG | exact ev_set_eq) rfl rfl) (by decide) (by decide) (Nat.le_of_ble_eq_true rfl) ?_
  refine ev_mem (M2 := M) (by rw [hfix]; exact ev_set_self h23) ?_
  refine ev_if_eq (tgt := 70) dX7_readItem_61 (by decide) (fun h61 => ?_) (fun h61 => False.elim (h61 rfl))
  refine ev_iconst (v := 0) dX7_readItem_70 cni_0 ?_
  exact ev_reti dX7_readItem_71 rfl rfl (⟨rfl, rfl⟩)
theorem c7_readItem_no_101 {G : ev_G} {n : Nat} {M : ev_M} {tn : Nat} {tb : Nat → Int32} (hTb : M 23 = .inl (0, 400, .inl tb)) (hn : tn ≤ 400) {p : Nat} (hsio : ev_hs G) (h23 : M 22 = .inr (7, [.ref 23, .ref 24, .int (nI (p)), .int (nI tn)])) (hp : p ≤ tn) (hfix : rd_skip tn tb p = p) {g c0 c1 c2 : Nat} (hG : M g = .inr (3, [.ref (g + 1), .ref (g + 2), .ref (g + 3), .int (nI c0), .int (nI c1), .int (nI c2)])) (hcc : c0 ≤ 12 ∧ c1 ≤ 3 ∧ c2 ≤ 3) (fS : c0 = 12) (rB : c1 < 3) (wB : ¬ rd_W tn tb 1 p) (fA : c2 = 3)  : ev_Cal G mX7_readItem 7 0 0 [.ref 22, .ref g] n M (ev_is (some (.int 0)) M) := by
  refine ev_Cal_of (L := [some (.ref 22), some (.ref g)]) (by decide +kernel) (Nat.le_of_ble_eq_true rfl) rfl ?_
  refine ev_aload_n (i := 1) dX7_readItem_0 rfl rfl ?_
  refine ev_getf dX7_readItem_1 flX7_37 (by first | exact h23 | exact hG | exact ev_set_eq) (by rfl) ?_
  refine ev_bipush (v := 12) dX7_readItem_4 cnb_12 ?_
  refine ev_icmp_ge (tgt := 24) dX7_readItem_6 (by decide) (fun h6 => ?_) (fun h6 => False.elim (Int32.not_lt.mpr (nI_le (a := 12) (b := c0) (by omega) (by omega)) h6))
  refine ev_aload_n (i := 1) dX7_readItem_24 rfl rfl ?_
  refine ev_getf dX7_readItem_25 flX7_49 (by first | exact h23 | exact hG | exact ev_set_eq) (by rfl) ?_
  refine ev_iconst (v := 3) dX7_readItem_28 cni_3 ?_
  refine ev_icmp_ge (tgt := 47) dX7_readItem_29 (by decide) (fun h29 => False.elim (nI_ge (a := c1) (b := 3) (by omega) (by decide) h29)) (fun h29 => ?_)
  refine ev_aload_n (i := 0) dX7_readItem_32 rfl rfl ?_
  refine ev_ldcS (i := 1) dX7_readItem_33 rfl (by decide) rfl ?_
  refine ev_c2 kX7_readItem_35 (c7_takeWord_0 hTb hn (i := 1) (by decide) hsio h23 hp (rd_W_no (by rw [hfix]; exact wB))) (ev_rv_of (by first | exact h23 | exact hG | exact ev_set_eq) rfl rfl) (by decide) (by decide) (Nat.le_of_ble_eq_true rfl) ?_
  refine ev_mem (M2 := M) (by rw [hfix]; exact ev_set_self h23) ?_
  refine ev_if_eq (tgt := 47) dX7_readItem_38 (by decide) (fun h38 => ?_) (fun h38 => False.elim (h38 rfl))
  refine ev_aload_n (i := 1) dX7_readItem_47 rfl rfl ?_
  refine ev_getf dX7_readItem_48 flX7_57 (by first | exact h23 | exact hG | exact ev_set_eq) (by rfl) ?_
  refine ev_iconst (v := 3) dX7_readItem_51 cni_3 ?_
  refine ev_icmp_ge (tgt := 70) dX7_readItem_52 (by decide) (fun h52 => ?_) (fun h52 => False.elim (Int32.not_lt.mpr (nI_le (a := 3) (b := c2) (by omega) (by omega)) h52))
  refine ev_iconst (v := 0) dX7_readItem_70 cni_0 ?_
  exact ev_reti dX7_readItem_71 rfl rfl (⟨rfl, rfl⟩)
theorem c7_readItem_no_110 {G : ev_G} {n : Nat} {M : ev_M} {tn : Nat} {tb : Nat → Int32} (hTb : M 23 = .inl (0, 400, .inl tb)) (hn : tn ≤ 400) {p : Nat} (hsio : ev_hs G) (h23 : M 22 = .inr (7, [.ref 23, .ref 24, .int (nI (p)), .int (nI tn)])) (hp : p ≤ tn) (hfix : rd_skip tn tb p = p) {g c0 c1 c2 : Nat} (hG : M g = .inr (3, [.ref (g + 1), .ref (g + 2), .ref (g + 3), .int (nI c0), .int (nI c1), .int (nI c2)])) (hcc : c0 ≤ 12 ∧ c1 ≤ 3 ∧ c2 ≤ 3) (fS : c0 = 12) (fB : c1 = 3) (rA : c2 < 3) (wA : ¬ rd_W tn tb 2 p)  : ev_Cal G mX7_readItem 7 0 0 [.ref 22, .ref g] n M (ev_is (some (.int 0)) M) := by
  refine ev_Cal_of (L := [some (.ref 22), some (.ref g)]) (by decide +kernel) (Nat.le_of_ble_eq_true rfl) rfl ?_
  refine ev_aload_n (i := 1) dX7_readItem_0 rfl rfl ?_
  refine ev_getf dX7_readItem_1 flX7_37 (by first | exact h23 | exact hG | exact ev_set_eq) (by rfl) ?_
  refine ev_bipush (v := 12) dX7_readItem_4 cnb_12 ?_
  refine ev_icmp_ge (tgt := 24) dX7_readItem_6 (by decide) (fun h6 => ?_) (fun h6 => False.elim (Int32.not_lt.mpr (nI_le (a := 12) (b := c0) (by omega) (by omega)) h6))
  refine ev_aload_n (i := 1) dX7_readItem_24 rfl rfl ?_
  refine ev_getf dX7_readItem_25 flX7_49 (by first | exact h23 | exact hG | exact ev_set_eq) (by rfl) ?_
  refine ev_iconst (v := 3) dX7_readItem_28 cni_3 ?_
  refine ev_icmp_ge (tgt := 47) dX7_readItem_29 (by decide) (fun h29 => ?_) (fun h29 => False.elim (Int32.not_lt.mpr (nI_le (a := 3) (b := c1) (by omega) (by omega)) h29))
  refine ev_aload_n (i := 1) dX7_readItem_47 rfl rfl ?_
  refine ev_getf dX7_readItem_48 flX7_57 (by first | exact h23 | exact hG | exact ev_set_eq) (by rfl) ?_
  refine ev_iconst (v := 3) dX7_readItem_51 cni_3 ?_
  refine ev_icmp_ge (tgt := 70) dX7_readItem_52 (by decide) (fun h52 => False.elim (nI_ge (a := c2) (b := 3) (by omega) (by decide) h52)) (fun h52 => ?_)
  refine ev_aload_n (i := 0) dX7_readItem_55 rfl rfl ?_
  refine ev_ldcS (i := 2) dX7_readItem_56 rfl (by decide) rfl ?_
  refine ev_c2 kX7_readItem_58 (c7_takeWord_0 hTb hn (i := 2) (by decide) hsio h23 hp (rd_W_no (by rw [hfix]; exact wA))) (ev_rv_of (by first | exact h23 | exact hG | exact ev_set_eq) rfl rfl) (by decide) (by decide) (Nat.le_of_ble_eq_true rfl) ?_
  refine ev_mem (M2 := M) (by rw [hfix]; exact ev_set_self h23) ?_
  refine ev_if_eq (tgt := 70) dX7_readItem_61 (by decide) (fun h61 => ?_) (fun h61 => False.elim (h61 rfl))
  refine ev_iconst (v := 0) dX7_readItem_70 cni_0 ?_
  exact ev_reti dX7_readItem_71 rfl rfl (⟨rfl, rfl⟩)
theorem c7_readItem_no_111 {G : ev_G} {n : Nat} {M : ev_M} {tn : Nat} {tb : Nat → Int32} (hTb : M 23 = .inl (0, 400, .inl tb)) (hn : tn ≤ 400) {p : Nat} (hsio : ev_hs G) (h23 : M 22 = .inr (7, [.ref 23, .ref 24, .int (nI (p)), .int (nI tn)])) (hp : p ≤ tn) (hfix : rd_skip tn tb p = p) {g c0 c1 c2 : Nat} (hG : M g = .inr (3, [.ref (g + 1), .ref (g + 2), .ref (g + 3), .int (nI c0), .int (nI c1), .int (nI c2)])) (hcc : c0 ≤ 12 ∧ c1 ≤ 3 ∧ c2 ≤ 3) (fS : c0 = 12) (fB : c1 = 3) (fA : c2 = 3)  : ev_Cal G mX7_readItem 7 0 0 [.ref 22, .ref g] n M (ev_is (some (.int 0)) M) := by
  refine ev_Cal_of (L := [some (.ref 22), some (.ref g)]) (by decide +kernel) (Nat.le_of_ble_eq_true rfl) rfl ?_
  refine ev_aload_n (i := 1) dX7_readItem_0 rfl rfl ?_
  refine ev_getf dX7_readItem_1 flX7_37 (by first | exact h23 | exact hG | exact ev_set_eq) (by rfl) ?_
  refine ev_bipush (v := 12) dX7_readItem_4 cnb_12 ?_
  refine ev_icmp_ge (tgt := 24) dX7_readItem_6 (by decide) (fun h6 => ?_) (fun h6 => False.elim (Int32.not_lt.mpr (nI_le (a := 12) (b := c0) (by omega) (by omega)) h6))
  refine ev_aload_n (i := 1) dX7_readItem_24 rfl rfl ?_
  refine ev_getf dX7_readItem_25 flX7_49 (by first | exact h23 | exact hG | exact ev_set_eq) (by rfl) ?_
  refine ev_iconst (v := 3) dX7_readItem_28 cni_3 ?_
  refine ev_icmp_ge (tgt := 47) dX7_readItem_29 (by decide) (fun h29 => ?_) (fun h29 => False.elim (Int32.not_lt.mpr (nI_le (a := 3) (b := c1) (by omega) (by omega)) h29))
  refine ev_aload_n (i := 1) dX7_readItem_47 rfl rfl ?_
  refine ev_getf dX7_readItem_48 flX7_57 (by first | exact h23 | exact hG | exact ev_set_eq) (by rfl) ?_
  refine ev_iconst (v := 3) dX7_readItem_51 cni_3 ?_
  refine ev_icmp_ge (tgt := 70) dX7_readItem_52 (by decide) (fun h52 => ?_) (fun h52 => False.elim (Int32.not_lt.mpr (nI_le (a := 3) (b := c2) (by omega) (by omega)) h52))
  refine ev_iconst (v := 0) dX7_readItem_70 cni_0 ?_
  exact ev_reti dX7_readItem_71 rfl rfl (⟨rfl, rfl⟩)
