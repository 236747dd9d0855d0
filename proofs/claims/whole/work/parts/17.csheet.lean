/-! ===== contracts: the class: rate, the sheet, shots ===== -/
theorem c5_rateAs_0 {G : ev_G} {n : Nat} {M : ev_M} {tr : Int64} (h40 : M 40 = .inr (5, [.long (tr)])) {a : Nat} {s : Nat → Int32} (hS : M a = .inr (9, [.int (s 0), .int (s 1), .int (s 2), .int (s 3), .int (s 4), .int (s 5), .int (s 6)])) (ha : a ≠ 40) {b : Nat} {dr wi : Int32} (hW : M b = .inr (1, [.int dr, .int wi])) (hb4 : b ≠ 40) {wd : Int32}  : ev_Cal G mX5_rateAs 8 0 0 [.ref 40, .int 0, .ref a, .ref b, .int wd] n M (ev_is (some (.int (sp_spine (sp_stiff (s 2) (s 3) (s 6)) (s 0) (s 4)))) (ev_set M 40 (.inr (5, [.long (tr + 1)])))) := by
  refine ev_Cal_of (L := [some (.ref 40), some (.int 0), some (.ref a), some (.ref b), some (.int wd)]) (by decide +kernel) (Nat.le_of_ble_eq_true rfl) rfl ?_
  refine ev_iload_n (i := 1) dX5_rateAs_0 rfl rfl ?_
  refine ev_tsin (off := 39) (tgt := 40) dX5_rateAs_1 (by decide) (by decide) (by rfl) (by decide) ?_
  refine ev_aload_n (i := 0) dX5_rateAs_40 rfl rfl ?_
  refine ev_aload_n (i := 2) dX5_rateAs_41 rfl rfl ?_
  refine ev_c2 kX5_rateAs_42 (c5_ofFlight h40 hS ha) (ev_rv_of (by first | assumption | rfl) rfl rfl) (by decide) (by decide) (Nat.le_of_ble_eq_true rfl) ?_
  exact ev_reti dX5_rateAs_45 rfl rfl (⟨by first | rfl | simp [*], rfl⟩)
theorem c5_rateAs_1 {G : ev_G} {n : Nat} {M : ev_M} {tr : Int64} (h40 : M 40 = .inr (5, [.long (tr)])) {a : Nat} {s : Nat → Int32} (hS : M a = .inr (9, [.int (s 0), .int (s 1), .int (s 2), .int (s 3), .int (s 4), .int (s 5), .int (s 6)])) (ha : a ≠ 40) {b : Nat} {dr wi : Int32} (hW : M b = .inr (1, [.int dr, .int wi])) (hb4 : b ≠ 40) {wd : Int32}  : ev_Cal G mX5_rateAs 8 0 0 [.ref 40, .int 1, .ref a, .ref b, .int wd] n M (ev_is (some (.int (sp_spine (sp_stiff (s 2) (s 3) (s 6)) (s 0) (s 4) + s 1))) (ev_set M 40 (.inr (5, [.long (tr + 10 + 1)])))) := by
  refine ev_Cal_of (L := [some (.ref 40), some (.int 1), some (.ref a), some (.ref b), some (.int wd)]) (by decide +kernel) (Nat.le_of_ble_eq_true rfl) rfl ?_
  refine ev_iload_n (i := 1) dX5_rateAs_0 rfl rfl ?_
  refine ev_tsin (off := 45) (tgt := 46) dX5_rateAs_1 (by decide) (by decide) (by rfl) (by decide) ?_
  refine ev_aload_n (i := 0) dX5_rateAs_46 rfl rfl ?_
  refine ev_aload_n (i := 2) dX5_rateAs_47 rfl rfl ?_
  refine ev_c2 kX5_rateAs_48 (c5_ofClean h40 hS ha) (ev_rv_of (by first | assumption | rfl) rfl rfl) (by decide) (by decide) (Nat.le_of_ble_eq_true rfl) ?_
  exact ev_reti dX5_rateAs_51 rfl rfl (⟨by first | rfl | simp [*], rfl⟩)
theorem c5_rateAs_2 {G : ev_G} {n : Nat} {M : ev_M} {tr : Int64} (h40 : M 40 = .inr (5, [.long (tr)])) {a : Nat} {s : Nat → Int32} (hS : M a = .inr (9, [.int (s 0), .int (s 1), .int (s 2), .int (s 3), .int (s 4), .int (s 5), .int (s 6)])) (ha : a ≠ 40) {b : Nat} {dr wi : Int32} (hW : M b = .inr (1, [.int dr, .int wi])) (hb4 : b ≠ 40) {wd : Int32}  : ev_Cal G mX5_rateAs 8 0 0 [.ref 40, .int 2, .ref a, .ref b, .int wd] n M (ev_is (some (.int (sp_spine (sp_stiff (s 2) (s 3) (s 6)) (s 0) (s 4) - sp_drop (s 1 + s 4) dr (s 5)))) (ev_set M 40 (.inr (5, [.long (tr + 100 + 1)])))) := by
  refine ev_Cal_of (L := [some (.ref 40), some (.int 2), some (.ref a), some (.ref b), some (.int wd)]) (by decide +kernel) (Nat.le_of_ble_eq_true rfl) rfl ?_
  refine ev_iload_n (i := 1) dX5_rateAs_0 rfl rfl ?_
  refine ev_tsin (off := 51) (tgt := 52) dX5_rateAs_1 (by decide) (by decide) (by rfl) (by decide) ?_
  refine ev_aload_n (i := 0) dX5_rateAs_52 rfl rfl ?_
  refine ev_aload_n (i := 2) dX5_rateAs_53 rfl rfl ?_
  refine ev_aload_n (i := 3) dX5_rateAs_54 rfl rfl ?_
  refine ev_c3 kX5_rateAs_55 (c5_ofStiff h40 hS ha hW hb4) (ev_rv_of (by first | assumption | rfl) rfl rfl) (by decide) (by decide) (Nat.le_of_ble_eq_true rfl) ?_
  exact ev_reti dX5_rateAs_58 rfl rfl (⟨by first | rfl | simp [*], rfl⟩)
theorem c5_rateAs_3 {G : ev_G} {n : Nat} {M : ev_M} {tr : Int64} (h40 : M 40 = .inr (5, [.long (tr)])) {a : Nat} {s : Nat → Int32} (hS : M a = .inr (9, [.int (s 0), .int (s 1), .int (s 2), .int (s 3), .int (s 4), .int (s 5), .int (s 6)])) (ha : a ≠ 40) {b : Nat} {dr wi : Int32} (hW : M b = .inr (1, [.int dr, .int wi])) (hb4 : b ≠ 40) {wd : Int32}  : ev_Cal G mX5_rateAs 8 0 0 [.ref 40, .int 3, .ref a, .ref b, .int wd] n M (ev_is (some (.int (sp_spine (sp_stiff (s 2) (s 3) (s 6)) (s 0) (s 4) + s 1 + wd))) (ev_set M 40 (.inr (5, [.long (tr + 1000 + 10 + 1)])))) := by
  refine ev_Cal_of (L := [some (.ref 40), some (.int 3), some (.ref a), some (.ref b), some (.int wd)]) (by decide +kernel) (Nat.le_of_ble_eq_true rfl) rfl ?_
  refine ev_iload_n (i := 1) dX5_rateAs_0 rfl rfl ?_
  refine ev_tsin (off := 58) (tgt := 59) dX5_rateAs_1 (by decide) (by decide) (by rfl) (by decide) ?_
  refine ev_aload_n (i := 0) dX5_rateAs_59 rfl rfl ?_
  refine ev_aload_n (i := 2) dX5_rateAs_60 rfl rfl ?_
  refine ev_iload dX5_rateAs_61 rfl ?_
  refine ev_c3 kX5_rateAs_63 (c5_ofWindy h40 hS ha) (ev_rv_of (by first | assumption | rfl) rfl rfl) (by decide) (by decide) (Nat.le_of_ble_eq_true rfl) ?_
  exact ev_reti dX5_rateAs_66 rfl rfl (⟨by first | rfl | simp [*], rfl⟩)
theorem c5_rateAs_4 {G : ev_G} {n : Nat} {M : ev_M} {tr : Int64} (h40 : M 40 = .inr (5, [.long (tr)])) {a : Nat} {s : Nat → Int32} (hS : M a = .inr (9, [.int (s 0), .int (s 1), .int (s 2), .int (s 3), .int (s 4), .int (s 5), .int (s 6)])) (ha : a ≠ 40) {b : Nat} {dr wi : Int32} (hW : M b = .inr (1, [.int dr, .int wi])) (hb4 : b ≠ 40) {wd : Int32}  : ev_Cal G mX5_rateAs 8 0 0 [.ref 40, .int 4, .ref a, .ref b, .int wd] n M (ev_is (some (.int (2 * (sp_spine (sp_stiff (s 2) (s 3) (s 6)) (s 0) (s 4) - sp_drop (s 1 + s 4) dr (s 5))))) (ev_set M 40 (.inr (5, [.long (tr + 10000 + 100 + 1)])))) := by
  refine ev_Cal_of (L := [some (.ref 40), some (.int 4), some (.ref a), some (.ref b), some (.int wd)]) (by decide +kernel) (Nat.le_of_ble_eq_true rfl) rfl ?_
  refine ev_iload_n (i := 1) dX5_rateAs_0 rfl rfl ?_
  refine ev_tsin (off := 66) (tgt := 67) dX5_rateAs_1 (by decide) (by decide) (by rfl) (by decide) ?_
  refine ev_aload_n (i := 0) dX5_rateAs_67 rfl rfl ?_
  refine ev_aload_n (i := 2) dX5_rateAs_68 rfl rfl ?_
  refine ev_aload_n (i := 3) dX5_rateAs_69 rfl rfl ?_
  refine ev_c3 kX5_rateAs_70 (c5_ofSlapped h40 hS ha hW hb4) (ev_rv_of (by first | assumption | rfl) rfl rfl) (by decide) (by decide) (Nat.le_of_ble_eq_true rfl) ?_
  exact ev_reti dX5_rateAs_73 rfl rfl (⟨by first | rfl | simp [*], rfl⟩)
theorem c5_rateAs_5 {G : ev_G} {n : Nat} {M : ev_M} {tr : Int64} (h40 : M 40 = .inr (5, [.long (tr)])) {a : Nat} {s : Nat → Int32} (hS : M a = .inr (9, [.int (s 0), .int (s 1), .int (s 2), .int (s 3), .int (s 4), .int (s 5), .int (s 6)])) (ha : a ≠ 40) {b : Nat} {dr wi : Int32} (hW : M b = .inr (1, [.int dr, .int wi])) (hb4 : b ≠ 40) {wd : Int32}  : ev_Cal G mX5_rateAs 8 0 0 [.ref 40, .int 5, .ref a, .ref b, .int wd] n M (ev_is (some (.int (sp_spine (sp_stiff (s 2) (s 3) (s 6)) (s 0) (s 4) + s 4))) (ev_set M 40 (.inr (5, [.long (tr + 100000 + 1)])))) := by
  refine ev_Cal_of (L := [some (.ref 40), some (.int 5), some (.ref a), some (.ref b), some (.int wd)]) (by decide +kernel) (Nat.le_of_ble_eq_true rfl) rfl ?_
  refine ev_iload_n (i := 1) dX5_rateAs_0 rfl rfl ?_
  refine ev_tsin (off := 73) (tgt := 74) dX5_rateAs_1 (by decide) (by decide) (by rfl) (by decide) ?_
  refine ev_aload_n (i := 0) dX5_rateAs_74 rfl rfl ?_
  refine ev_aload_n (i := 2) dX5_rateAs_75 rfl rfl ?_
  refine ev_c2 kX5_rateAs_76 (c5_ofSoft h40 hS ha) (ev_rv_of (by first | assumption | rfl) rfl rfl) (by decide) (by decide) (Nat.le_of_ble_eq_true rfl) ?_
  exact ev_reti dX5_rateAs_79 rfl rfl (⟨by first | rfl | simp [*], rfl⟩)
theorem c5_rateAs_w {G : ev_G} {n : Nat} {M : ev_M} {a b : Nat} {w wd : Int32} (hw : w.toInt < 0 ∨ 5 < w.toInt) : ev_Cal G mX5_rateAs 8 0 0 [.ref 40, .int w, .ref a, .ref b, .int wd] n M (ev_is (some (.int (-1000000))) M) := by
  refine ev_Cal_of (L := [some (.ref 40), some (.int w), some (.ref a), some (.ref b), some (.int wd)]) (by decide +kernel) (Nat.le_of_ble_eq_true rfl) rfl ?_
  refine ev_iload_n (i := 1) dX5_rateAs_0 rfl rfl ?_
  refine ev_tsout (tgt := 80) dX5_rateAs_1 hw (by decide) ?_
  refine ev_ldc dX5_rateAs_80 coX5_32 ?_
  exact ev_reti dX5_rateAs_82 rfl rfl (⟨by first | rfl | simp [*], rfl⟩)
theorem c12_rate_0 {G : ev_G} {n : Nat} {M : ev_M} {g g' c0 c1 c2 : Nat} {lot : Int32} (h20 : M 21 = .inr (11, [.ref 22, .ref 25, .ref 27, .ref 35, .ref 39, .ref 40, .ref 41, .ref 63, .ref g, .ref g', .int lot])) (hG : M g = .inr (3, [.ref (g + 1), .ref (g + 2), .ref (g + 3), .int (nI c0), .int (nI c1), .int (nI c2)])) {fa : Nat → Option Nat} (hA : M (g + 1) = .inl (2, 12, ev_q fa)) (hfa : ∀ i, i < 12 → fa i = some (g + 4 + i)) {fb : Nat → Option Nat} (hB : M (g + 2) = .inl (3, 3, ev_q fb)) (hfb : ∀ i, i < 3 → fb i = some (g + 16 + i)) {j : Nat} (hj : j < c0) (hc : c0 ≤ 12) (hb : 0 < c1) (hc1 : c1 ≤ 3) {s : Nat → Int32} (hS : M (g + 4 + j) = .inr (9, [.int (s 0), .int (s 1), .int (s 2), .int (s 3), .int (s 4), .int (s 5), .int (s 6)])) {dr wi : Int32} (hW : M (g + 16 + 0) = .inr (1, [.int dr, .int wi])) {tu : Nat → Int32} (hT : M 25 = .inr (10, [.ref 26])) (hV : M 26 = .inl (0, 4, .inl tu)) {tr : Int64} (h40 : M 40 = .inr (5, [.long (tr)])) (hg : 40 < g)  : ev_Cal G mX11_rate 9 0 0 [.ref 21, .int 0, .int (nI j)] n M (ev_is (some (.int (sp_spine (sp_stiff (s 2) (s 3) (s 6)) (s 0) (s 4)))) (ev_set M 40 (.inr (5, [.long (tr + 1)])))) := by
  refine ev_Cal_of (L := [some (.ref 21), some (.int 0), some (.int (nI j)), none, none]) (by decide +kernel) (Nat.le_of_ble_eq_true rfl) rfl ?_
  refine ev_aload_n (i := 0) dX11_rate_0 rfl rfl ?_
  refine ev_getf dX11_rate_1 flX11_64 (by first | assumption | rfl) (by rfl) ?_
  refine ev_iload_n (i := 2) dX11_rate_4 rfl rfl ?_
  refine ev_c2 kX11_rate_5 (c3_stickAt_in hG hA hfa hj hc) (ev_rv_of (by first | assumption | rfl) rfl rfl) (by decide) (by decide) (Nat.le_of_ble_eq_true rfl) ?_
  refine ev_astore_n (i := 3) dX11_rate_8 rfl (Nat.le_of_ble_eq_true rfl) rfl ?_
  refine ev_aload_n (i := 0) dX11_rate_9 rfl rfl ?_
  refine ev_getf dX11_rate_10 flX11_64 (by first | assumption | rfl) (by rfl) ?_
  refine ev_iconst (v := 0) dX11_rate_13 cni_0 ?_
  refine ev_topi nI_0.symm ?_
  refine ev_c2 kX11_rate_14 (c3_bowAt_in (j := 0) hG hB hfb hb hc1) (ev_rv_of (by first | assumption | rfl) rfl rfl) (by decide) (by decide) (Nat.le_of_ble_eq_true rfl) ?_
  refine ev_astore dX11_rate_17 (Nat.le_of_ble_eq_true rfl) rfl ?_
  refine ev_aload_n (i := 3) dX11_rate_19 rfl rfl ?_
  refine ev_ifnull dX11_rate_20 ?_
  refine ev_aload dX11_rate_23 rfl ?_
  refine ev_ifnonnull (tgt := 31) dX11_rate_25 (by decide) ?_
  refine ev_aload_n (i := 0) dX11_rate_31 rfl rfl ?_
  refine ev_getf dX11_rate_32 flX11_47 (by first | assumption | rfl) (by rfl) ?_
  refine ev_iload_n (i := 1) dX11_rate_35 rfl rfl ?_
  refine ev_aload_n (i := 3) dX11_rate_36 rfl rfl ?_
  refine ev_aload dX11_rate_37 rfl ?_
  refine ev_aload_n (i := 0) dX11_rate_39 rfl rfl ?_
  refine ev_getf dX11_rate_40 flX11_19 (by first | assumption | rfl) (by rfl) ?_
  refine ev_c1 kX11_rate_43 (c11_wind hT hV) (ev_rv_of (by first | assumption | rfl) rfl rfl) (by decide) (by decide) (Nat.le_of_ble_eq_true rfl) ?_
  refine ev_c5 kX11_rate_46 (c5_rateAs_0 h40 hS (by omega) hW (by omega)) (ev_rv_of (by first | assumption | rfl) rfl rfl) (by decide) (by decide) (Nat.le_of_ble_eq_true rfl) ?_
  exact ev_reti dX11_rate_49 rfl rfl (⟨by first | rfl | simp [*], rfl⟩)
theorem c12_rate_1 {G : ev_G} {n : Nat} {M : ev_M} {g g' c0 c1 c2 : Nat} {lot : Int32} (h20 : M 21 = .inr (11, [.ref 22, .ref 25, .ref 27, .ref 35, .ref 39, .ref 40, .ref 41, .ref 63, .ref g, .ref g', .int lot])) (hG : M g = .inr (3, [.ref (g + 1), .ref (g + 2), .ref (g + 3), .int (nI c0), .int (nI c1), .int (nI c2)])) {fa : Nat → Option Nat} (hA : M (g + 1) = .inl (2, 12, ev_q fa)) (hfa : ∀ i, i < 12 → fa i = some (g + 4 + i)) {fb : Nat → Option Nat} (hB : M (g + 2) = .inl (3, 3, ev_q fb)) (hfb : ∀ i, i < 3 → fb i = some (g + 16 + i)) {j : Nat} (hj : j < c0) (hc : c0 ≤ 12) (hb : 0 < c1) (hc1 : c1 ≤ 3) {s : Nat → Int32} (hS : M (g + 4 + j) = .inr (9, [.int (s 0), .int (s 1), .int (s 2), .int (s 3), .int (s 4), .int (s 5), .int (s 6)])) {dr wi : Int32} (hW : M (g + 16 + 0) = .inr (1, [.int dr, .int wi])) {tu : Nat → Int32} (hT : M 25 = .inr (10, [.ref 26])) (hV : M 26 = .inl (0, 4, .inl tu)) {tr : Int64} (h40 : M 40 = .inr (5, [.long (tr)])) (hg : 40 < g)  : ev_Cal G mX11_rate 9 0 0 [.ref 21, .int 1, .int (nI j)] n M (ev_is (some (.int (sp_spine (sp_stiff (s 2) (s 3) (s 6)) (s 0) (s 4) + s 1))) (ev_set M 40 (.inr (5, [.long (tr + 10 + 1)])))) := by
  refine ev_Cal_of (L := [some (.ref 21), some (.int 1), some (.int (nI j)), none, none]) (by decide +kernel) (Nat.le_of_ble_eq_true rfl) rfl ?_
  refine ev_aload_n (i := 0) dX11_rate_0 rfl rfl ?_
  refine ev_getf dX11_rate_1 flX11_64 (by first | assumption | rfl) (by rfl) ?_
  refine ev_iload_n (i := 2) dX11_rate_4 rfl rfl ?_
  refine ev_c2 kX11_rate_5 (c3_stickAt_in hG hA hfa hj hc) (ev_rv_of (by first | assumption | rfl) rfl rfl) (by decide) (by decide) (Nat.le_of_ble_eq_true rfl) ?_
  refine ev_astore_n (i := 3) dX11_rate_8 rfl (Nat.le_of_ble_eq_true rfl) rfl ?_
  refine ev_aload_n (i := 0) dX11_rate_9 rfl rfl ?_
  refine ev_getf dX11_rate_10 flX11_64 (by first | assumption | rfl) (by rfl) ?_
  refine ev_iconst (v := 0) dX11_rate_13 cni_0 ?_
  refine ev_topi nI_0.symm ?_
  refine ev_c2 kX11_rate_14 (c3_bowAt_in (j := 0) hG hB hfb hb hc1) (ev_rv_of (by first | assumption | rfl) rfl rfl) (by decide) (by decide) (Nat.le_of_ble_eq_true rfl) ?_
  refine ev_astore dX11_rate_17 (Nat.le_of_ble_eq_true rfl) rfl ?_
  refine ev_aload_n (i := 3) dX11_rate_19 rfl rfl ?_
  refine ev_ifnull dX11_rate_20 ?_
  refine ev_aload dX11_rate_23 rfl ?_
  refine ev_ifnonnull (tgt := 31) dX11_rate_25 (by decide) ?_
  refine ev_aload_n (i := 0) dX11_rate_31 rfl rfl ?_
  refine ev_getf dX11_rate_32 flX11_47 (by first | assumption | rfl) (by rfl) ?_
  refine ev_iload_n (i := 1) dX11_rate_35 rfl rfl ?_
  refine ev_aload_n (i := 3) dX11_rate_36 rfl rfl ?_
  refine ev_aload dX11_rate_37 rfl ?_
  refine ev_aload_n (i := 0) dX11_rate_39 rfl rfl ?_
  refine ev_getf dX11_rate_40 flX11_19 (by first | assumption | rfl) (by rfl) ?_
  refine ev_c1 kX11_rate_43 (c11_wind hT hV) (ev_rv_of (by first | assumption | rfl) rfl rfl) (by decide) (by decide) (Nat.le_of_ble_eq_true rfl) ?_
  refine ev_c5 kX11_rate_46 (c5_rateAs_1 h40 hS (by omega) hW (by omega)) (ev_rv_of (by first | assumption | rfl) rfl rfl) (by decide) (by decide) (Nat.le_of_ble_eq_true rfl) ?_
  exact ev_reti dX11_rate_49 rfl rfl (⟨by first | rfl | simp [*], rfl⟩)
theorem c12_rate_2 {G : ev_G} {n : Nat} {M : ev_M} {g g' c0 c1 c2 : Nat} {lot : Int32} (h20 : M 21 = .inr (11, [.ref 22, .ref 25, .ref 27, .ref 35, .ref 39, .ref 40, .ref 41, .ref 63, .ref g, .ref g', .int lot])) (hG : M g = .inr (3, [.ref (g + 1), .ref (g + 2), .ref (g + 3), .int (nI c0), .int (nI c1), .int (nI c2)])) {fa : Nat → Option Nat} (hA : M (g + 1) = .inl (2, 12, ev_q fa)) (hfa : ∀ i, i < 12 → fa i = some (g + 4 + i)) {fb : Nat → Option Nat} (hB : M (g + 2) = .inl (3, 3, ev_q fb)) (hfb : ∀ i, i < 3 → fb i = some (g + 16 + i)) {j : Nat} (hj : j < c0) (hc : c0 ≤ 12) (hb : 0 < c1) (hc1 : c1 ≤ 3) {s : Nat → Int32} (hS : M (g + 4 + j) = .inr (9, [.int (s 0), .int (s 1), .int (s 2), .int (s 3), .int (s 4), .int (s 5), .int (s 6)])) {dr wi : Int32} (hW : M (g + 16 + 0) = .inr (1, [.int dr, .int wi])) {tu : Nat → Int32} (hT : M 25 = .inr (10, [.ref 26])) (hV : M 26 = .inl (0, 4, .inl tu)) {tr : Int64} (h40 : M 40 = .inr (5, [.long (tr)])) (hg : 40 < g)  : ev_Cal G mX11_rate 9 0 0 [.ref 21, .int 2, .int (nI j)] n M (ev_is (some (.int (sp_spine (sp_stiff (s 2) (s 3) (s 6)) (s 0) (s 4) - sp_drop (s 1 + s 4) dr (s 5)))) (ev_set M 40 (.inr (5, [.long (tr + 100 + 1)])))) := by
  refine ev_Cal_of (L := [some (.ref 21), some (.int 2), some (.int (nI j)), none, none]) (by decide +kernel) (Nat.le_of_ble_eq_true rfl) rfl ?_
  refine ev_aload_n (i := 0) dX11_rate_0 rfl rfl ?_
  refine ev_getf dX11_rate_1 flX11_64 (by first | assumption | rfl) (by rfl) ?_
  refine ev_iload_n (i := 2) dX11_rate_4 rfl rfl ?_
  refine ev_c2 kX11_rate_5 (c3_stickAt_in hG hA hfa hj hc) (ev_rv_of (by first | assumption | rfl) rfl rfl) (by decide) (by decide) (Nat.le_of_ble_eq_true rfl) ?_
  refine ev_astore_n (i := 3) dX11_rate_8 rfl (Nat.le_of_ble_eq_true rfl) rfl ?_
  refine ev_aload_n (i := 0) dX11_rate_9 rfl rfl ?_
  refine ev_getf dX11_rate_10 flX11_64 (by first | assumption | rfl) (by rfl) ?_
  refine ev_iconst (v := 0) dX11_rate_13 cni_0 ?_
  refine ev_topi nI_0.symm ?_
  refine ev_c2 kX11_rate_14 (c3_bowAt_in (j := 0) hG hB hfb hb hc1) (ev_rv_of (by first | assumption | rfl) rfl rfl) (by decide) (by decide) (Nat.le_of_ble_eq_true rfl) ?_
  refine ev_astore dX11_rate_17 (Nat.le_of_ble_eq_true rfl) rfl ?_
  refine ev_aload_n (i := 3) dX11_rate_19 rfl rfl ?_
  refine ev_ifnull dX11_rate_20 ?_
  refine ev_aload dX11_rate_23 rfl ?_
  refine ev_ifnonnull (tgt := 31) dX11_rate_25 (by decide) ?_
  refine ev_aload_n (i := 0) dX11_rate_31 rfl rfl ?_
  refine ev_getf dX11_rate_32 flX11_47 (by first | assumption | rfl) (by rfl) ?_
  refine ev_iload_n (i := 1) dX11_rate_35 rfl rfl ?_
  refine ev_aload_n (i := 3) dX11_rate_36 rfl rfl ?_
  refine ev_aload dX11_rate_37 rfl ?_
  refine ev_aload_n (i := 0) dX11_rate_39 rfl rfl ?_
  refine ev_getf dX11_rate_40 flX11_19 (by first | assumption | rfl) (by rfl) ?_
  refine ev_c1 kX11_rate_43 (c11_wind hT hV) (ev_rv_of (by first | assumption | rfl) rfl rfl) (by decide) (by decide) (Nat.le_of_ble_eq_true rfl) ?_
  refine ev_c5 kX11_rate_46 (c5_rateAs_2 h40 hS (by omega) hW (by omega)) (ev_rv_of (by first | assumption | rfl) rfl rfl) (by decide) (by decide) (Nat.le_of_ble_eq_true rfl) ?_
  exact ev_reti dX11_rate_49 rfl rfl (⟨by first | rfl | simp [*], rfl⟩)
theorem c12_rate_3 {G : ev_G} {n : Nat} {M : ev_M} {g g' c0 c1 c2 : Nat} {lot : Int32} (h20 : M 21 = .inr (11, [.ref 22, .ref 25, .ref 27, .ref 35, .ref 39, .ref 40, .ref 41, .ref 63, .ref g, .ref g', .int lot])) (hG : M g = .inr (3, [.ref (g + 1), .ref (g + 2), .ref (g + 3), .int (nI c0), .int (nI c1), .int (nI c2)])) {fa : Nat → Option Nat} (hA : M (g + 1) = .inl (2, 12, ev_q fa)) (hfa : ∀ i, i < 12 → fa i = some (g + 4 + i)) {fb : Nat → Option Nat} (hB : M (g + 2) = .inl (3, 3, ev_q fb)) (hfb : ∀ i, i < 3 → fb i = some (g + 16 + i)) {j : Nat} (hj : j < c0) (hc : c0 ≤ 12) (hb : 0 < c1) (hc1 : c1 ≤ 3) {s : Nat → Int32} (hS : M (g + 4 + j) = .inr (9, [.int (s 0), .int (s 1), .int (s 2), .int (s 3), .int (s 4), .int (s 5), .int (s 6)])) {dr wi : Int32} (hW : M (g + 16 + 0) = .inr (1, [.int dr, .int wi])) {tu : Nat → Int32} (hT : M 25 = .inr (10, [.ref 26])) (hV : M 26 = .inl (0, 4, .inl tu)) {tr : Int64} (h40 : M 40 = .inr (5, [.long (tr)])) (hg : 40 < g)  : ev_Cal G mX11_rate 9 0 0 [.ref 21, .int 3, .int (nI j)] n M (ev_is (some (.int (sp_spine (sp_stiff (s 2) (s 3) (s 6)) (s 0) (s 4) + s 1 + tu 3))) (ev_set M 40 (.inr (5, [.long (tr + 1000 + 10 + 1)])))) := by
  refine ev_Cal_of (L := [some (.ref 21), some (.int 3), some (.int (nI j)), none, none]) (by decide +kernel) (Nat.le_of_ble_eq_true rfl) rfl ?_
  refine ev_aload_n (i := 0) dX11_rate_0 rfl rfl ?_
  refine ev_getf dX11_rate_1 flX11_64 (by first | assumption | rfl) (by rfl) ?_
  refine ev_iload_n (i := 2) dX11_rate_4 rfl rfl ?_
  refine ev_c2 kX11_rate_5 (c3_stickAt_in hG hA hfa hj hc) (ev_rv_of (by first | assumption | rfl) rfl rfl) (by decide) (by decide) (Nat.le_of_ble_eq_true rfl) ?_
  refine ev_astore_n (i := 3) dX11_rate_8 rfl (Nat.le_of_ble_eq_true rfl) rfl ?_
  refine ev_aload_n (i := 0) dX11_rate_9 rfl rfl ?_
  refine ev_getf dX11_rate_10 flX11_64 (by first | assumption | rfl) (by rfl) ?_
  refine ev_iconst (v := 0) dX11_rate_13 cni_0 ?_
  refine ev_topi nI_0.symm ?_
  refine ev_c2 kX11_rate_14 (c3_bowAt_in (j := 0) hG hB hfb hb hc1) (ev_rv_of (by first | assumption | rfl) rfl rfl) (by decide) (by decide) (Nat.le_of_ble_eq_true rfl) ?_
  refine ev_astore dX11_rate_17 (Nat.le_of_ble_eq_true rfl) rfl ?_
  refine ev_aload_n (i := 3) dX11_rate_19 rfl rfl ?_
  refine ev_ifnull dX11_rate_20 ?_
  refine ev_aload dX11_rate_23 rfl ?_
  refine ev_ifnonnull (tgt := 31) dX11_rate_25 (by decide) ?_
  refine ev_aload_n (i := 0) dX11_rate_31 rfl rfl ?_
  refine ev_getf dX11_rate_32 flX11_47 (by first | assumption | rfl) (by rfl) ?_
  refine ev_iload_n (i := 1) dX11_rate_35 rfl rfl ?_
  refine ev_aload_n (i := 3) dX11_rate_36 rfl rfl ?_
  refine ev_aload dX11_rate_37 rfl ?_
  refine ev_aload_n (i := 0) dX11_rate_39 rfl rfl ?_
  refine ev_getf dX11_rate_40 flX11_19 (by first | assumption | rfl) (by rfl) ?_
  refine ev_c1 kX11_rate_43 (c11_wind hT hV) (ev_rv_of (by first | assumption | rfl) rfl rfl) (by decide) (by decide) (Nat.le_of_ble_eq_true rfl) ?_
  refine ev_c5 kX11_rate_46 (c5_rateAs_3 h40 hS (by omega) hW (by omega)) (ev_rv_of (by first | assumption | rfl) rfl rfl) (by decide) (by decide) (Nat.le_of_ble_eq_true rfl) ?_
  exact ev_reti dX11_rate_49 rfl rfl (⟨by first | rfl | simp [*], rfl⟩)
theorem c12_rate_4 {G : ev_G} {n : Nat} {M : ev_M} {g g' c0 c1 c2 : Nat} {lot : Int32} (h20 : M 21 = .inr (11, [.ref 22, .ref 25, .ref 27, .ref 35, .ref 39, .ref 40, .ref 41, .ref 63, .ref g, .ref g', .int lot])) (hG : M g = .inr (3, [.ref (g + 1), .ref (g + 2), .ref (g + 3), .int (nI c0), .int (nI c1), .int (nI c2)])) {fa : Nat → Option Nat} (hA : M (g + 1) = .inl (2, 12, ev_q fa)) (hfa : ∀ i, i < 12 → fa i = some (g + 4 + i)) {fb : Nat → Option Nat} (hB : M (g + 2) = .inl (3, 3, ev_q fb)) (hfb : ∀ i, i < 3 → fb i = some (g + 16 + i)) {j : Nat} (hj : j < c0) (hc : c0 ≤ 12) (hb : 0 < c1) (hc1 : c1 ≤ 3) {s : Nat → Int32} (hS : M (g + 4 + j) = .inr (9, [.int (s 0), .int (s 1), .int (s 2), .int (s 3), .int (s 4), .int (s 5), .int (s 6)])) {dr wi : Int32} (hW : M (g + 16 + 0) = .inr (1, [.int dr, .int wi])) {tu : Nat → Int32} (hT : M 25 = .inr (10, [.ref 26])) (hV : M 26 = .inl (0, 4, .inl tu)) {tr : Int64} (h40 : M 40 = .inr (5, [.long (tr)])) (hg : 40 < g)  : ev_Cal G mX11_rate 9 0 0 [.ref 21, .int 4, .int (nI j)] n M (ev_is (some (.int (2 * (sp_spine (sp_stiff (s 2) (s 3) (s 6)) (s 0) (s 4) - sp_drop (s 1 + s 4) dr (s 5))))) (ev_set M 40 (.inr (5, [.long (tr + 10000 + 100 + 1)])))) := by
  refine ev_Cal_of (L := [some (.ref 21), some (.int 4), some (.int (nI j)), none, none]) (by decide +kernel) (Nat.le_of_ble_eq_true rfl) rfl ?_
  refine ev_aload_n (i := 0) dX11_rate_0 rfl rfl ?_
  refine ev_getf dX11_rate_1 flX11_64 (by first | assumption | rfl) (by rfl) ?_
  refine ev_iload_n (i := 2) dX11_rate_4 rfl rfl ?_
  refine ev_c2 kX11_rate_5 (c3_stickAt_in hG hA hfa hj hc) (ev_rv_of (by first | assumption | rfl) rfl rfl) (by decide) (by decide) (Nat.le_of_ble_eq_true rfl) ?_
  refine ev_astore_n (i := 3) dX11_rate_8 rfl (Nat.le_of_ble_eq_true rfl) rfl ?_
  refine ev_aload_n (i := 0) dX11_rate_9 rfl rfl ?_
  refine ev_getf dX11_rate_10 flX11_64 (by first | assumption | rfl) (by rfl) ?_
  refine ev_iconst (v := 0) dX11_rate_13 cni_0 ?_
  refine ev_topi nI_0.symm ?_
  refine ev_c2 kX11_rate_14 (c3_bowAt_in (j := 0) hG hB hfb hb hc1) (ev_rv_of (by first | assumption | rfl) rfl rfl) (by decide) (by decide) (Nat.le_of_ble_eq_true rfl) ?_
  refine ev_astore dX11_rate_17 (Nat.le_of_ble_eq_true rfl) rfl ?_
  refine ev_aload_n (i := 3) dX11_rate_19 rfl rfl ?_
  refine ev_ifnull dX11_rate_20 ?_
  refine ev_aload dX11_rate_23 rfl ?_
  refine ev_ifnonnull (tgt := 31) dX11_rate_25 (by decide) ?_
  refine ev_aload_n (i := 0) dX11_rate_31 rfl rfl ?_
  refine ev_getf dX11_rate_32 flX11_47 (by first | assumption | rfl) (by rfl) ?_
  refine ev_iload_n (i := 1) dX11_rate_35 rfl rfl ?_
  refine ev_aload_n (i := 3) dX11_rate_36 rfl rfl ?_
  refine ev_aload dX11_rate_37 rfl ?_
  refine ev_aload_n (i := 0) dX11_rate_39 rfl rfl ?_
  refine ev_getf dX11_rate_40 flX11_19 (by first | assumption | rfl) (by rfl) ?_
  refine ev_c1 kX11_rate_43 (c11_wind hT hV) (ev_rv_of (by first | assumption | rfl) rfl rfl) (by decide) (by decide) (Nat.le_of_ble_eq_true rfl) ?_
  refine ev_c5 kX11_rate_46 (c5_rateAs_4 h40 hS (by omega) hW (by omega)) (ev_rv_of (by first | assumption | rfl) rfl rfl) (by decide) (by decide) (Nat.le_of_ble_eq_true rfl) ?_
  exact ev_reti dX11_rate_49 rfl rfl (⟨by first | rfl | simp [*], rfl⟩)
theorem c12_rate_5 {G : ev_G} {n : Nat} {M : ev_M} {g g' c0 c1 c2 : Nat} {lot : Int32} (h20 : M 21 = .inr (11, [.ref 22, .ref 25, .ref 27, .ref 35, .ref 39, .ref 40, .ref 41, .ref 63, .ref g, .ref g', .int lot])) (hG : M g = .inr (3, [.ref (g + 1), .ref (g + 2), .ref (g + 3), .int (nI c0), .int (nI c1), .int (nI c2)])) {fa : Nat → Option Nat} (hA : M (g + 1) = .inl (2, 12, ev_q fa)) (hfa : ∀ i, i < 12 → fa i = some (g + 4 + i)) {fb : Nat → Option Nat} (hB : M (g + 2) = .inl (3, 3, ev_q fb)) (hfb : ∀ i, i < 3 → fb i = some (g + 16 + i)) {j : Nat} (hj : j < c0) (hc : c0 ≤ 12) (hb : 0 < c1) (hc1 : c1 ≤ 3) {s : Nat → Int32} (hS : M (g + 4 + j) = .inr (9, [.int (s 0), .int (s 1), .int (s 2), .int (s 3), .int (s 4), .int (s 5), .int (s 6)])) {dr wi : Int32} (hW : M (g + 16 + 0) = .inr (1, [.int dr, .int wi])) {tu : Nat → Int32} (hT : M 25 = .inr (10, [.ref 26])) (hV : M 26 = .inl (0, 4, .inl tu)) {tr : Int64} (h40 : M 40 = .inr (5, [.long (tr)])) (hg : 40 < g)  : ev_Cal G mX11_rate 9 0 0 [.ref 21, .int 5, .int (nI j)] n M (ev_is (some (.int (sp_spine (sp_stiff (s 2) (s 3) (s 6)) (s 0) (s 4) + s 4))) (ev_set M 40 (.inr (5, [.long (tr + 100000 + 1)])))) := by
  refine ev_Cal_of (L := [some (.ref 21), some (.int 5), some (.int (nI j)), none, none]) (by decide +kernel) (Nat.le_of_ble_eq_true rfl) rfl ?_
  refine ev_aload_n (i := 0) dX11_rate_0 rfl rfl ?_
  refine ev_getf dX11_rate_1 flX11_64 (by first | assumption | rfl) (by rfl) ?_
  refine ev_iload_n (i := 2) dX11_rate_4 rfl rfl ?_
  refine ev_c2 kX11_rate_5 (c3_stickAt_in hG hA hfa hj hc) (ev_rv_of (by first | assumption | rfl) rfl rfl) (by decide) (by decide) (Nat.le_of_ble_eq_true rfl) ?_
  refine ev_astore_n (i := 3) dX11_rate_8 rfl (Nat.le_of_ble_eq_true rfl) rfl ?_
  refine ev_aload_n (i := 0) dX11_rate_9 rfl rfl ?_
  refine ev_getf dX11_rate_10 flX11_64 (by first | assumption | rfl) (by rfl) ?_
  refine ev_iconst (v := 0) dX11_rate_13 cni_0 ?_
  refine ev_topi nI_0.symm ?_
  refine ev_c2 kX11_rate_14 (c3_bowAt_in (j := 0) hG hB hfb hb hc1) (ev_rv_of (by first | assumption | rfl) rfl rfl) (by decide) (by decide) (Nat.le_of_ble_eq_true rfl) ?_
  refine ev_astore dX11_rate_17 (Nat.le_of_ble_eq_true rfl) rfl ?_
  refine ev_aload_n (i := 3) dX11_rate_19 rfl rfl ?_
  refine ev_ifnull dX11_rate_20 ?_
  refine ev_aload dX11_rate_23 rfl ?_
  refine ev_ifnonnull (tgt := 31) dX11_rate_25 (by decide) ?_
  refine ev_aload_n (i := 0) dX11_rate_31 rfl rfl ?_
  refine ev_getf dX11_rate_32 flX11_47 (by first | assumption | rfl) (by rfl) ?_
  refine ev_iload_n (i := 1) dX11_rate_35 rfl rfl ?_
  refine ev_aload_n (i := 3) dX11_rate_36 rfl rfl ?_
  refine ev_aload dX11_rate_37 rfl ?_
  refine ev_aload_n (i := 0) dX11_rate_39 rfl rfl ?_
  refine ev_getf dX11_rate_40 flX11_19 (by first | assumption | rfl) (by rfl) ?_
  refine ev_c1 kX11_rate_43 (c11_wind hT hV) (ev_rv_of (by first | assumption | rfl) rfl rfl) (by decide) (by decide) (Nat.le_of_ble_eq_true rfl) ?_
  refine ev_c5 kX11_rate_46 (c5_rateAs_5 h40 hS (by omega) hW (by omega)) (ev_rv_of (by first | assumption | rfl) rfl rfl) (by decide) (by decide) (Nat.le_of_ble_eq_true rfl) ?_
  exact ev_reti dX11_rate_49 rfl rfl (⟨by first | rfl | simp [*], rfl⟩)
theorem c12_rate_w {G : ev_G} {n : Nat} {M : ev_M} {g g' c0 c1 c2 : Nat} {lot : Int32} (h20 : M 21 = .inr (11, [.ref 22, .ref 25, .ref 27, .ref 35, .ref 39, .ref 40, .ref 41, .ref 63, .ref g, .ref g', .int lot])) (hG : M g = .inr (3, [.ref (g + 1), .ref (g + 2), .ref (g + 3), .int (nI c0), .int (nI c1), .int (nI c2)])) {fa : Nat → Option Nat} (hA : M (g + 1) = .inl (2, 12, ev_q fa)) (hfa : ∀ i, i < 12 → fa i = some (g + 4 + i)) {fb : Nat → Option Nat} (hB : M (g + 2) = .inl (3, 3, ev_q fb)) (hfb : ∀ i, i < 3 → fb i = some (g + 16 + i)) {j : Nat} (hj : j < c0) (hc : c0 ≤ 12) (hb : 0 < c1) (hc1 : c1 ≤ 3) {s : Nat → Int32} (hS : M (g + 4 + j) = .inr (9, [.int (s 0), .int (s 1), .int (s 2), .int (s 3), .int (s 4), .int (s 5), .int (s 6)])) {dr wi : Int32} (hW : M (g + 16 + 0) = .inr (1, [.int dr, .int wi])) {tu : Nat → Int32} (hT : M 25 = .inr (10, [.ref 26])) (hV : M 26 = .inl (0, 4, .inl tu)) {tr : Int64} (h40 : M 40 = .inr (5, [.long (tr)])) (hg : 40 < g) {w : Int32} (hw : w.toInt < 0 ∨ 5 < w.toInt) : ev_Cal G mX11_rate 9 0 0 [.ref 21, .int w, .int (nI j)] n M (ev_is (some (.int (-1000000))) M) := by
  refine ev_Cal_of (L := [some (.ref 21), some (.int w), some (.int (nI j)), none, none]) (by decide +kernel) (Nat.le_of_ble_eq_true rfl) rfl ?_
  refine ev_aload_n (i := 0) dX11_rate_0 rfl rfl ?_
  refine ev_getf dX11_rate_1 flX11_64 (by first | assumption | rfl) (by rfl) ?_
  refine ev_iload_n (i := 2) dX11_rate_4 rfl rfl ?_
  refine ev_c2 kX11_rate_5 (c3_stickAt_in hG hA hfa hj hc) (ev_rv_of (by first | assumption | rfl) rfl rfl) (by decide) (by decide) (Nat.le_of_ble_eq_true rfl) ?_
  refine ev_astore_n (i := 3) dX11_rate_8 rfl (Nat.le_of_ble_eq_true rfl) rfl ?_
  refine ev_aload_n (i := 0) dX11_rate_9 rfl rfl ?_
  refine ev_getf dX11_rate_10 flX11_64 (by first | assumption | rfl) (by rfl) ?_
  refine ev_iconst (v := 0) dX11_rate_13 cni_0 ?_
  refine ev_topi nI_0.symm ?_
  refine ev_c2 kX11_rate_14 (c3_bowAt_in (j := 0) hG hB hfb hb hc1) (ev_rv_of (by first | assumption | rfl) rfl rfl) (by decide) (by decide) (Nat.le_of_ble_eq_true rfl) ?_
  refine ev_astore dX11_rate_17 (Nat.le_of_ble_eq_true rfl) rfl ?_
  refine ev_aload_n (i := 3) dX11_rate_19 rfl rfl ?_
  refine ev_ifnull dX11_rate_20 ?_
  refine ev_aload dX11_rate_23 rfl ?_
  refine ev_ifnonnull (tgt := 31) dX11_rate_25 (by decide) ?_
  refine ev_aload_n (i := 0) dX11_rate_31 rfl rfl ?_
  refine ev_getf dX11_rate_32 flX11_47 (by first | assumption | rfl) (by rfl) ?_
  refine ev_iload_n (i := 1) dX11_rate_35 rfl rfl ?_
  refine ev_aload_n (i := 3) dX11_rate_36 rfl rfl ?_
  refine ev_aload dX11_rate_37 rfl ?_
  refine ev_aload_n (i := 0) dX11_rate_39 rfl rfl ?_
  refine ev_getf dX11_rate_40 flX11_19 (by first | assumption | rfl) (by rfl) ?_
  refine ev_c1 kX11_rate_43 (c11_wind hT hV) (ev_rv_of (by first | assumption | rfl) rfl rfl) (by decide) (by decide) (Nat.le_of_ble_eq_true rfl) ?_
  refine ev_c5 kX11_rate_46 (c5_rateAs_w hw) (ev_rv_of (by first | assumption | rfl) rfl rfl) (by decide) (by decide) (Nat.le_of_ble_eq_true rfl) ?_
  exact ev_reti dX11_rate_49 rfl rfl (⟨by first | rfl | simp [*], rfl⟩)
theorem c12_rate_i {G : ev_G} {n : Nat} {M : ev_M} {g g' c0 c1 c2 : Nat} {lot : Int32} (h20 : M 21 = .inr (11, [.ref 22, .ref 25, .ref 27, .ref 35, .ref 39, .ref 40, .ref 41, .ref 63, .ref g, .ref g', .int lot])) (hG : M g = .inr (3, [.ref (g + 1), .ref (g + 2), .ref (g + 3), .int (nI c0), .int (nI c1), .int (nI c2)])) {fa : Nat → Option Nat} (hA : M (g + 1) = .inl (2, 12, ev_q fa)) (hfa : ∀ i, i < 12 → fa i = some (g + 4 + i)) {fb : Nat → Option Nat} (hB : M (g + 2) = .inl (3, 3, ev_q fb)) (hfb : ∀ i, i < 3 → fb i = some (g + 16 + i)) (hc : c0 ≤ 12) (hc1 : c1 ≤ 3) {w x : Int32} (hx : x < 0 ∨ nI c0 ≤ x) : ev_Cal G mX11_rate 9 0 0 [.ref 21, .int w, .int x] n M (ev_is (some (.int (-1000000))) M) := by
  refine ev_Cal_of (L := [some (.ref 21), some (.int w), some (.int x), none, none]) (by decide +kernel) (Nat.le_of_ble_eq_true rfl) rfl ?_
  obtain ⟨vb, hvb, hcb⟩ := c3_bowAt_any (G := G) (n := n) hG hB hfb hc1 0
  rcases hvb with rfl | ⟨ab, rfl⟩
  · skip
    refine ev_aload_n (i := 0) dX11_rate_0 rfl rfl ?_
    refine ev_getf dX11_rate_1 flX11_64 (by first | assumption | rfl) (by rfl) ?_
    refine ev_iload_n (i := 2) dX11_rate_4 rfl rfl ?_
    refine ev_c2 kX11_rate_5 (c3_stickAt_out hG hx) (ev_rv_of (by first | assumption | rfl) rfl rfl) (by decide) (by decide) (Nat.le_of_ble_eq_true rfl) ?_
    refine ev_astore_nN (i := 3) dX11_rate_8 rfl (Nat.le_of_ble_eq_true rfl) rfl ?_
    refine ev_aload_n (i := 0) dX11_rate_9 rfl rfl ?_
    refine ev_getf dX11_rate_10 flX11_64 (by first | assumption | rfl) (by rfl) ?_
    refine ev_iconst (v := 0) dX11_rate_13 cni_0 ?_
    refine ev_c2 kX11_rate_14 (hcb) (ev_rv_of (by first | assumption | rfl) rfl rfl) (by decide) (by decide) (Nat.le_of_ble_eq_true rfl) ?_
    refine ev_astoreN dX11_rate_17 (Nat.le_of_ble_eq_true rfl) rfl ?_
    refine ev_aload_nN (i := 3) dX11_rate_19 rfl rfl ?_
    refine ev_ifnullN (tgt := 28) dX11_rate_20 (by decide) ?_
    refine ev_ldc dX11_rate_28 coX11_145 ?_
    exact ev_reti dX11_rate_30 rfl rfl (⟨by first | rfl | simp [*], rfl⟩)
  · skip
    refine ev_aload_n (i := 0) dX11_rate_0 rfl rfl ?_
    refine ev_getf dX11_rate_1 flX11_64 (by first | assumption | rfl) (by rfl) ?_
    refine ev_iload_n (i := 2) dX11_rate_4 rfl rfl ?_
    refine ev_c2 kX11_rate_5 (c3_stickAt_out hG hx) (ev_rv_of (by first | assumption | rfl) rfl rfl) (by decide) (by decide) (Nat.le_of_ble_eq_true rfl) ?_
    refine ev_astore_nN (i := 3) dX11_rate_8 rfl (Nat.le_of_ble_eq_true rfl) rfl ?_
    refine ev_aload_n (i := 0) dX11_rate_9 rfl rfl ?_
    refine ev_getf dX11_rate_10 flX11_64 (by first | assumption | rfl) (by rfl) ?_
    refine ev_iconst (v := 0) dX11_rate_13 cni_0 ?_
    refine ev_c2 kX11_rate_14 (hcb) (ev_rv_of (by first | assumption | rfl) rfl rfl) (by decide) (by decide) (Nat.le_of_ble_eq_true rfl) ?_
    refine ev_astore dX11_rate_17 (Nat.le_of_ble_eq_true rfl) rfl ?_
    refine ev_aload_nN (i := 3) dX11_rate_19 rfl rfl ?_
    refine ev_ifnullN (tgt := 28) dX11_rate_20 (by decide) ?_
    refine ev_ldc dX11_rate_28 coX11_145 ?_
    exact ev_reti dX11_rate_30 rfl rfl (⟨by first | rfl | simp [*], rfl⟩)
theorem c12_rate_b {G : ev_G} {n : Nat} {M : ev_M} {g g' c0 c1 c2 : Nat} {lot : Int32} (h20 : M 21 = .inr (11, [.ref 22, .ref 25, .ref 27, .ref 35, .ref 39, .ref 40, .ref 41, .ref 63, .ref g, .ref g', .int lot])) (hG : M g = .inr (3, [.ref (g + 1), .ref (g + 2), .ref (g + 3), .int (nI c0), .int (nI c1), .int (nI c2)])) {fa : Nat → Option Nat} (hA : M (g + 1) = .inl (2, 12, ev_q fa)) (hfa : ∀ i, i < 12 → fa i = some (g + 4 + i)) {j : Nat} (hj : j < c0) (hc : c0 ≤ 12) {w : Int32} (h0 : c1 = 0) : ev_Cal G mX11_rate 9 0 0 [.ref 21, .int w, .int (nI j)] n M (ev_is (some (.int (-1000000))) M) := by
  refine ev_Cal_of (L := [some (.ref 21), some (.int w), some (.int (nI j)), none, none]) (by decide +kernel) (Nat.le_of_ble_eq_true rfl) rfl ?_
  refine ev_aload_n (i := 0) dX11_rate_0 rfl rfl ?_
  refine ev_getf dX11_rate_1 flX11_64 (by first | assumption | rfl) (by rfl) ?_
  refine ev_iload_n (i := 2) dX11_rate_4 rfl rfl ?_
  refine ev_c2 kX11_rate_5 (c3_stickAt_in hG hA hfa hj hc) (ev_rv_of (by first | assumption | rfl) rfl rfl) (by decide) (by decide) (Nat.le_of_ble_eq_true rfl) ?_
  refine ev_astore_n (i := 3) dX11_rate_8 rfl (Nat.le_of_ble_eq_true rfl) rfl ?_
  refine ev_aload_n (i := 0) dX11_rate_9 rfl rfl ?_
  refine ev_getf dX11_rate_10 flX11_64 (by first | assumption | rfl) (by rfl) ?_
  refine ev_iconst (v := 0) dX11_rate_13 cni_0 ?_
  refine ev_c2 kX11_rate_14 (c3_bowAt_out hG (Or.inr (by rw [h0]; decide))) (ev_rv_of (by first | assumption | rfl) rfl rfl) (by decide) (by decide) (Nat.le_of_ble_eq_true rfl) ?_
  refine ev_astoreN dX11_rate_17 (Nat.le_of_ble_eq_true rfl) rfl ?_
  refine ev_aload_n (i := 3) dX11_rate_19 rfl rfl ?_
  refine ev_ifnull dX11_rate_20 ?_
  refine ev_aloadN dX11_rate_23 rfl ?_
  refine ev_ifnonnullN dX11_rate_25 ?_
  refine ev_ldc dX11_rate_28 coX11_145 ?_
  exact ev_reti dX11_rate_30 rfl rfl (⟨by first | rfl | simp [*], rfl⟩)
theorem c8_empty {G : ev_G} {n : Nat} {M : ev_M} {up dn : Int64} {f0 f1 f2 f3 f4 f5 f6 : Nat → Int32} {sz : Nat} (hz : M (27) = .inr (8, [.ref (27 + 1), .ref (27 + 2), .ref (27 + 3), .ref (27 + 4), .ref (27 + 5), .ref (27 + 6), .ref (27 + 7), .long up, .long dn, .int (nI sz)])) (z0 : M (27 + 1) = .inl (0, 60, .inl f0)) (z1 : M (27 + 2) = .inl (0, 60, .inl f1)) (z2 : M (27 + 3) = .inl (0, 60, .inl f2)) (z3 : M (27 + 4) = .inl (0, 60, .inl f3)) (z4 : M (27 + 5) = .inl (0, 60, .inl f4)) (z5 : M (27 + 6) = .inl (0, 12, .inl f5)) (z6 : M (27 + 7) = .inl (0, 12, .inl f6))  : ev_Cal G mX8_empty 1 0 0 [.ref 27] n M (ev_is (some (.int (nI sz))) (ev_set M 27 (.inr (8, [.ref (27 + 1), .ref (27 + 2), .ref (27 + 3), .ref (27 + 4), .ref (27 + 5), .ref (27 + 6), .ref (27 + 7), .long up, .long dn, .int (0)])))) := by
  refine ev_Cal_of (L := [some (.ref 27), none]) (by decide +kernel) (Nat.le_of_ble_eq_true rfl) rfl ?_
  refine ev_aload_n (i := 0) dX8_empty_0 rfl rfl ?_
  refine ev_getf dX8_empty_1 flX8_33 (by first | assumption | rfl) (by rfl) ?_
  refine ev_istore_n (i := 1) dX8_empty_4 rfl (Nat.le_of_ble_eq_true rfl) rfl ?_
  refine ev_aload_n (i := 0) dX8_empty_5 rfl rfl ?_
  refine ev_iconst (v := 0) dX8_empty_6 cni_0 ?_
  refine ev_puti dX8_empty_7 fpX8_33 (by first | assumption | rfl) (by exact Nat.le_of_ble_eq_true rfl) ?_
  refine ev_iload_n (i := 1) dX8_empty_10 rfl rfl ?_
  exact ev_reti dX8_empty_11 rfl rfl (⟨by first | rfl | simp [*], rfl⟩)
theorem c8_add {G : ev_G} {n : Nat} {M : ev_M} {up dn : Int64} {f0 f1 f2 f3 f4 f5 f6 : Nat → Int32} {sz : Nat} (hz : M (27) = .inr (8, [.ref (27 + 1), .ref (27 + 2), .ref (27 + 3), .ref (27 + 4), .ref (27 + 5), .ref (27 + 6), .ref (27 + 7), .long up, .long dn, .int (nI sz)])) (z0 : M (27 + 1) = .inl (0, 60, .inl f0)) (z1 : M (27 + 2) = .inl (0, 60, .inl f1)) (z2 : M (27 + 3) = .inl (0, 60, .inl f2)) (z3 : M (27 + 4) = .inl (0, 60, .inl f3)) (z4 : M (27 + 5) = .inl (0, 60, .inl f4)) (z5 : M (27 + 6) = .inl (0, 12, .inl f5)) (z6 : M (27 + 7) = .inl (0, 12, .inl f6)) {st bo ac x y : Int32} (hsz : sz < 60) : ev_Cal G mX8_add 1 0 0 [.ref 27, .int st, .int bo, .int ac, .int x, .int y] n M (ev_is none (ev_ml M [(27, .inr (8, [.ref (27 + 1), .ref (27 + 2), .ref (27 + 3), .ref (27 + 4), .ref (27 + 5), .ref (27 + 6), .ref (27 + 7), .long up, .long dn, .int (nI (sz + 1))])), (27 + 1, .inl (0, 60, .inl (upd f0 sz st))), (27 + 2, .inl (0, 60, .inl (upd f1 sz bo))), (27 + 3, .inl (0, 60, .inl (upd f2 sz ac))), (27 + 4, .inl (0, 60, .inl (upd f3 sz x))), (27 + 5, .inl (0, 60, .inl (upd f4 sz y)))])) := by
  refine ev_Cal_of (L := [some (.ref 27), some (.int st), some (.int bo), some (.int ac), some (.int x), some (.int y)]) (by decide +kernel) (Nat.le_of_ble_eq_true rfl) rfl ?_
  refine ev_track (l := [(27, .inr (8, [.ref (27 + 1), .ref (27 + 2), .ref (27 + 3), .ref (27 + 4), .ref (27 + 5), .ref (27 + 6), .ref (27 + 7), .long up, .long dn, .int (nI sz)])), (27 + 1, .inl (0, 60, .inl f0)), (27 + 2, .inl (0, 60, .inl f1)), (27 + 3, .inl (0, 60, .inl f2)), (27 + 4, .inl (0, 60, .inl f3)), (27 + 5, .inl (0, 60, .inl f4))]) (ev_fa1 hz (ev_fa1 z0 (ev_fa1 z1 (ev_fa1 z2 (ev_fa1 z3 (ev_fa1 z4 ev_fa0)))))) ?_
  refine ev_aload_n (i := 0) dX8_add_0 rfl rfl ?_
  refine ev_getf dX8_add_1 flX8_33 (by rfl) (by rfl) ?_
  refine ev_bipush (v := 60) dX8_add_4 cnb_60 ?_
  refine ev_icmp_lt (tgt := 10) dX8_add_6 (by decide) (fun h6 => ?_) (fun h6 => False.elim (nI_ge (a := sz) (b := 60) hsz (by decide) h6))
  refine ev_aload_n (i := 0) dX8_add_10 rfl rfl ?_
  refine ev_getf dX8_add_11 flX8_9 (by rfl) (by rfl) ?_
  refine ev_aload_n (i := 0) dX8_add_14 rfl rfl ?_
  refine ev_getf dX8_add_15 flX8_33 (by rfl) (by rfl) ?_
  refine ev_iload_n (i := 1) dX8_add_18 rfl rfl ?_
  refine ev_iastP 1 (j := sz) dX8_add_19 (by rfl) (by rfl) (ev_ix_nI (by omega)) (hsz) (by rfl) (by rfl) ?_
  refine ev_aload_n (i := 0) dX8_add_20 rfl rfl ?_
  refine ev_getf dX8_add_21 flX8_15 (by rfl) (by rfl) ?_
  refine ev_aload_n (i := 0) dX8_add_24 rfl rfl ?_
  refine ev_getf dX8_add_25 flX8_33 (by rfl) (by rfl) ?_
  refine ev_iload_n (i := 2) dX8_add_28 rfl rfl ?_
  refine ev_iastP 2 (j := sz) dX8_add_29 (by rfl) (by rfl) (ev_ix_nI (by omega)) (hsz) (by rfl) (by rfl) ?_
  refine ev_aload_n (i := 0) dX8_add_30 rfl rfl ?_
  refine ev_getf dX8_add_31 flX8_18 (by rfl) (by rfl) ?_
  refine ev_aload_n (i := 0) dX8_add_34 rfl rfl ?_
  refine ev_getf dX8_add_35 flX8_33 (by rfl) (by rfl) ?_
  refine ev_iload_n (i := 3) dX8_add_38 rfl rfl ?_
  refine ev_iastP 3 (j := sz) dX8_add_39 (by rfl) (by rfl) (ev_ix_nI (by omega)) (hsz) (by rfl) (by rfl) ?_
  refine ev_aload_n (i := 0) dX8_add_40 rfl rfl ?_
  refine ev_getf dX8_add_41 flX8_21 (by rfl) (by rfl) ?_
  refine ev_aload_n (i := 0) dX8_add_44 rfl rfl ?_
  refine ev_getf dX8_add_45 flX8_33 (by rfl) (by rfl) ?_
  refine ev_iload dX8_add_48 rfl ?_
  refine ev_iastP 4 (j := sz) dX8_add_50 (by rfl) (by rfl) (ev_ix_nI (by omega)) (hsz) (by rfl) (by rfl) ?_
  refine ev_aload_n (i := 0) dX8_add_51 rfl rfl ?_
  refine ev_getf dX8_add_52 flX8_24 (by rfl) (by rfl) ?_
  refine ev_aload_n (i := 0) dX8_add_55 rfl rfl ?_
  refine ev_getf dX8_add_56 flX8_33 (by rfl) (by rfl) ?_
  refine ev_iload dX8_add_59 rfl ?_
  refine ev_iastP 5 (j := sz) dX8_add_61 (by rfl) (by rfl) (ev_ix_nI (by omega)) (hsz) (by rfl) (by rfl) ?_
  refine ev_aload_n (i := 0) dX8_add_62 rfl rfl ?_
  refine ev_dup dX8_add_63 rfl ?_
  refine ev_getf dX8_add_64 flX8_33 (by rfl) (by rfl) ?_
  refine ev_iconst (v := 1) dX8_add_67 cni_1 ?_
  refine ev_iadd dX8_add_68 ?_
  refine ev_topi (nI_1 sz) ?_
  refine ev_putiP 0 dX8_add_69 fpX8_33 (by rfl) (by rfl) (Nat.le_of_ble_eq_true rfl) (by rfl) (by rfl) ?_
  exact ev_retv dX8_add_72 rfl (⟨rfl, rfl⟩)
theorem c8_tell_0 {G : ev_G} {n : Nat} {M : ev_M} {up dn : Int64} {f0 f1 f2 f3 f4 f5 f6 : Nat → Int32} {sz : Nat} (hz : M (27) = .inr (8, [.ref (27 + 1), .ref (27 + 2), .ref (27 + 3), .ref (27 + 4), .ref (27 + 5), .ref (27 + 6), .ref (27 + 7), .long up, .long dn, .int (nI sz)])) (z0 : M (27 + 1) = .inl (0, 60, .inl f0)) (z1 : M (27 + 2) = .inl (0, 60, .inl f1)) (z2 : M (27 + 3) = .inl (0, 60, .inl f2)) (z3 : M (27 + 4) = .inl (0, 60, .inl f3)) (z4 : M (27 + 5) = .inl (0, 60, .inl f4)) (z5 : M (27 + 6) = .inl (0, 12, .inl f5)) (z6 : M (27 + 7) = .inl (0, 12, .inl f6)) {j : Nat} (hj : j < sz) (hsz : sz ≤ 60)  : ev_Cal G mX8_tell 1 0 0 [.ref 27, .int (nI j), .int 0] n M (ev_is (some (.int (f0 j))) M) := by
  refine ev_Cal_of (L := [some (.ref 27), some (.int (nI j)), some (.int 0)]) (by decide +kernel) (Nat.le_of_ble_eq_true rfl) rfl ?_
  refine ev_iload_n (i := 1) dX8_tell_0 rfl rfl ?_
  refine ev_if_lt (tgt := 12) dX8_tell_1 (by decide) (fun h1 => False.elim (nI_pos (by omega) h1)) (fun h1 => ?_)
  refine ev_iload_n (i := 1) dX8_tell_4 rfl rfl ?_
  refine ev_aload_n (i := 0) dX8_tell_5 rfl rfl ?_
  refine ev_getf dX8_tell_6 flX8_33 (by first | assumption | rfl) (by rfl) ?_
  refine ev_icmp_lt (tgt := 15) dX8_tell_9 (by decide) (fun h9 => ?_) (fun h9 => False.elim (nI_ge hj (by omega) h9))
  refine ev_iload_n (i := 2) dX8_tell_15 rfl rfl ?_
  refine ev_tsin (off := 36) (tgt := 52) dX8_tell_16 (by decide) (by decide) (by rfl) (by decide) ?_
  refine ev_aload_n (i := 0) dX8_tell_52 rfl rfl ?_
  refine ev_getf dX8_tell_53 flX8_9 (by first | assumption | rfl) (by rfl) ?_
  refine ev_iload_n (i := 1) dX8_tell_56 rfl rfl ?_
  refine ev_iald (j := j) dX8_tell_57 (by first | assumption | rfl) (ev_ix_nI (by omega)) (by omega) ?_
  exact ev_reti dX8_tell_58 rfl rfl (⟨by first | rfl | simp [*], rfl⟩)
theorem c8_tell_1 {G : ev_G} {n : Nat} {M : ev_M} {up dn : Int64} {f0 f1 f2 f3 f4 f5 f6 : Nat → Int32} {sz : Nat} (hz : M (27) = .inr (8, [.ref (27 + 1), .ref (27 + 2), .ref (27 + 3), .ref (27 + 4), .ref (27 + 5), .ref (27 + 6), .ref (27 + 7), .long up, .long dn, .int (nI sz)])) (z0 : M (27 + 1) = .inl (0, 60, .inl f0)) (z1 : M (27 + 2) = .inl (0, 60, .inl f1)) (z2 : M (27 + 3) = .inl (0, 60, .inl f2)) (z3 : M (27 + 4) = .inl (0, 60, .inl f3)) (z4 : M (27 + 5) = .inl (0, 60, .inl f4)) (z5 : M (27 + 6) = .inl (0, 12, .inl f5)) (z6 : M (27 + 7) = .inl (0, 12, .inl f6)) {j : Nat} (hj : j < sz) (hsz : sz ≤ 60)  : ev_Cal G mX8_tell 1 0 0 [.ref 27, .int (nI j), .int 1] n M (ev_is (some (.int (f1 j))) M) := by
  refine ev_Cal_of (L := [some (.ref 27), some (.int (nI j)), some (.int 1)]) (by decide +kernel) (Nat.le_of_ble_eq_true rfl) rfl ?_
  refine ev_iload_n (i := 1) dX8_tell_0 rfl rfl ?_
  refine ev_if_lt (tgt := 12) dX8_tell_1 (by decide) (fun h1 => False.elim (nI_pos (by omega) h1)) (fun h1 => ?_)
  refine ev_iload_n (i := 1) dX8_tell_4 rfl rfl ?_
  refine ev_aload_n (i := 0) dX8_tell_5 rfl rfl ?_
  refine ev_getf dX8_tell_6 flX8_33 (by first | assumption | rfl) (by rfl) ?_
  refine ev_icmp_lt (tgt := 15) dX8_tell_9 (by decide) (fun h9 => ?_) (fun h9 => False.elim (nI_ge hj (by omega) h9))
  refine ev_iload_n (i := 2) dX8_tell_15 rfl rfl ?_
  refine ev_tsin (off := 43) (tgt := 59) dX8_tell_16 (by decide) (by decide) (by rfl) (by decide) ?_
  refine ev_aload_n (i := 0) dX8_tell_59 rfl rfl ?_
  refine ev_getf dX8_tell_60 flX8_15 (by first | assumption | rfl) (by rfl) ?_
  refine ev_iload_n (i := 1) dX8_tell_63 rfl rfl ?_
  refine ev_iald (j := j) dX8_tell_64 (by first | assumption | rfl) (ev_ix_nI (by omega)) (by omega) ?_
  exact ev_reti dX8_tell_65 rfl rfl (⟨by first | rfl | simp [*], rfl⟩)
theorem c8_tell_2 {G : ev_G} {n : Nat} {M : ev_M} {up dn : Int64} {f0 f1 f2 f3 f4 f5 f6 : Nat → Int32} {sz : Nat} (hz : M (27) = .inr (8, [.ref (27 + 1), .ref (27 + 2), .ref (27 + 3), .ref (27 + 4), .ref (27 + 5), .ref (27 + 6), .ref (27 + 7), .long up, .long dn, .int (nI sz)])) (z0 : M (27 + 1) = .inl (0, 60, .inl f0)) (z1 : M (27 + 2) = .inl (0, 60, .inl f1)) (z2 : M (27 + 3) = .inl (0, 60, .inl f2)) (z3 : M (27 + 4) = .inl (0, 60, .inl f3)) (z4 : M (27 + 5) = .inl (0, 60, .inl f4)) (z5 : M (27 + 6) = .inl (0, 12, .inl f5)) (z6 : M (27 + 7) = .inl (0, 12, .inl f6)) {j : Nat} (hj : j < sz) (hsz : sz ≤ 60)  : ev_Cal G mX8_tell 1 0 0 [.ref 27, .int (nI j), .int 2] n M (ev_is (some (.int (f2 j))) M) := by
  refine ev_Cal_of (L := [some (.ref 27), some (.int (nI j)), some (.int 2)]) (by decide +kernel) (Nat.le_of_ble_eq_true rfl) rfl ?_
  refine ev_iload_n (i := 1) dX8_tell_0 rfl rfl ?_
  refine ev_if_lt (tgt := 12) dX8_tell_1 (by decide) (fun h1 => False.elim (nI_pos (by omega) h1)) (fun h1 => ?_)
  refine ev_iload_n (i := 1) dX8_tell_4 rfl rfl ?_
  refine ev_aload_n (i := 0) dX8_tell_5 rfl rfl ?_
  refine ev_getf dX8_tell_6 flX8_33 (by first | assumption | rfl) (by rfl) ?_
  refine ev_icmp_lt (tgt := 15) dX8_tell_9 (by decide) (fun h9 => ?_) (fun h9 => False.elim (nI_ge hj (by omega) h9))
  refine ev_iload_n (i := 2) dX8_tell_15 rfl rfl ?_
  refine ev_tsin (off := 50) (tgt := 66) dX8_tell_16 (by decide) (by decide) (by rfl) (by decide) ?_
  refine ev_aload_n (i := 0) dX8_tell_66 rfl rfl ?_
  refine ev_getf dX8_tell_67 flX8_18 (by first | assumption | rfl) (by rfl) ?_
  refine ev_iload_n (i := 1) dX8_tell_70 rfl rfl ?_
  refine ev_iald (j := j) dX8_tell_71 (by first | assumption | rfl) (ev_ix_nI (by omega)) (by omega) ?_
  exact ev_reti dX8_tell_72 rfl rfl (⟨by first | rfl | simp [*], rfl⟩)
theorem c8_tell_3 {G : ev_G} {n : Nat} {M : ev_M} {up dn : Int64} {f0 f1 f2 f3 f4 f5 f6 : Nat → Int32} {sz : Nat} (hz : M (27) = .inr (8, [.ref (27 + 1), .ref (27 + 2), .ref (27 + 3), .ref (27 + 4), .ref (27 + 5), .ref (27 + 6), .ref (27 + 7), .long up, .long dn, .int (nI sz)])) (z0 : M (27 + 1) = .inl (0, 60, .inl f0)) (z1 : M (27 + 2) = .inl (0, 60, .inl f1)) (z2 : M (27 + 3) = .inl (0, 60, .inl f2)) (z3 : M (27 + 4) = .inl (0, 60, .inl f3)) (z4 : M (27 + 5) = .inl (0, 60, .inl f4)) (z5 : M (27 + 6) = .inl (0, 12, .inl f5)) (z6 : M (27 + 7) = .inl (0, 12, .inl f6)) {j : Nat} (hj : j < sz) (hsz : sz ≤ 60)  : ev_Cal G mX8_tell 1 0 0 [.ref 27, .int (nI j), .int 3] n M (ev_is (some (.int (f3 j))) M) := by
  refine ev_Cal_of (L := [some (.ref 27), some (.int (nI j)), some (.int 3)]) (by decide +kernel) (Nat.le_of_ble_eq_true rfl) rfl ?_
  refine ev_iload_n (i := 1) dX8_tell_0 rfl rfl ?_
  refine ev_if_lt (tgt := 12) dX8_tell_1 (by decide) (fun h1 => False.elim (nI_pos (by omega) h1)) (fun h1 => ?_)
  refine ev_iload_n (i := 1) dX8_tell_4 rfl rfl ?_
  refine ev_aload_n (i := 0) dX8_tell_5 rfl rfl ?_
  refine ev_getf dX8_tell_6 flX8_33 (by first | assumption | rfl) (by rfl) ?_
  refine ev_icmp_lt (tgt := 15) dX8_tell_9 (by decide) (fun h9 => ?_) (fun h9 => False.elim (nI_ge hj (by omega) h9))
  refine ev_iload_n (i := 2) dX8_tell_15 rfl rfl ?_
  refine ev_tsin (off := 57) (tgt := 73) dX8_tell_16 (by decide) (by decide) (by rfl) (by decide) ?_
  refine ev_aload_n (i := 0) dX8_tell_73 rfl rfl ?_
  refine ev_getf dX8_tell_74 flX8_21 (by first | assumption | rfl) (by rfl) ?_
  refine ev_iload_n (i := 1) dX8_tell_77 rfl rfl ?_
  refine ev_iald (j := j) dX8_tell_78 (by first | assumption | rfl) (ev_ix_nI (by omega)) (by omega) ?_
  exact ev_reti dX8_tell_79 rfl rfl (⟨by first | rfl | simp [*], rfl⟩)
theorem c8_tell_4 {G : ev_G} {n : Nat} {M : ev_M} {up dn : Int64} {f0 f1 f2 f3 f4 f5 f6 : Nat → Int32} {sz : Nat} (hz : M (27) = .inr (8, [.ref (27 + 1), .ref (27 + 2), .ref (27 + 3), .ref (27 + 4), .ref (27 + 5), .ref (27 + 6), .ref (27 + 7), .long up, .long dn, .int (nI sz)])) (z0 : M (27 + 1) = .inl (0, 60, .inl f0)) (z1 : M (27 + 2) = .inl (0, 60, .inl f1)) (z2 : M (27 + 3) = .inl (0, 60, .inl f2)) (z3 : M (27 + 4) = .inl (0, 60, .inl f3)) (z4 : M (27 + 5) = .inl (0, 60, .inl f4)) (z5 : M (27 + 6) = .inl (0, 12, .inl f5)) (z6 : M (27 + 7) = .inl (0, 12, .inl f6)) {j : Nat} (hj : j < sz) (hsz : sz ≤ 60)  : ev_Cal G mX8_tell 1 0 0 [.ref 27, .int (nI j), .int 4] n M (ev_is (some (.int (f4 j))) M) := by
  refine ev_Cal_of (L := [some (.ref 27), some (.int (nI j)), some (.int 4)]) (by decide +kernel) (Nat.le_of_ble_eq_true rfl) rfl ?_
  refine ev_iload_n (i := 1) dX8_tell_0 rfl rfl ?_
  refine ev_if_lt (tgt := 12) dX8_tell_1 (by decide) (fun h1 => False.elim (nI_pos (by omega) h1)) (fun h1 => ?_)
  refine ev_iload_n (i := 1) dX8_tell_4 rfl rfl ?_
  refine ev_aload_n (i := 0) dX8_tell_5 rfl rfl ?_
  refine ev_getf dX8_tell_6 flX8_33 (by first | assumption | rfl) (by rfl) ?_
  refine ev_icmp_lt (tgt := 15) dX8_tell_9 (by decide) (fun h9 => ?_) (fun h9 => False.elim (nI_ge hj (by omega) h9))
  refine ev_iload_n (i := 2) dX8_tell_15 rfl rfl ?_
  refine ev_tsin (off := 64) (tgt := 80) dX8_tell_16 (by decide) (by decide) (by rfl) (by decide) ?_
  refine ev_aload_n (i := 0) dX8_tell_80 rfl rfl ?_
  refine ev_getf dX8_tell_81 flX8_24 (by first | assumption | rfl) (by rfl) ?_
  refine ev_iload_n (i := 1) dX8_tell_84 rfl rfl ?_
  refine ev_iald (j := j) dX8_tell_85 (by first | assumption | rfl) (ev_ix_nI (by omega)) (by omega) ?_
  exact ev_reti dX8_tell_86 rfl rfl (⟨by first | rfl | simp [*], rfl⟩)
theorem c8_tell_w {G : ev_G} {n : Nat} {M : ev_M} {up dn : Int64} {f0 f1 f2 f3 f4 f5 f6 : Nat → Int32} {sz : Nat} (hz : M (27) = .inr (8, [.ref (27 + 1), .ref (27 + 2), .ref (27 + 3), .ref (27 + 4), .ref (27 + 5), .ref (27 + 6), .ref (27 + 7), .long up, .long dn, .int (nI sz)])) (z0 : M (27 + 1) = .inl (0, 60, .inl f0)) (z1 : M (27 + 2) = .inl (0, 60, .inl f1)) (z2 : M (27 + 3) = .inl (0, 60, .inl f2)) (z3 : M (27 + 4) = .inl (0, 60, .inl f3)) (z4 : M (27 + 5) = .inl (0, 60, .inl f4)) (z5 : M (27 + 6) = .inl (0, 12, .inl f5)) (z6 : M (27 + 7) = .inl (0, 12, .inl f6)) {j : Nat} (hj : j < sz) (hsz : sz ≤ 60) {w : Int32} (hw : w.toInt < 0 ∨ 4 < w.toInt) : ev_Cal G mX8_tell 1 0 0 [.ref 27, .int (nI j), .int w] n M (ev_is (some (.int (-1000000))) M) := by
  refine ev_Cal_of (L := [some (.ref 27), some (.int (nI j)), some (.int w)]) (by decide +kernel) (Nat.le_of_ble_eq_true rfl) rfl ?_
  refine ev_iload_n (i := 1) dX8_tell_0 rfl rfl ?_
  refine ev_if_lt (tgt := 12) dX8_tell_1 (by decide) (fun h1 => False.elim (nI_pos (by omega) h1)) (fun h1 => ?_)
  refine ev_iload_n (i := 1) dX8_tell_4 rfl rfl ?_
  refine ev_aload_n (i := 0) dX8_tell_5 rfl rfl ?_
  refine ev_getf dX8_tell_6 flX8_33 (by first | assumption | rfl) (by rfl) ?_
  refine ev_icmp_lt (tgt := 15) dX8_tell_9 (by decide) (fun h9 => ?_) (fun h9 => False.elim (nI_ge hj (by omega) h9))
  refine ev_iload_n (i := 2) dX8_tell_15 rfl rfl ?_
  refine ev_tsout (tgt := 87) dX8_tell_16 hw (by decide) ?_
  refine ev_ldc dX8_tell_87 coX8_37 ?_
  exact ev_reti dX8_tell_89 rfl rfl (⟨by first | rfl | simp [*], rfl⟩)
theorem c8_tell_k {G : ev_G} {n : Nat} {M : ev_M} {up dn : Int64} {f0 f1 f2 f3 f4 f5 f6 : Nat → Int32} {sz : Nat} (hz : M (27) = .inr (8, [.ref (27 + 1), .ref (27 + 2), .ref (27 + 3), .ref (27 + 4), .ref (27 + 5), .ref (27 + 6), .ref (27 + 7), .long up, .long dn, .int (nI sz)])) (z0 : M (27 + 1) = .inl (0, 60, .inl f0)) (z1 : M (27 + 2) = .inl (0, 60, .inl f1)) (z2 : M (27 + 3) = .inl (0, 60, .inl f2)) (z3 : M (27 + 4) = .inl (0, 60, .inl f3)) (z4 : M (27 + 5) = .inl (0, 60, .inl f4)) (z5 : M (27 + 6) = .inl (0, 12, .inl f5)) (z6 : M (27 + 7) = .inl (0, 12, .inl f6)) {x w : Int32} (hx : x < 0 ∨ nI sz ≤ x) : ev_Cal G mX8_tell 1 0 0 [.ref 27, .int x, .int w] n M (ev_is (some (.int (-1000000))) M) := by
  refine ev_Cal_of (L := [some (.ref 27), some (.int x), some (.int w)]) (by decide +kernel) (Nat.le_of_ble_eq_true rfl) rfl ?_
  refine ev_iload_n (i := 1) dX8_tell_0 rfl rfl ?_
  refine ev_if_lt (tgt := 12) dX8_tell_1 (by decide) (fun h1 => ?_) (fun h1 => ?_)
  · skip
    refine ev_ldc dX8_tell_12 coX8_37 ?_
    exact ev_reti dX8_tell_14 rfl rfl (⟨by first | rfl | simp [*], rfl⟩)
  · skip
    refine ev_iload_n (i := 1) dX8_tell_4 rfl rfl ?_
    refine ev_aload_n (i := 0) dX8_tell_5 rfl rfl ?_
    refine ev_getf dX8_tell_6 flX8_33 (by first | assumption | rfl) (by rfl) ?_
    refine ev_icmp_lt (tgt := 15) dX8_tell_9 (by decide) (fun h9 => False.elim (hx.elim (fun q => Int32.not_lt.mpr h1 q) (fun q => Int32.not_lt.mpr q h9))) (fun h9 => ?_)
    refine ev_ldc dX8_tell_12 coX8_37 ?_
    exact ev_reti dX8_tell_14 rfl rfl (⟨by first | rfl | simp [*], rfl⟩)
theorem c12_shot_0 {G : ev_G} {n : Nat} {M : ev_M} {g g' : Nat} {lot : Int32} (h20 : M 21 = .inr (11, [.ref 22, .ref 25, .ref 27, .ref 35, .ref 39, .ref 40, .ref 41, .ref 63, .ref g, .ref g', .int lot])) {up dn : Int64} {f0 f1 f2 f3 f4 f5 f6 : Nat → Int32} {sz : Nat} (hz : M (27) = .inr (8, [.ref (27 + 1), .ref (27 + 2), .ref (27 + 3), .ref (27 + 4), .ref (27 + 5), .ref (27 + 6), .ref (27 + 7), .long up, .long dn, .int (nI sz)])) (z0 : M (27 + 1) = .inl (0, 60, .inl f0)) (z1 : M (27 + 2) = .inl (0, 60, .inl f1)) (z2 : M (27 + 3) = .inl (0, 60, .inl f2)) (z3 : M (27 + 4) = .inl (0, 60, .inl f3)) (z4 : M (27 + 5) = .inl (0, 60, .inl f4)) (z5 : M (27 + 6) = .inl (0, 12, .inl f5)) (z6 : M (27 + 7) = .inl (0, 12, .inl f6)) {j : Nat} (hj : j < sz) (hsz : sz ≤ 60)  : ev_Cal G mX11_shot 2 0 0 [.ref 21, .int (nI j), .int 0] n M (ev_is (some (.int (f0 j))) M) := by
  refine ev_Cal_of (L := [some (.ref 21), some (.int (nI j)), some (.int 0)]) (by decide +kernel) (Nat.le_of_ble_eq_true rfl) rfl ?_
  refine ev_aload_n (i := 0) dX11_shot_0 rfl rfl ?_
  refine ev_getf dX11_shot_1 flX11_26 (by first | assumption | rfl) (by rfl) ?_
  refine ev_iload_n (i := 1) dX11_shot_4 rfl rfl ?_
  refine ev_iload_n (i := 2) dX11_shot_5 rfl rfl ?_
  refine ev_c3 kX11_shot_6 (c8_tell_0 hz z0 z1 z2 z3 z4 z5 z6 hj hsz) (ev_rv_of (by first | assumption | rfl) rfl rfl) (by decide) (by decide) (Nat.le_of_ble_eq_true rfl) ?_
  exact ev_reti dX11_shot_9 rfl rfl (⟨by first | rfl | simp [*], rfl⟩)
theorem c12_shot_1 {G : ev_G} {n : Nat} {M : ev_M} {g g' : Nat} {lot : Int32} (h20 : M 21 = .inr (11, [.ref 22, .ref 25, .ref 27, .ref 35, .ref 39, .ref 40, .ref 41, .ref 63, .ref g, .ref g', .int lot])) {up dn : Int64} {f0 f1 f2 f3 f4 f5 f6 : Nat → Int32} {sz : Nat} (hz : M (27) = .inr (8, [.ref (27 + 1), .ref (27 + 2), .ref (27 + 3), .ref (27 + 4), .ref (27 + 5), .ref (27 + 6), .ref (27 + 7), .long up, .long dn, .int (nI sz)])) (z0 : M (27 + 1) = .inl (0, 60, .inl f0)) (z1 : M (27 + 2) = .inl (0, 60, .inl f1)) (z2 : M (27 + 3) = .inl (0, 60, .inl f2)) (z3 : M (27 + 4) = .inl (0, 60, .inl f3)) (z4 : M (27 + 5) = .inl (0, 60, .inl f4)) (z5 : M (27 + 6) = .inl (0, 12, .inl f5)) (z6 : M (27 + 7) = .inl (0, 12, .inl f6)) {j : Nat} (hj : j < sz) (hsz : sz ≤ 60)  : ev_Cal G mX11_shot 2 0 0 [.ref 21, .int (nI j), .int 1] n M (ev_is (some (.int (f1 j))) M) := by
  refine ev_Cal_of (L := [some (.ref 21), some (.int (nI j)), some (.int 1)]) (by decide +kernel) (Nat.le_of_ble_eq_true rfl) rfl ?_
  refine ev_aload_n (i := 0) dX11_shot_0 rfl rfl ?_
  refine ev_getf dX11_shot_1 flX11_26 (by first | assumption | rfl) (by rfl) ?_
  refine ev_iload_n (i := 1) dX11_shot_4 rfl rfl ?_
  refine ev_iload_n (i := 2) dX11_shot_5 rfl rfl ?_
  refine ev_c3 kX11_shot_6 (c8_tell_1 hz z0 z1 z2 z3 z4 z5 z6 hj hsz) (ev_rv_of (by first | assumption | rfl) rfl rfl) (by decide) (by decide) (Nat.le_of_ble_eq_true rfl) ?_
  exact ev_reti dX11_shot_9 rfl rfl (⟨by first | rfl | simp [*], rfl⟩)
theorem c12_shot_2 {G : ev_G} {n : Nat} {M : ev_M} {g g' : Nat} {lot : Int32} (h20 : M 21 = .inr (11, [.ref 22, .ref 25, .ref 27, .ref 35, .ref 39, .ref 40, .ref 41, .ref 63, .ref g, .ref g', .int lot])) {up dn : Int64} {f0 f1 f2 f3 f4 f5 f6 : Nat → Int32} {sz : Nat} (hz : M (27) = .inr (8, [.ref (27 + 1), .ref (27 + 2), .ref (27 + 3), .ref (27 + 4), .ref (27 + 5), .ref (27 + 6), .ref (27 + 7), .long up, .long dn, .int (nI sz)])) (z0 : M (27 + 1) = .inl (0, 60, .inl f0)) (z1 : M (27 + 2) = .inl (0, 60, .inl f1)) (z2 : M (27 + 3) = .inl (0, 60, .inl f2)) (z3 : M (27 + 4) = .inl (0, 60, .inl f3)) (z4 : M (27 + 5) = .inl (0, 60, .inl f4)) (z5 : M (27 + 6) = .inl (0, 12, .inl f5)) (z6 : M (27 + 7) = .inl (0, 12, .inl f6)) {j : Nat} (hj : j < sz) (hsz : sz ≤ 60)  : ev_Cal G mX11_shot 2 0 0 [.ref 21, .int (nI j), .int 2] n M (ev_is (some (.int (f2 j))) M) := by
  refine ev_Cal_of (L := [some (.ref 21), some (.int (nI j)), some (.int 2)]) (by decide +kernel) (Nat.le_of_ble_eq_true rfl) rfl ?_
  refine ev_aload_n (i := 0) dX11_shot_0 rfl rfl ?_
  refine ev_getf dX11_shot_1 flX11_26 (by first | assumption | rfl) (by rfl) ?_
  refine ev_iload_n (i := 1) dX11_shot_4 rfl rfl ?_
  refine ev_iload_n (i := 2) dX11_shot_5 rfl rfl ?_
  refine ev_c3 kX11_shot_6 (c8_tell_2 hz z0 z1 z2 z3 z4 z5 z6 hj hsz) (ev_rv_of (by first | assumption | rfl) rfl rfl) (by decide) (by decide) (Nat.le_of_ble_eq_true rfl) ?_
  exact ev_reti dX11_shot_9 rfl rfl (⟨by first | rfl | simp [*], rfl⟩)
theorem c12_shot_3 {G : ev_G} {n : Nat} {M : ev_M} {g g' : Nat} {lot : Int32} (h20 : M 21 = .inr (11, [.ref 22, .ref 25, .ref 27, .ref 35, .ref 39, .ref 40, .ref 41, .ref 63, .ref g, .ref g', .int lot])) {up dn : Int64} {f0 f1 f2 f3 f4 f5 f6 : Nat → Int32} {sz : Nat} (hz : M (27) = .inr (8, [.ref (27 + 1), .ref (27 + 2), .ref (27 + 3), .ref (27 + 4), .ref (27 + 5), .ref (27 + 6), .ref (27 + 7), .long up, .long dn, .int (nI sz)])) (z0 : M (27 + 1) = .inl (0, 60, .inl f0)) (z1 : M (27 + 2) = .inl (0, 60, .inl f1)) (z2 : M (27 + 3) = .inl (0, 60, .inl f2)) (z3 : M (27 + 4) = .inl (0, 60, .inl f3)) (z4 : M (27 + 5) = .inl (0, 60, .inl f4)) (z5 : M (27 + 6) = .inl (0, 12, .inl f5)) (z6 : M (27 + 7) = .inl (0, 12, .inl f6)) {j : Nat} (hj : j < sz) (hsz : sz ≤ 60)  : ev_Cal G mX11_shot 2 0 0 [.ref 21, .int (nI j), .int 3] n M (ev_is (some (.int (f3 j))) M) := by
  refine ev_Cal_of (L := [some (.ref 21), some (.int (nI j)), some (.int 3)]) (by decide +kernel) (Nat.le_of_ble_eq_true rfl) rfl ?_
  refine ev_aload_n (i := 0) dX11_shot_0 rfl rfl ?_
  refine ev_getf dX11_shot_1 flX11_26 (by first | assumption | rfl) (by rfl) ?_
  refine ev_iload_n (i := 1) dX11_shot_4 rfl rfl ?_
  refine ev_iload_n (i := 2) dX11_shot_5 rfl rfl ?_
  refine ev_c3 kX11_shot_6 (c8_tell_3 hz z0 z1 z2 z3 z4 z5 z6 hj hsz) (ev_rv_of (by first | assumption | rfl) rfl rfl) (by decide) (by decide) (Nat.le_of_ble_eq_true rfl) ?_
  exact ev_reti dX11_shot_9 rfl rfl (⟨by first | rfl | simp [*], rfl⟩)
theorem c12_shot_4 {G : ev_G} {n : Nat} {M : ev_M} {g g' : Nat} {lot : Int32} (h20 : M 21 = .inr (11, [.ref 22, .ref 25, .ref 27, .ref 35, .ref 39, .ref 40, .ref 41, .ref 63, .ref g, .ref g', .int lot])) {up dn : Int64} {f0 f1 f2 f3 f4 f5 f6 : Nat → Int32} {sz : Nat} (hz : M (27) = .inr (8, [.ref (27 + 1), .ref (27 + 2), .ref (27 + 3), .ref (27 + 4), .ref (27 + 5), .ref (27 + 6), .ref (27 + 7), .long up, .long dn, .int (nI sz)])) (z0 : M (27 + 1) = .inl (0, 60, .inl f0)) (z1 : M (27 + 2) = .inl (0, 60, .inl f1)) (z2 : M (27 + 3) = .inl (0, 60, .inl f2)) (z3 : M (27 + 4) = .inl (0, 60, .inl f3)) (z4 : M (27 + 5) = .inl (0, 60, .inl f4)) (z5 : M (27 + 6) = .inl (0, 12, .inl f5)) (z6 : M (27 + 7) = .inl (0, 12, .inl f6)) {j : Nat} (hj : j < sz) (hsz : sz ≤ 60)  : ev_Cal G mX11_shot 2 0 0 [.ref 21, .int (nI j), .int 4] n M (ev_is (some (.int (f4 j))) M) := by
  refine ev_Cal_of (L := [some (.ref 21), some (.int (nI j)), some (.int 4)]) (by decide +kernel) (Nat.le_of_ble_eq_true rfl) rfl ?_
  refine ev_aload_n (i := 0) dX11_shot_0 rfl rfl ?_
  refine ev_getf dX11_shot_1 flX11_26 (by first | assumption | rfl) (by rfl) ?_
  refine ev_iload_n (i := 1) dX11_shot_4 rfl rfl ?_
  refine ev_iload_n (i := 2) dX11_shot_5 rfl rfl ?_
  refine ev_c3 kX11_shot_6 (c8_tell_4 hz z0 z1 z2 z3 z4 z5 z6 hj hsz) (ev_rv_of (by first | assumption | rfl) rfl rfl) (by decide) (by decide) (Nat.le_of_ble_eq_true rfl) ?_
  exact ev_reti dX11_shot_9 rfl rfl (⟨by first | rfl | simp [*], rfl⟩)
theorem c12_shot_w {G : ev_G} {n : Nat} {M : ev_M} {g g' : Nat} {lot : Int32} (h20 : M 21 = .inr (11, [.ref 22, .ref 25, .ref 27, .ref 35, .ref 39, .ref 40, .ref 41, .ref 63, .ref g, .ref g', .int lot])) {up dn : Int64} {f0 f1 f2 f3 f4 f5 f6 : Nat → Int32} {sz : Nat} (hz : M (27) = .inr (8, [.ref (27 + 1), .ref (27 + 2), .ref (27 + 3), .ref (27 + 4), .ref (27 + 5), .ref (27 + 6), .ref (27 + 7), .long up, .long dn, .int (nI sz)])) (z0 : M (27 + 1) = .inl (0, 60, .inl f0)) (z1 : M (27 + 2) = .inl (0, 60, .inl f1)) (z2 : M (27 + 3) = .inl (0, 60, .inl f2)) (z3 : M (27 + 4) = .inl (0, 60, .inl f3)) (z4 : M (27 + 5) = .inl (0, 60, .inl f4)) (z5 : M (27 + 6) = .inl (0, 12, .inl f5)) (z6 : M (27 + 7) = .inl (0, 12, .inl f6)) {j : Nat} (hj : j < sz) (hsz : sz ≤ 60) {w : Int32} (hw : w.toInt < 0 ∨ 4 < w.toInt) : ev_Cal G mX11_shot 2 0 0 [.ref 21, .int (nI j), .int w] n M (ev_is (some (.int (-1000000))) M) := by
  refine ev_Cal_of (L := [some (.ref 21), some (.int (nI j)), some (.int w)]) (by decide +kernel) (Nat.le_of_ble_eq_true rfl) rfl ?_
  refine ev_aload_n (i := 0) dX11_shot_0 rfl rfl ?_
  refine ev_getf dX11_shot_1 flX11_26 (by first | assumption | rfl) (by rfl) ?_
  refine ev_iload_n (i := 1) dX11_shot_4 rfl rfl ?_
  refine ev_iload_n (i := 2) dX11_shot_5 rfl rfl ?_
  refine ev_c3 kX11_shot_6 (c8_tell_w hz z0 z1 z2 z3 z4 z5 z6 hj hsz hw) (ev_rv_of (by first | assumption | rfl) rfl rfl) (by decide) (by decide) (Nat.le_of_ble_eq_true rfl) ?_
  exact ev_reti dX11_shot_9 rfl rfl (⟨by first | rfl | simp [*], rfl⟩)
theorem c12_shot_k {G : ev_G} {n : Nat} {M : ev_M} {g g' : Nat} {lot : Int32} (h20 : M 21 = .inr (11, [.ref 22, .ref 25, .ref 27, .ref 35, .ref 39, .ref 40, .ref 41, .ref 63, .ref g, .ref g', .int lot])) {up dn : Int64} {f0 f1 f2 f3 f4 f5 f6 : Nat → Int32} {sz : Nat} (hz : M (27) = .inr (8, [.ref (27 + 1), .ref (27 + 2), .ref (27 + 3), .ref (27 + 4), .ref (27 + 5), .ref (27 + 6), .ref (27 + 7), .long up, .long dn, .int (nI sz)])) (z0 : M (27 + 1) = .inl (0, 60, .inl f0)) (z1 : M (27 + 2) = .inl (0, 60, .inl f1)) (z2 : M (27 + 3) = .inl (0, 60, .inl f2)) (z3 : M (27 + 4) = .inl (0, 60, .inl f3)) (z4 : M (27 + 5) = .inl (0, 60, .inl f4)) (z5 : M (27 + 6) = .inl (0, 12, .inl f5)) (z6 : M (27 + 7) = .inl (0, 12, .inl f6)) {x w : Int32} (hx : x < 0 ∨ nI sz ≤ x) : ev_Cal G mX11_shot 2 0 0 [.ref 21, .int x, .int w] n M (ev_is (some (.int (-1000000))) M) := by
  refine ev_Cal_of (L := [some (.ref 21), some (.int x), some (.int w)]) (by decide +kernel) (Nat.le_of_ble_eq_true rfl) rfl ?_
  refine ev_aload_n (i := 0) dX11_shot_0 rfl rfl ?_
  refine ev_getf dX11_shot_1 flX11_26 (by first | assumption | rfl) (by rfl) ?_
  refine ev_iload_n (i := 1) dX11_shot_4 rfl rfl ?_
  refine ev_iload_n (i := 2) dX11_shot_5 rfl rfl ?_
  refine ev_c3 kX11_shot_6 (c8_tell_k hz z0 z1 z2 z3 z4 z5 z6 hx) (ev_rv_of (by first | assumption | rfl) rfl rfl) (by decide) (by decide) (Nat.le_of_ble_eq_true rfl) ?_
  exact ev_reti dX11_shot_9 rfl rfl (⟨by first | rfl | simp [*], rfl⟩)
theorem c12_wipe {G : ev_G} {n : Nat} {M : ev_M} {g g' : Nat} {lot : Int32} (h20 : M 21 = .inr (11, [.ref 22, .ref 25, .ref 27, .ref 35, .ref 39, .ref 40, .ref 41, .ref 63, .ref g, .ref g', .int lot])) {up dn : Int64} {f0 f1 f2 f3 f4 f5 f6 : Nat → Int32} {sz : Nat} (hz : M (27) = .inr (8, [.ref (27 + 1), .ref (27 + 2), .ref (27 + 3), .ref (27 + 4), .ref (27 + 5), .ref (27 + 6), .ref (27 + 7), .long up, .long dn, .int (nI sz)])) (z0 : M (27 + 1) = .inl (0, 60, .inl f0)) (z1 : M (27 + 2) = .inl (0, 60, .inl f1)) (z2 : M (27 + 3) = .inl (0, 60, .inl f2)) (z3 : M (27 + 4) = .inl (0, 60, .inl f3)) (z4 : M (27 + 5) = .inl (0, 60, .inl f4)) (z5 : M (27 + 6) = .inl (0, 12, .inl f5)) (z6 : M (27 + 7) = .inl (0, 12, .inl f6))  : ev_Cal G mX11_wipe 2 0 0 [.ref 21] n M (ev_is (some (.int (nI sz))) (ev_set M 27 (.inr (8, [.ref (27 + 1), .ref (27 + 2), .ref (27 + 3), .ref (27 + 4), .ref (27 + 5), .ref (27 + 6), .ref (27 + 7), .long up, .long dn, .int (0)])))) := by
  refine ev_Cal_of (L := [some (.ref 21)]) (by decide +kernel) (Nat.le_of_ble_eq_true rfl) rfl ?_
  refine ev_aload_n (i := 0) dX11_wipe_0 rfl rfl ?_
  refine ev_getf dX11_wipe_1 flX11_26 (by first | assumption | rfl) (by rfl) ?_
  refine ev_c1 kX11_wipe_4 (c8_empty hz z0 z1 z2 z3 z4 z5 z6) (ev_rv_of (by first | assumption | rfl) rfl rfl) (by decide) (by decide) (Nat.le_of_ble_eq_true rfl) ?_
  exact ev_reti dX11_wipe_7 rfl rfl (⟨by first | rfl | simp [*], rfl⟩)
theorem c12_shoot_ok {G : ev_G} {n : Nat} {M : ev_M} {g g' c0 c1 c2 : Nat} {lot : Int32} (h20 : M 21 = .inr (11, [.ref 22, .ref 25, .ref 27, .ref 35, .ref 39, .ref 40, .ref 41, .ref 63, .ref g, .ref g', .int lot])) (hG : M g = .inr (3, [.ref (g + 1), .ref (g + 2), .ref (g + 3), .int (nI c0), .int (nI c1), .int (nI c2)])) {fa : Nat → Option Nat} (hA : M (g + 1) = .inl (2, 12, ev_q fa)) (hfa : ∀ i, i < 12 → fa i = some (g + 4 + i)) {fb : Nat → Option Nat} (hB : M (g + 2) = .inl (3, 3, ev_q fb)) (hfb : ∀ i, i < 3 → fb i = some (g + 16 + i)) {fc : Nat → Option Nat} (hC : M (g + 3) = .inl (4, 3, ev_q fc)) (hfc : ∀ i, i < 3 → fc i = some (g + 19 + i)) {j : Nat} (hj : j < c0) (hc : c0 ≤ 12) {b : Nat} (hb : b < c1) (hc1 : c1 ≤ 3) {a : Nat} (ha : a < c2) (hc2 : c2 ≤ 3) {s : Nat → Int32} (hS : M (g + 4 + j) = .inr (9, [.int (s 0), .int (s 1), .int (s 2), .int (s 3), .int (s 4), .int (s 5), .int (s 6)])) {dr wi : Int32} (hW : M (g + 16 + b) = .inr (1, [.int dr, .int wi])) {am wa : Int32} (hR : M (g + 19 + a) = .inr (0, [.int am, .int wa])) {tu : Nat → Int32} (hT : M 25 = .inr (10, [.ref 26])) (hV : M 26 = .inl (0, 4, .inl tu)) {up dn : Int64} {f0 f1 f2 f3 f4 f5 f6 : Nat → Int32} {sz : Nat} (hz : M (27) = .inr (8, [.ref (27 + 1), .ref (27 + 2), .ref (27 + 3), .ref (27 + 4), .ref (27 + 5), .ref (27 + 6), .ref (27 + 7), .long up, .long dn, .int (nI sz)])) (z0 : M (27 + 1) = .inl (0, 60, .inl f0)) (z1 : M (27 + 2) = .inl (0, 60, .inl f1)) (z2 : M (27 + 3) = .inl (0, 60, .inl f2)) (z3 : M (27 + 4) = .inl (0, 60, .inl f3)) (z4 : M (27 + 5) = .inl (0, 60, .inl f4)) (z5 : M (27 + 6) = .inl (0, 12, .inl f5)) (z6 : M (27 + 7) = .inl (0, 12, .inl f6)) (hg : 34 < g) (hsz : sz < 60)  : ev_Cal G mX11_shoot 6 0 0 [.ref 21, .int (nI j), .int (nI b), .int (nI a)] n M (ev_is (some (.int (sp_goes (tu 0) (tu 1) (tu 2) (tu 3) (sp_spine (sp_stiff (s 2) (s 3) (s 6)) (s 0) (s 4) - sp_need dr wi) (s 5) (s 1 + s 4) + am + sp_rem ((lot * 1103515245 + 12345).toUInt32 >>> ((16 : Int32).toUInt32 &&& Int32.toUInt32 31)).toInt32 (2 * wa + 1) - wa))) (ev_ml (ev_set M 21 (.inr (11, [.ref 22, .ref 25, .ref 27, .ref 35, .ref 39, .ref 40, .ref 41, .ref 63, .ref g, .ref g', .int (lot * 1103515245 + 12345)]))) [(27, .inr (8, [.ref (27 + 1), .ref (27 + 2), .ref (27 + 3), .ref (27 + 4), .ref (27 + 5), .ref (27 + 6), .ref (27 + 7), .long up, .long dn, .int (nI (sz + 1))])), (27 + 1, .inl (0, 60, .inl (upd f0 sz (nI j)))), (27 + 2, .inl (0, 60, .inl (upd f1 sz (nI b)))), (27 + 3, .inl (0, 60, .inl (upd f2 sz (nI a)))), (27 + 4, .inl (0, 60, .inl (upd f3 sz (sp_goes (tu 0) (tu 1) (tu 2) (tu 3) (sp_spine (sp_stiff (s 2) (s 3) (s 6)) (s 0) (s 4) - sp_need dr wi) (s 5) (s 1 + s 4) + am + sp_rem ((lot * 1103515245 + 12345).toUInt32 >>> ((16 : Int32).toUInt32 &&& Int32.toUInt32 31)).toInt32 (2 * wa + 1) - wa)))), (27 + 5, .inl (0, 60, .inl (upd f4 sz (sp_drop (s 1 + s 4) dr (s 5)))))])) := by
  refine ev_Cal_of (L := [some (.ref 21), some (.int (nI j)), some (.int (nI b)), some (.int (nI a)), none, none, none, none, none, none]) (by decide +kernel) (Nat.le_of_ble_eq_true rfl) rfl ?_
  refine ev_aload_n (i := 0) dX11_shoot_0 rfl rfl ?_
  refine ev_getf dX11_shoot_1 flX11_64 (by first | assumption | exact ev_set_eq | exact (ev_set_ne (by omega)).trans hS | exact (ev_set_ne (by omega)).trans hW | exact (ev_set_ne (by omega)).trans hR | exact (ev_set_ne (by omega)).trans hT | exact (ev_set_ne (by omega)).trans hz) (by rfl) ?_
  refine ev_iload_n (i := 1) dX11_shoot_4 rfl rfl ?_
  refine ev_c2 kX11_shoot_5 (c3_stickAt_in hG hA hfa hj hc) (ev_rv_of (by first | assumption | exact ev_set_eq | exact (ev_set_ne (by omega)).trans hS | exact (ev_set_ne (by omega)).trans hW | exact (ev_set_ne (by omega)).trans hR | exact (ev_set_ne (by omega)).trans hT | exact (ev_set_ne (by omega)).trans hz) rfl rfl) (by decide) (by decide) (Nat.le_of_ble_eq_true rfl) ?_
  refine ev_astore dX11_shoot_8 (Nat.le_of_ble_eq_true rfl) rfl ?_
  refine ev_aload_n (i := 0) dX11_shoot_10 rfl rfl ?_
  refine ev_getf dX11_shoot_11 flX11_64 (by first | assumption | exact ev_set_eq | exact (ev_set_ne (by omega)).trans hS | exact (ev_set_ne (by omega)).trans hW | exact (ev_set_ne (by omega)).trans hR | exact (ev_set_ne (by omega)).trans hT | exact (ev_set_ne (by omega)).trans hz) (by rfl) ?_
  refine ev_iload_n (i := 2) dX11_shoot_14 rfl rfl ?_
  refine ev_c2 kX11_shoot_15 (c3_bowAt_in hG hB hfb hb hc1) (ev_rv_of (by first | assumption | exact ev_set_eq | exact (ev_set_ne (by omega)).trans hS | exact (ev_set_ne (by omega)).trans hW | exact (ev_set_ne (by omega)).trans hR | exact (ev_set_ne (by omega)).trans hT | exact (ev_set_ne (by omega)).trans hz) rfl rfl) (by decide) (by decide) (Nat.le_of_ble_eq_true rfl) ?_
  refine ev_astore dX11_shoot_18 (Nat.le_of_ble_eq_true rfl) rfl ?_
  refine ev_aload_n (i := 0) dX11_shoot_20 rfl rfl ?_
  refine ev_getf dX11_shoot_21 flX11_64 (by first | assumption | exact ev_set_eq | exact (ev_set_ne (by omega)).trans hS | exact (ev_set_ne (by omega)).trans hW | exact (ev_set_ne (by omega)).trans hR | exact (ev_set_ne (by omega)).trans hT | exact (ev_set_ne (by omega)).trans hz) (by rfl) ?_
  refine ev_iload_n (i := 3) dX11_shoot_24 rfl rfl ?_
  refine ev_c2 kX11_shoot_25 (c3_archerAt_in hG hC hfc ha hc2) (ev_rv_of (by first | assumption | exact ev_set_eq | exact (ev_set_ne (by omega)).trans hS | exact (ev_set_ne (by omega)).trans hW | exact (ev_set_ne (by omega)).trans hR | exact (ev_set_ne (by omega)).trans hT | exact (ev_set_ne (by omega)).trans hz) rfl rfl) (by decide) (by decide) (Nat.le_of_ble_eq_true rfl) ?_
  refine ev_astore dX11_shoot_28 (Nat.le_of_ble_eq_true rfl) rfl ?_
  refine ev_aload dX11_shoot_30 rfl ?_
  refine ev_ifnull dX11_shoot_32 ?_
  refine ev_aload dX11_shoot_35 rfl ?_
  refine ev_ifnull dX11_shoot_37 ?_
  refine ev_aload dX11_shoot_40 rfl ?_
  refine ev_ifnull dX11_shoot_42 ?_
  refine ev_aload_n (i := 0) dX11_shoot_45 rfl rfl ?_
  refine ev_getf dX11_shoot_46 flX11_26 (by first | assumption | exact ev_set_eq | exact (ev_set_ne (by omega)).trans hS | exact (ev_set_ne (by omega)).trans hW | exact (ev_set_ne (by omega)).trans hR | exact (ev_set_ne (by omega)).trans hT | exact (ev_set_ne (by omega)).trans hz) (by rfl) ?_
  refine ev_getf dX11_shoot_49 flX11_234 (by first | assumption | exact ev_set_eq | exact (ev_set_ne (by omega)).trans hS | exact (ev_set_ne (by omega)).trans hW | exact (ev_set_ne (by omega)).trans hR | exact (ev_set_ne (by omega)).trans hT | exact (ev_set_ne (by omega)).trans hz) (by rfl) ?_
  refine ev_bipush (v := 60) dX11_shoot_52 cnb_60 ?_
  refine ev_icmp_lt (tgt := 60) dX11_shoot_54 (by decide) (fun h54 => ?_) (fun h54 => False.elim (nI_ge (a := sz) (b := 60) hsz (by decide) h54))
  refine ev_aload_n (i := 0) dX11_shoot_60 rfl rfl ?_
  refine ev_aload_n (i := 0) dX11_shoot_61 rfl rfl ?_
  refine ev_getf dX11_shoot_62 flX11_71 (by first | assumption | exact ev_set_eq | exact (ev_set_ne (by omega)).trans hS | exact (ev_set_ne (by omega)).trans hW | exact (ev_set_ne (by omega)).trans hR | exact (ev_set_ne (by omega)).trans hT | exact (ev_set_ne (by omega)).trans hz) (by rfl) ?_
  refine ev_ldc dX11_shoot_65 coX11_235 ?_
  refine ev_imul dX11_shoot_67 ?_
  refine ev_sipush (v := 12345) dX11_shoot_68 cns_12345 ?_
  refine ev_iadd dX11_shoot_71 ?_
  refine ev_puti dX11_shoot_72 fpX11_71 (by first | assumption | exact ev_set_eq | exact (ev_set_ne (by omega)).trans hS | exact (ev_set_ne (by omega)).trans hW | exact (ev_set_ne (by omega)).trans hR | exact (ev_set_ne (by omega)).trans hT | exact (ev_set_ne (by omega)).trans hz) (by exact Nat.le_of_ble_eq_true rfl) ?_
  refine ev_aload_n (i := 0) dX11_shoot_75 rfl rfl ?_
  refine ev_getf dX11_shoot_76 flX11_71 (by first | assumption | exact ev_set_eq | exact (ev_set_ne (by omega)).trans hS | exact (ev_set_ne (by omega)).trans hW | exact (ev_set_ne (by omega)).trans hR | exact (ev_set_ne (by omega)).trans hT | exact (ev_set_ne (by omega)).trans hz) (by rfl) ?_
  refine ev_bipush (v := 16) dX11_shoot_79 cnb_16 ?_
  refine ev_iushr dX11_shoot_81 ?_
  refine ev_iconst (v := 2) dX11_shoot_82 cni_2 ?_
  refine ev_aload dX11_shoot_83 rfl ?_
  refine ev_getf dX11_shoot_85 flX11_151 (by first | assumption | exact ev_set_eq | exact (ev_set_ne (by omega)).trans hS | exact (ev_set_ne (by omega)).trans hW | exact (ev_set_ne (by omega)).trans hR | exact (ev_set_ne (by omega)).trans hT | exact (ev_set_ne (by omega)).trans hz) (by rfl) ?_
  refine ev_imul dX11_shoot_88 ?_
  refine ev_iconst (v := 1) dX11_shoot_89 cni_1 ?_
  refine ev_iadd dX11_shoot_90 ?_
  refine ev_c2 kX11_shoot_91 (c12_leftOver) trivial (by decide) (by decide) (Nat.le_of_ble_eq_true rfl) ?_
  refine ev_istore dX11_shoot_94 (Nat.le_of_ble_eq_true rfl) rfl ?_
  refine ev_aload_n (i := 0) dX11_shoot_96 rfl rfl ?_
  refine ev_getf dX11_shoot_97 flX11_19 (by first | assumption | exact ev_set_eq | exact (ev_set_ne (by omega)).trans hS | exact (ev_set_ne (by omega)).trans hW | exact (ev_set_ne (by omega)).trans hR | exact (ev_set_ne (by omega)).trans hT | exact (ev_set_ne (by omega)).trans hz) (by rfl) ?_
  refine ev_aload dX11_shoot_100 rfl ?_
  refine ev_aload dX11_shoot_102 rfl ?_
  refine ev_c1 kX11_shoot_104 (c9_spine ((ev_set_ne (by omega)).trans hS)) (ev_rv_of (by first | assumption | exact ev_set_eq | exact (ev_set_ne (by omega)).trans hS | exact (ev_set_ne (by omega)).trans hW | exact (ev_set_ne (by omega)).trans hR | exact (ev_set_ne (by omega)).trans hT | exact (ev_set_ne (by omega)).trans hz) rfl rfl) (by decide) (by decide) (Nat.le_of_ble_eq_true rfl) ?_
  refine ev_aload dX11_shoot_107 rfl ?_
  refine ev_c1 kX11_shoot_109 (c1_need ((ev_set_ne (by omega)).trans hW)) (ev_rv_of (by first | assumption | exact ev_set_eq | exact (ev_set_ne (by omega)).trans hS | exact (ev_set_ne (by omega)).trans hW | exact (ev_set_ne (by omega)).trans hR | exact (ev_set_ne (by omega)).trans hT | exact (ev_set_ne (by omega)).trans hz) rfl rfl) (by decide) (by decide) (Nat.le_of_ble_eq_true rfl) ?_
  refine ev_isub dX11_shoot_112 ?_
  refine ev_aload dX11_shoot_113 rfl ?_
  refine ev_getf dX11_shoot_115 flX11_120 (by first | assumption | exact ev_set_eq | exact (ev_set_ne (by omega)).trans hS | exact (ev_set_ne (by omega)).trans hW | exact (ev_set_ne (by omega)).trans hR | exact (ev_set_ne (by omega)).trans hT | exact (ev_set_ne (by omega)).trans hz) (by rfl) ?_
  refine ev_c4 kX11_shoot_118 (c11_goesOf ((ev_set_ne (by omega)).trans hT) ((ev_set_ne (by omega)).trans hV) ((ev_set_ne (by omega)).trans hS)) (ev_rv_of (by first | assumption | exact ev_set_eq | exact (ev_set_ne (by omega)).trans hS | exact (ev_set_ne (by omega)).trans hW | exact (ev_set_ne (by omega)).trans hR | exact (ev_set_ne (by omega)).trans hT | exact (ev_set_ne (by omega)).trans hz) rfl rfl) (by decide) (by decide) (Nat.le_of_ble_eq_true rfl) ?_
  refine ev_istore dX11_shoot_121 (Nat.le_of_ble_eq_true rfl) rfl ?_
  refine ev_iload dX11_shoot_123 rfl ?_
  refine ev_aload dX11_shoot_125 rfl ?_
  refine ev_getf dX11_shoot_127 flX11_146 (by first | assumption | exact ev_set_eq | exact (ev_set_ne (by omega)).trans hS | exact (ev_set_ne (by omega)).trans hW | exact (ev_set_ne (by omega)).trans hR | exact (ev_set_ne (by omega)).trans hT | exact (ev_set_ne (by omega)).trans hz) (by rfl) ?_
  refine ev_iadd dX11_shoot_130 ?_
  refine ev_iload dX11_shoot_131 rfl ?_
  refine ev_iadd dX11_shoot_133 ?_
  refine ev_aload dX11_shoot_134 rfl ?_
  refine ev_getf dX11_shoot_136 flX11_151 (by first | assumption | exact ev_set_eq | exact (ev_set_ne (by omega)).trans hS | exact (ev_set_ne (by omega)).trans hW | exact (ev_set_ne (by omega)).trans hR | exact (ev_set_ne (by omega)).trans hT | exact (ev_set_ne (by omega)).trans hz) (by rfl) ?_
  refine ev_isub dX11_shoot_139 ?_
  refine ev_istore dX11_shoot_140 (Nat.le_of_ble_eq_true rfl) rfl ?_
  refine ev_aload_n (i := 0) dX11_shoot_142 rfl rfl ?_
  refine ev_getf dX11_shoot_143 flX11_26 (by first | assumption | exact ev_set_eq | exact (ev_set_ne (by omega)).trans hS | exact (ev_set_ne (by omega)).trans hW | exact (ev_set_ne (by omega)).trans hR | exact (ev_set_ne (by omega)).trans hT | exact (ev_set_ne (by omega)).trans hz) (by rfl) ?_
  refine ev_iload_n (i := 1) dX11_shoot_146 rfl rfl ?_
  refine ev_iload_n (i := 2) dX11_shoot_147 rfl rfl ?_
  refine ev_iload_n (i := 3) dX11_shoot_148 rfl rfl ?_
  refine ev_iload dX11_shoot_149 rfl ?_
  refine ev_aload dX11_shoot_151 rfl ?_
  refine ev_aload dX11_shoot_153 rfl ?_
  refine ev_aload dX11_shoot_155 rfl ?_
  refine ev_getf dX11_shoot_157 flX11_120 (by first | assumption | exact ev_set_eq | exact (ev_set_ne (by omega)).trans hS | exact (ev_set_ne (by omega)).trans hW | exact (ev_set_ne (by omega)).trans hR | exact (ev_set_ne (by omega)).trans hT | exact (ev_set_ne (by omega)).trans hz) (by rfl) ?_
  refine ev_c3 kX11_shoot_160 (c1_dropOf ((ev_set_ne (by omega)).trans hW) ((ev_set_ne (by omega)).trans hS)) (ev_rv_of (by first | assumption | exact ev_set_eq | exact (ev_set_ne (by omega)).trans hS | exact (ev_set_ne (by omega)).trans hW | exact (ev_set_ne (by omega)).trans hR | exact (ev_set_ne (by omega)).trans hT | exact (ev_set_ne (by omega)).trans hz) rfl rfl) (by decide) (by decide) (Nat.le_of_ble_eq_true rfl) ?_
  refine ev_w6 kX11_shoot_163 (c8_add ((ev_set_ne (by omega)).trans hz) ((ev_set_ne (by omega)).trans z0) ((ev_set_ne (by omega)).trans z1) ((ev_set_ne (by omega)).trans z2) ((ev_set_ne (by omega)).trans z3) ((ev_set_ne (by omega)).trans z4) ((ev_set_ne (by omega)).trans z5) ((ev_set_ne (by omega)).trans z6) hsz) (ev_rv_of (by first | assumption | exact ev_set_eq | exact (ev_set_ne (by omega)).trans hS | exact (ev_set_ne (by omega)).trans hW | exact (ev_set_ne (by omega)).trans hR | exact (ev_set_ne (by omega)).trans hT | exact (ev_set_ne (by omega)).trans hz) rfl rfl) (by decide) (by decide) (Nat.le_of_ble_eq_true rfl) ?_
  refine ev_iload dX11_shoot_166 rfl ?_
  exact ev_reti dX11_shoot_168 rfl rfl (⟨by first | rfl | simp [*], rfl⟩)
theorem c12_shoot_full {G : ev_G} {n : Nat} {M : ev_M} {g g' c0 c1 c2 : Nat} {lot : Int32} (h20 : M 21 = .inr (11, [.ref 22, .ref 25, .ref 27, .ref 35, .ref 39, .ref 40, .ref 41, .ref 63, .ref g, .ref g', .int lot])) (hG : M g = .inr (3, [.ref (g + 1), .ref (g + 2), .ref (g + 3), .int (nI c0), .int (nI c1), .int (nI c2)])) {fa : Nat → Option Nat} (hA : M (g + 1) = .inl (2, 12, ev_q fa)) (hfa : ∀ i, i < 12 → fa i = some (g + 4 + i)) {fb : Nat → Option Nat} (hB : M (g + 2) = .inl (3, 3, ev_q fb)) (hfb : ∀ i, i < 3 → fb i = some (g + 16 + i)) {fc : Nat → Option Nat} (hC : M (g + 3) = .inl (4, 3, ev_q fc)) (hfc : ∀ i, i < 3 → fc i = some (g + 19 + i)) {j : Nat} (hj : j < c0) (hc : c0 ≤ 12) {b : Nat} (hb : b < c1) (hc1 : c1 ≤ 3) {a : Nat} (ha : a < c2) (hc2 : c2 ≤ 3) {up dn : Int64} {f0 f1 f2 f3 f4 f5 f6 : Nat → Int32} {sz : Nat} (hz : M (27) = .inr (8, [.ref (27 + 1), .ref (27 + 2), .ref (27 + 3), .ref (27 + 4), .ref (27 + 5), .ref (27 + 6), .ref (27 + 7), .long up, .long dn, .int (nI sz)])) (z0 : M (27 + 1) = .inl (0, 60, .inl f0)) (z1 : M (27 + 2) = .inl (0, 60, .inl f1)) (z2 : M (27 + 3) = .inl (0, 60, .inl f2)) (z3 : M (27 + 4) = .inl (0, 60, .inl f3)) (z4 : M (27 + 5) = .inl (0, 60, .inl f4)) (z5 : M (27 + 6) = .inl (0, 12, .inl f5)) (z6 : M (27 + 7) = .inl (0, 12, .inl f6)) (hsz : sz = 60) : ev_Cal G mX11_shoot 6 0 0 [.ref 21, .int (nI j), .int (nI b), .int (nI a)] n M (ev_is (some (.int (-1000000))) M) := by
  refine ev_Cal_of (L := [some (.ref 21), some (.int (nI j)), some (.int (nI b)), some (.int (nI a)), none, none, none, none, none, none]) (by decide +kernel) (Nat.le_of_ble_eq_true rfl) rfl ?_
  refine ev_aload_n (i := 0) dX11_shoot_0 rfl rfl ?_
  refine ev_getf dX11_shoot_1 flX11_64 (by first | assumption | rfl) (by rfl) ?_
  refine ev_iload_n (i := 1) dX11_shoot_4 rfl rfl ?_
  refine ev_c2 kX11_shoot_5 (c3_stickAt_in hG hA hfa hj hc) (ev_rv_of (by first | assumption | rfl) rfl rfl) (by decide) (by decide) (Nat.le_of_ble_eq_true rfl) ?_
  refine ev_astore dX11_shoot_8 (Nat.le_of_ble_eq_true rfl) rfl ?_
  refine ev_aload_n (i := 0) dX11_shoot_10 rfl rfl ?_
  refine ev_getf dX11_shoot_11 flX11_64 (by first | assumption | rfl) (by rfl) ?_
  refine ev_iload_n (i := 2) dX11_shoot_14 rfl rfl ?_
  refine ev_c2 kX11_shoot_15 (c3_bowAt_in hG hB hfb hb hc1) (ev_rv_of (by first | assumption | rfl) rfl rfl) (by decide) (by decide) (Nat.le_of_ble_eq_true rfl) ?_
  refine ev_astore dX11_shoot_18 (Nat.le_of_ble_eq_true rfl) rfl ?_
  refine ev_aload_n (i := 0) dX11_shoot_20 rfl rfl ?_
  refine ev_getf dX11_shoot_21 flX11_64 (by first | assumption | rfl) (by rfl) ?_
  refine ev_iload_n (i := 3) dX11_shoot_24 rfl rfl ?_
  refine ev_c2 kX11_shoot_25 (c3_archerAt_in hG hC hfc ha hc2) (ev_rv_of (by first | assumption | rfl) rfl rfl) (by decide) (by decide) (Nat.le_of_ble_eq_true rfl) ?_
  refine ev_astore dX11_shoot_28 (Nat.le_of_ble_eq_true rfl) rfl ?_
  refine ev_aload dX11_shoot_30 rfl ?_
  refine ev_ifnull dX11_shoot_32 ?_
  refine ev_aload dX11_shoot_35 rfl ?_
  refine ev_ifnull dX11_shoot_37 ?_
  refine ev_aload dX11_shoot_40 rfl ?_
  refine ev_ifnull dX11_shoot_42 ?_
  refine ev_aload_n (i := 0) dX11_shoot_45 rfl rfl ?_
  refine ev_getf dX11_shoot_46 flX11_26 (by first | assumption | rfl) (by rfl) ?_
  refine ev_getf dX11_shoot_49 flX11_234 (by first | assumption | rfl) (by rfl) ?_
  refine ev_bipush (v := 60) dX11_shoot_52 cnb_60 ?_
  refine ev_icmp_lt (tgt := 60) dX11_shoot_54 (by decide) (fun h54 => False.elim (absurd h54 (by rw [hsz]; decide))) (fun h54 => ?_)
  refine ev_ldc dX11_shoot_57 coX11_145 ?_
  exact ev_reti dX11_shoot_59 rfl rfl (⟨by first | rfl | simp [*], rfl⟩)
theorem c12_count_0 {G : ev_G} {n : Nat} {M : ev_M} {g g' c0 c1 c2 : Nat} {lot : Int32} (h20 : M 21 = .inr (11, [.ref 22, .ref 25, .ref 27, .ref 35, .ref 39, .ref 40, .ref 41, .ref 63, .ref g, .ref g', .int lot])) (hG : M g = .inr (3, [.ref (g + 1), .ref (g + 2), .ref (g + 3), .int (nI c0), .int (nI c1), .int (nI c2)]))  : ev_Cal G mX11_count 1 0 0 [.ref 21, .int 0] n M (ev_is (some (.int (nI c0))) M) := by
  refine ev_Cal_of (L := [some (.ref 21), some (.int 0)]) (by decide +kernel) (Nat.le_of_ble_eq_true rfl) rfl ?_
  refine ev_iload_n (i := 1) dX11_count_0 rfl rfl ?_
  refine ev_tsin (off := 35) (tgt := 36) dX11_count_1 (by decide) (by decide) (by rfl) (by decide) ?_
  refine ev_aload_n (i := 0) dX11_count_36 rfl rfl ?_
  refine ev_getf dX11_count_37 flX11_64 (by first | assumption | rfl) (by rfl) ?_
  refine ev_getf dX11_count_40 flX11_227 (by first | assumption | rfl) (by rfl) ?_
  exact ev_reti dX11_count_43 rfl rfl (⟨by first | rfl | simp [*], rfl⟩)
theorem c12_count_1 {G : ev_G} {n : Nat} {M : ev_M} {g g' c0 c1 c2 : Nat} {lot : Int32} (h20 : M 21 = .inr (11, [.ref 22, .ref 25, .ref 27, .ref 35, .ref 39, .ref 40, .ref 41, .ref 63, .ref g, .ref g', .int lot])) (hG : M g = .inr (3, [.ref (g + 1), .ref (g + 2), .ref (g + 3), .int (nI c0), .int (nI c1), .int (nI c2)]))  : ev_Cal G mX11_count 1 0 0 [.ref 21, .int 1] n M (ev_is (some (.int (nI c1))) M) := by
  refine ev_Cal_of (L := [some (.ref 21), some (.int 1)]) (by decide +kernel) (Nat.le_of_ble_eq_true rfl) rfl ?_
  refine ev_iload_n (i := 1) dX11_count_0 rfl rfl ?_
  refine ev_tsin (off := 43) (tgt := 44) dX11_count_1 (by decide) (by decide) (by rfl) (by decide) ?_
  refine ev_aload_n (i := 0) dX11_count_44 rfl rfl ?_
  refine ev_getf dX11_count_45 flX11_64 (by first | assumption | rfl) (by rfl) ?_
  refine ev_getf dX11_count_48 flX11_275 (by first | assumption | rfl) (by rfl) ?_
  exact ev_reti dX11_count_51 rfl rfl (⟨by first | rfl | simp [*], rfl⟩)
theorem c12_count_2 {G : ev_G} {n : Nat} {M : ev_M} {g g' c0 c1 c2 : Nat} {lot : Int32} (h20 : M 21 = .inr (11, [.ref 22, .ref 25, .ref 27, .ref 35, .ref 39, .ref 40, .ref 41, .ref 63, .ref g, .ref g', .int lot])) (hG : M g = .inr (3, [.ref (g + 1), .ref (g + 2), .ref (g + 3), .int (nI c0), .int (nI c1), .int (nI c2)]))  : ev_Cal G mX11_count 1 0 0 [.ref 21, .int 2] n M (ev_is (some (.int (nI c2))) M) := by
  refine ev_Cal_of (L := [some (.ref 21), some (.int 2)]) (by decide +kernel) (Nat.le_of_ble_eq_true rfl) rfl ?_
  refine ev_iload_n (i := 1) dX11_count_0 rfl rfl ?_
  refine ev_tsin (off := 51) (tgt := 52) dX11_count_1 (by decide) (by decide) (by rfl) (by decide) ?_
  refine ev_aload_n (i := 0) dX11_count_52 rfl rfl ?_
  refine ev_getf dX11_count_53 flX11_64 (by first | assumption | rfl) (by rfl) ?_
  refine ev_getf dX11_count_56 flX11_278 (by first | assumption | rfl) (by rfl) ?_
  exact ev_reti dX11_count_59 rfl rfl (⟨by first | rfl | simp [*], rfl⟩)
theorem c12_count_3 {G : ev_G} {n : Nat} {M : ev_M} {g g' : Nat} {lot : Int32} (h20 : M 21 = .inr (11, [.ref 22, .ref 25, .ref 27, .ref 35, .ref 39, .ref 40, .ref 41, .ref 63, .ref g, .ref g', .int lot])) {up dn : Int64} {f0 f1 f2 f3 f4 f5 f6 : Nat → Int32} {sz : Nat} (hz : M (27) = .inr (8, [.ref (27 + 1), .ref (27 + 2), .ref (27 + 3), .ref (27 + 4), .ref (27 + 5), .ref (27 + 6), .ref (27 + 7), .long up, .long dn, .int (nI sz)])) (z0 : M (27 + 1) = .inl (0, 60, .inl f0)) (z1 : M (27 + 2) = .inl (0, 60, .inl f1)) (z2 : M (27 + 3) = .inl (0, 60, .inl f2)) (z3 : M (27 + 4) = .inl (0, 60, .inl f3)) (z4 : M (27 + 5) = .inl (0, 60, .inl f4)) (z5 : M (27 + 6) = .inl (0, 12, .inl f5)) (z6 : M (27 + 7) = .inl (0, 12, .inl f6))  : ev_Cal G mX11_count 1 0 0 [.ref 21, .int 3] n M (ev_is (some (.int (nI sz))) M) := by
  refine ev_Cal_of (L := [some (.ref 21), some (.int 3)]) (by decide +kernel) (Nat.le_of_ble_eq_true rfl) rfl ?_
  refine ev_iload_n (i := 1) dX11_count_0 rfl rfl ?_
  refine ev_tsin (off := 59) (tgt := 60) dX11_count_1 (by decide) (by decide) (by rfl) (by decide) ?_
  refine ev_aload_n (i := 0) dX11_count_60 rfl rfl ?_
  refine ev_getf dX11_count_61 flX11_26 (by first | assumption | rfl) (by rfl) ?_
  refine ev_getf dX11_count_64 flX11_234 (by first | assumption | rfl) (by rfl) ?_
  exact ev_reti dX11_count_67 rfl rfl (⟨by first | rfl | simp [*], rfl⟩)
theorem c12_count_4 {G : ev_G} {n : Nat} {M : ev_M} {g g' : Nat} {lot : Int32} (h20 : M 21 = .inr (11, [.ref 22, .ref 25, .ref 27, .ref 35, .ref 39, .ref 40, .ref 41, .ref 63, .ref g, .ref g', .int lot])) {xt pl : Int32} (hT2 : M 22 = .inr (7, [.ref 23, .ref 24, .int pl, .int xt]))  : ev_Cal G mX11_count 1 0 0 [.ref 21, .int 4] n M (ev_is (some (.int (xt))) M) := by
  refine ev_Cal_of (L := [some (.ref 21), some (.int 4)]) (by decide +kernel) (Nat.le_of_ble_eq_true rfl) rfl ?_
  refine ev_iload_n (i := 1) dX11_count_0 rfl rfl ?_
  refine ev_tsin (off := 67) (tgt := 68) dX11_count_1 (by decide) (by decide) (by rfl) (by decide) ?_
  refine ev_aload_n (i := 0) dX11_count_68 rfl rfl ?_
  refine ev_getf dX11_count_69 flX11_10 (by first | assumption | rfl) (by rfl) ?_
  refine ev_getf dX11_count_72 flX11_79 (by first | assumption | rfl) (by rfl) ?_
  exact ev_reti dX11_count_75 rfl rfl (⟨by first | rfl | simp [*], rfl⟩)
theorem c12_count_w {G : ev_G} {n : Nat} {M : ev_M} {w : Int32} (hw : w.toInt < 0 ∨ 4 < w.toInt) : ev_Cal G mX11_count 1 0 0 [.ref 21, .int w] n M (ev_is (some (.int (-1))) M) := by
  refine ev_Cal_of (L := [some (.ref 21), some (.int w)]) (by decide +kernel) (Nat.le_of_ble_eq_true rfl) rfl ?_
  refine ev_iload_n (i := 1) dX11_count_0 rfl rfl ?_
  refine ev_tsout (tgt := 76) dX11_count_1 hw (by decide) ?_
  refine ev_iconst (v := (-1)) dX11_count_76 cni_m1 ?_
  exact ev_reti dX11_count_77 rfl rfl (⟨by first | rfl | simp [*], rfl⟩)
theorem c11_change_0 {G : ev_G} {n : Nat} {M : ev_M} {tu : Nat → Int32} (hT : M 25 = .inr (10, [.ref 26])) (hV : M 26 = .inl (0, 4, .inl tu)) {v : Int32} (hv : sp_in v 0 20 = true) : ev_Cal G mX10_change 2 0 0 [.ref 25, .int 0, .int v] n M (ev_is (some (.int (tu 0))) (ev_set M 26 (.inl (0, 4, .inl (upd tu 0 v))))) := by
  refine ev_Cal_of (L := [some (.ref 25), some (.int 0), some (.int v), none]) (by decide +kernel) (Nat.le_of_ble_eq_true rfl) rfl ?_
  refine ev_iload_n (i := 1) dX10_change_0 rfl rfl ?_
  refine ev_if_lt (tgt := 9) dX10_change_1 (by decide) (fun h1 => False.elim (absurd h1 (by decide))) (fun h1 => ?_)
  refine ev_iload_n (i := 1) dX10_change_4 rfl rfl ?_
  refine ev_iconst (v := 3) dX10_change_5 cni_3 ?_
  refine ev_icmp_le (tgt := 12) dX10_change_6 (by decide) (fun h6 => ?_) (fun h6 => False.elim (absurd h6 (by decide)))
  refine ev_iload_n (i := 2) dX10_change_12 rfl rfl ?_
  refine ev_gets (i := 0) dX10_change_13 (by decide) fwX10_16 ?_
  refine ev_iload_n (i := 1) dX10_change_16 rfl rfl ?_
  refine ev_iaS (a := 0) (j := 0) dX10_change_17 (by decide) (by decide) (by decide) ?_
  refine ev_gets (i := 1) dX10_change_18 (by decide) fwX10_19 ?_
  refine ev_iload_n (i := 1) dX10_change_21 rfl rfl ?_
  refine ev_iaS (a := 1) (j := 0) dX10_change_22 (by decide) (by decide) (by decide) ?_
  refine ev_c3 kX10_change_23 (c12_within (lo := 0) (hi := 20)) trivial (by decide) (by decide) (Nat.le_of_ble_eq_true rfl) ?_
  refine ev_if_neb (tgt := 32) dX10_change_26 (by decide) (fun h26 => ?_) (fun h26 => False.elim (Bool.false_ne_true (h26.symm.trans (hv))))
  refine ev_aload_n (i := 0) dX10_change_32 rfl rfl ?_
  refine ev_getf dX10_change_33 flX10_9 (by first | assumption | rfl) (by rfl) ?_
  refine ev_iload_n (i := 1) dX10_change_36 rfl rfl ?_
  refine ev_iald (j := 0) dX10_change_37 (by first | assumption | rfl) (by decide) (by decide) ?_
  refine ev_istore_n (i := 3) dX10_change_38 rfl (Nat.le_of_ble_eq_true rfl) rfl ?_
  refine ev_aload_n (i := 0) dX10_change_39 rfl rfl ?_
  refine ev_getf dX10_change_40 flX10_9 (by first | assumption | rfl) (by rfl) ?_
  refine ev_iload_n (i := 1) dX10_change_43 rfl rfl ?_
  refine ev_iload_n (i := 2) dX10_change_44 rfl rfl ?_
  refine ev_iast (j := 0) dX10_change_45 (by first | assumption | rfl) (by decide) (by decide) ?_
  refine ev_iload_n (i := 3) dX10_change_46 rfl rfl ?_
  exact ev_reti dX10_change_47 rfl rfl (⟨by first | rfl | simp [*], rfl⟩)
theorem c12_tune_0 {G : ev_G} {n : Nat} {M : ev_M} {g g' : Nat} {lot : Int32} (h20 : M 21 = .inr (11, [.ref 22, .ref 25, .ref 27, .ref 35, .ref 39, .ref 40, .ref 41, .ref 63, .ref g, .ref g', .int lot])) {tu : Nat → Int32} (hT : M 25 = .inr (10, [.ref 26])) (hV : M 26 = .inl (0, 4, .inl tu)) {v : Int32} (hv : sp_in v 0 20 = true) : ev_Cal G mX11_tune 3 0 0 [.ref 21, .int 0, .int v] n M (ev_is (some (.int (tu 0))) (ev_set M 26 (.inl (0, 4, .inl (upd tu 0 v))))) := by
  refine ev_Cal_of (L := [some (.ref 21), some (.int 0), some (.int v)]) (by decide +kernel) (Nat.le_of_ble_eq_true rfl) rfl ?_
  refine ev_aload_n (i := 0) dX11_tune_0 rfl rfl ?_
  refine ev_getf dX11_tune_1 flX11_19 (by first | assumption | rfl) (by rfl) ?_
  refine ev_iload_n (i := 1) dX11_tune_4 rfl rfl ?_
  refine ev_iload_n (i := 2) dX11_tune_5 rfl rfl ?_
  refine ev_c3 kX11_tune_6 (c11_change_0 hT hV hv) (ev_rv_of (by first | assumption | rfl) rfl rfl) (by decide) (by decide) (Nat.le_of_ble_eq_true rfl) ?_
  exact ev_reti dX11_tune_9 rfl rfl (⟨by first | rfl | simp [*], rfl⟩)
theorem c11_change_0_no {G : ev_G} {n : Nat} {M : ev_M} {tu : Nat → Int32} (hT : M 25 = .inr (10, [.ref 26])) (hV : M 26 = .inl (0, 4, .inl tu)) {v : Int32} (hv : sp_in v 0 20 = false) : ev_Cal G mX10_change 2 0 0 [.ref 25, .int 0, .int v] n M (ev_is (some (.int (-1000000))) M) := by
  refine ev_Cal_of (L := [some (.ref 25), some (.int 0), some (.int v), none]) (by decide +kernel) (Nat.le_of_ble_eq_true rfl) rfl ?_
  refine ev_iload_n (i := 1) dX10_change_0 rfl rfl ?_
  refine ev_if_lt (tgt := 9) dX10_change_1 (by decide) (fun h1 => False.elim (absurd h1 (by decide))) (fun h1 => ?_)
  refine ev_iload_n (i := 1) dX10_change_4 rfl rfl ?_
  refine ev_iconst (v := 3) dX10_change_5 cni_3 ?_
  refine ev_icmp_le (tgt := 12) dX10_change_6 (by decide) (fun h6 => ?_) (fun h6 => False.elim (absurd h6 (by decide)))
  refine ev_iload_n (i := 2) dX10_change_12 rfl rfl ?_
  refine ev_gets (i := 0) dX10_change_13 (by decide) fwX10_16 ?_
  refine ev_iload_n (i := 1) dX10_change_16 rfl rfl ?_
  refine ev_iaS (a := 0) (j := 0) dX10_change_17 (by decide) (by decide) (by decide) ?_
  refine ev_gets (i := 1) dX10_change_18 (by decide) fwX10_19 ?_
  refine ev_iload_n (i := 1) dX10_change_21 rfl rfl ?_
  refine ev_iaS (a := 1) (j := 0) dX10_change_22 (by decide) (by decide) (by decide) ?_
  refine ev_c3 kX10_change_23 (c12_within (lo := 0) (hi := 20)) trivial (by decide) (by decide) (Nat.le_of_ble_eq_true rfl) ?_
  refine ev_if_neb (tgt := 32) dX10_change_26 (by decide) (fun h26 => False.elim (Bool.false_ne_true ((hv).symm.trans h26))) (fun h26 => ?_)
  refine ev_ldc dX10_change_29 coX10_15 ?_
  exact ev_reti dX10_change_31 rfl rfl (⟨by first | rfl | simp [*], rfl⟩)
theorem c12_tune_0_no {G : ev_G} {n : Nat} {M : ev_M} {g g' : Nat} {lot : Int32} (h20 : M 21 = .inr (11, [.ref 22, .ref 25, .ref 27, .ref 35, .ref 39, .ref 40, .ref 41, .ref 63, .ref g, .ref g', .int lot])) {tu : Nat → Int32} (hT : M 25 = .inr (10, [.ref 26])) (hV : M 26 = .inl (0, 4, .inl tu)) {v : Int32} (hv : sp_in v 0 20 = false) : ev_Cal G mX11_tune 3 0 0 [.ref 21, .int 0, .int v] n M (ev_is (some (.int (-1000000))) M) := by
  refine ev_Cal_of (L := [some (.ref 21), some (.int 0), some (.int v)]) (by decide +kernel) (Nat.le_of_ble_eq_true rfl) rfl ?_
  refine ev_aload_n (i := 0) dX11_tune_0 rfl rfl ?_
  refine ev_getf dX11_tune_1 flX11_19 (by first | assumption | rfl) (by rfl) ?_
  refine ev_iload_n (i := 1) dX11_tune_4 rfl rfl ?_
  refine ev_iload_n (i := 2) dX11_tune_5 rfl rfl ?_
  refine ev_c3 kX11_tune_6 (c11_change_0_no hT hV hv) (ev_rv_of (by first | assumption | rfl) rfl rfl) (by decide) (by decide) (Nat.le_of_ble_eq_true rfl) ?_
  exact ev_reti dX11_tune_9 rfl rfl (⟨by first | rfl | simp [*], rfl⟩)
theorem c11_change_1 {G : ev_G} {n : Nat} {M : ev_M} {tu : Nat → Int32} (hT : M 25 = .inr (10, [.ref 26])) (hV : M 26 = .inl (0, 4, .inl tu)) {v : Int32} (hv : sp_in v 0 60 = true) : ev_Cal G mX10_change 2 0 0 [.ref 25, .int 1, .int v] n M (ev_is (some (.int (tu 1))) (ev_set M 26 (.inl (0, 4, .inl (upd tu 1 v))))) := by
  refine ev_Cal_of (L := [some (.ref 25), some (.int 1), some (.int v), none]) (by decide +kernel) (Nat.le_of_ble_eq_true rfl) rfl ?_
  refine ev_iload_n (i := 1) dX10_change_0 rfl rfl ?_
  refine ev_if_lt (tgt := 9) dX10_change_1 (by decide) (fun h1 => False.elim (absurd h1 (by decide))) (fun h1 => ?_)
  refine ev_iload_n (i := 1) dX10_change_4 rfl rfl ?_
  refine ev_iconst (v := 3) dX10_change_5 cni_3 ?_
  refine ev_icmp_le (tgt := 12) dX10_change_6 (by decide) (fun h6 => ?_) (fun h6 => False.elim (absurd h6 (by decide)))
  refine ev_iload_n (i := 2) dX10_change_12 rfl rfl ?_
  refine ev_gets (i := 0) dX10_change_13 (by decide) fwX10_16 ?_
  refine ev_iload_n (i := 1) dX10_change_16 rfl rfl ?_
  refine ev_iaS (a := 0) (j := 1) dX10_change_17 (by decide) (by decide) (by decide) ?_
  refine ev_gets (i := 1) dX10_change_18 (by decide) fwX10_19 ?_
  refine ev_iload_n (i := 1) dX10_change_21 rfl rfl ?_
  refine ev_iaS (a := 1) (j := 1) dX10_change_22 (by decide) (by decide) (by decide) ?_
  refine ev_c3 kX10_change_23 (c12_within (lo := 0) (hi := 60)) trivial (by decide) (by decide) (Nat.le_of_ble_eq_true rfl) ?_
  refine ev_if_neb (tgt := 32) dX10_change_26 (by decide) (fun h26 => ?_) (fun h26 => False.elim (Bool.false_ne_true (h26.symm.trans (hv))))
  refine ev_aload_n (i := 0) dX10_change_32 rfl rfl ?_
  refine ev_getf dX10_change_33 flX10_9 (by first | assumption | rfl) (by rfl) ?_
  refine ev_iload_n (i := 1) dX10_change_36 rfl rfl ?_
  refine ev_iald (j := 1) dX10_change_37 (by first | assumption | rfl) (by decide) (by decide) ?_
  refine ev_istore_n (i := 3) dX10_change_38 rfl (Nat.le_of_ble_eq_true rfl) rfl ?_
  refine ev_aload_n (i := 0) dX10_change_39 rfl rfl ?_
  refine ev_getf dX10_change_40 flX10_9 (by first | assumption | rfl) (by rfl) ?_
  refine ev_iload_n (i := 1) dX10_change_43 rfl rfl ?_
  refine ev_iload_n (i := 2) dX10_change_44 rfl rfl ?_
  refine ev_iast (j := 1) dX10_change_45 (by first | assumption | rfl) (by decide) (by decide) ?_
  refine ev_iload_n (i := 3) dX10_change_46 rfl rfl ?_
  exact ev_reti dX10_change_47 rfl rfl (⟨by first | rfl | simp [*], rfl⟩)
theorem c12_tune_1 {G : ev_G} {n : Nat} {M : ev_M} {g g' : Nat} {lot : Int32} (h20 : M 21 = .inr (11, [.ref 22, .ref 25, .ref 27, .ref 35, .ref 39, .ref 40, .ref 41, .ref 63, .ref g, .ref g', .int lot])) {tu : Nat → Int32} (hT : M 25 = .inr (10, [.ref 26])) (hV : M 26 = .inl (0, 4, .inl tu)) {v : Int32} (hv : sp_in v 0 60 = true) : ev_Cal G mX11_tune 3 0 0 [.ref 21, .int 1, .int v] n M (ev_is (some (.int (tu 1))) (ev_set M 26 (.inl (0, 4, .inl (upd tu 1 v))))) := by
  refine ev_Cal_of (L := [some (.ref 21), some (.int 1), some (.int v)]) (by decide +kernel) (Nat.le_of_ble_eq_true rfl) rfl ?_
  refine ev_aload_n (i := 0) dX11_tune_0 rfl rfl ?_
  refine ev_getf dX11_tune_1 flX11_19 (by first | assumption | rfl) (by rfl) ?_
  refine ev_iload_n (i := 1) dX11_tune_4 rfl rfl ?_
  refine ev_iload_n (i := 2) dX11_tune_5 rfl rfl ?_
  refine ev_c3 kX11_tune_6 (c11_change_1 hT hV hv) (ev_rv_of (by first | assumption | rfl) rfl rfl) (by decide) (by decide) (Nat.le_of_ble_eq_true rfl) ?_
  exact ev_reti dX11_tune_9 rfl rfl (⟨by first | rfl | simp [*], rfl⟩)
theorem c11_change_1_no {G : ev_G} {n : Nat} {M : ev_M} {tu : Nat → Int32} (hT : M 25 = .inr (10, [.ref 26])) (hV : M 26 = .inl (0, 4, .inl tu)) {v : Int32} (hv : sp_in v 0 60 = false) : ev_Cal G mX10_change 2 0 0 [.ref 25, .int 1, .int v] n M (ev_is (some (.int (-1000000))) M) := by
  refine ev_Cal_of (L := [some (.ref 25), some (.int 1), some (.int v), none]) (by decide +kernel) (Nat.le_of_ble_eq_true rfl) rfl ?_
  refine ev_iload_n (i := 1) dX10_change_0 rfl rfl ?_
  refine ev_if_lt (tgt := 9) dX10_change_1 (by decide) (fun h1 => False.elim (absurd h1 (by decide))) (fun h1 => ?_)
  refine ev_iload_n (i := 1) dX10_change_4 rfl rfl ?_
  refine ev_iconst (v := 3) dX10_change_5 cni_3 ?_
  refine ev_icmp_le (tgt := 12) dX10_change_6 (by decide) (fun h6 => ?_) (fun h6 => False.elim (absurd h6 (by decide)))
  refine ev_iload_n (i := 2) dX10_change_12 rfl rfl ?_
  refine ev_gets (i := 0) dX10_change_13 (by decide) fwX10_16 ?_
  refine ev_iload_n (i := 1) dX10_change_16 rfl rfl ?_
  refine ev_iaS (a := 0) (j := 1) dX10_change_17 (by decide) (by decide) (by decide) ?_
  refine ev_gets (i := 1) dX10_change_18 (by decide) fwX10_19 ?_
  refine ev_iload_n (i := 1) dX10_change_21 rfl rfl ?_
  refine ev_iaS (a := 1) (j := 1) dX10_change_22 (by decide) (by decide) (by decide) ?_
  refine ev_c3 kX10_change_23 (c12_within (lo := 0) (hi := 60)) trivial (by decide) (by decide) (Nat.le_of_ble_eq_true rfl) ?_
  refine ev_if_neb (tgt := 32) dX10_change_26 (by decide) (fun h26 => False.elim (Bool.false_ne_true ((hv).symm.trans h26))) (fun h26 => ?_)
  refine ev_ldc dX10_change_29 coX10_15 ?_
  exact ev_reti dX10_change_31 rfl rfl (⟨by first | rfl | simp [*], rfl⟩)
theorem c12_tune_1_no {G : ev_G} {n : Nat} {M : ev_M} {g g' : Nat} {lot : Int32} (h20 : M 21 = .inr (11, [.ref 22, .ref 25, .ref 27, .ref 35, .ref 39, .ref 40, .ref 41, .ref 63, .ref g, .ref g', .int lot])) {tu : Nat → Int32} (hT : M 25 = .inr (10, [.ref 26])) (hV : M 26 = .inl (0, 4, .inl tu)) {v : Int32} (hv : sp_in v 0 60 = false) : ev_Cal G mX11_tune 3 0 0 [.ref 21, .int 1, .int v] n M (ev_is (some (.int (-1000000))) M) := by
  refine ev_Cal_of (L := [some (.ref 21), some (.int 1), some (.int v)]) (by decide +kernel) (Nat.le_of_ble_eq_true rfl) rfl ?_
  refine ev_aload_n (i := 0) dX11_tune_0 rfl rfl ?_
  refine ev_getf dX11_tune_1 flX11_19 (by first | assumption | rfl) (by rfl) ?_
  refine ev_iload_n (i := 1) dX11_tune_4 rfl rfl ?_
  refine ev_iload_n (i := 2) dX11_tune_5 rfl rfl ?_
  refine ev_c3 kX11_tune_6 (c11_change_1_no hT hV hv) (ev_rv_of (by first | assumption | rfl) rfl rfl) (by decide) (by decide) (Nat.le_of_ble_eq_true rfl) ?_
  exact ev_reti dX11_tune_9 rfl rfl (⟨by first | rfl | simp [*], rfl⟩)
theorem c11_change_2 {G : ev_G} {n : Nat} {M : ev_M} {tu : Nat → Int32} (hT : M 25 = .inr (10, [.ref 26])) (hV : M 26 = .inl (0, 4, .inl tu)) {v : Int32} (hv : sp_in v 0 30 = true) : ev_Cal G mX10_change 2 0 0 [.ref 25, .int 2, .int v] n M (ev_is (some (.int (tu 2))) (ev_set M 26 (.inl (0, 4, .inl (upd tu 2 v))))) := by
  refine ev_Cal_of (L := [some (.ref 25), some (.int 2), some (.int v), none]) (by decide +kernel) (Nat.le_of_ble_eq_true rfl) rfl ?_
  refine ev_iload_n (i := 1) dX10_change_0 rfl rfl ?_
  refine ev_if_lt (tgt := 9) dX10_change_1 (by decide) (fun h1 => False.elim (absurd h1 (by decide))) (fun h1 => ?_)
  refine ev_iload_n (i := 1) dX10_change_4 rfl rfl ?_
  refine ev_iconst (v := 3) dX10_change_5 cni_3 ?_
  refine ev_icmp_le (tgt := 12) dX10_change_6 (by decide) (fun h6 => ?_) (fun h6 => False.elim (absurd h6 (by decide)))
  refine ev_iload_n (i := 2) dX10_change_12 rfl rfl ?_
  refine ev_gets (i := 0) dX10_change_13 (by decide) fwX10_16 ?_
  refine ev_iload_n (i := 1) dX10_change_16 rfl rfl ?_
  refine ev_iaS (a := 0) (j := 2) dX10_change_17 (by decide) (by decide) (by decide) ?_
  refine ev_gets (i := 1) dX10_change_18 (by decide) fwX10_19 ?_
  refine ev_iload_n (i := 1) dX10_change_21 rfl rfl ?_
  refine ev_iaS (a := 1) (j := 2) dX10_change_22 (by decide) (by decide) (by decide) ?_
  refine ev_c3 kX10_change_23 (c12_within (lo := 0) (hi := 30)) trivial (by decide) (by decide) (Nat.le_of_ble_eq_true rfl) ?_
  refine ev_if_neb (tgt := 32) dX10_change_26 (by decide) (fun h26 => ?_) (fun h26 => False.elim (Bool.false_ne_true (h26.symm.trans (hv))))
  refine ev_aload_n (i := 0) dX10_change_32 rfl rfl ?_
  refine ev_getf dX10_change_33 flX10_9 (by first | assumption | rfl) (by rfl) ?_
  refine ev_iload_n (i := 1) dX10_change_36 rfl rfl ?_
  refine ev_iald (j := 2) dX10_change_37 (by first | assumption | rfl) (by decide) (by decide) ?_
  refine ev_istore_n (i := 3) dX10_change_38 rfl (Nat.le_of_ble_eq_true rfl) rfl ?_
  refine ev_aload_n (i := 0) dX10_change_39 rfl rfl ?_
  refine ev_getf dX10_change_40 flX10_9 (by first | assumption | rfl) (by rfl) ?_
  refine ev_iload_n (i := 1) dX10_change_43 rfl rfl ?_
  refine ev_iload_n (i := 2) dX10_change_44 rfl rfl ?_
  refine ev_iast (j := 2) dX10_change_45 (by first | assumption | rfl) (by decide) (by decide) ?_
  refine ev_iload_n (i := 3) dX10_change_46 rfl rfl ?_
  exact ev_reti dX10_change_47 rfl rfl (⟨by first | rfl | simp [*], rfl⟩)
theorem c12_tune_2 {G : ev_G} {n : Nat} {M : ev_M} {g g' : Nat} {lot : Int32} (h20 : M 21 = .inr (11, [.ref 22, .ref 25, .ref 27, .ref 35, .ref 39, .ref 40, .ref 41, .ref 63, .ref g, .ref g', .int lot])) {tu : Nat → Int32} (hT : M 25 = .inr (10, [.ref 26])) (hV : M 26 = .inl (0, 4, .inl tu)) {v : Int32} (hv : sp_in v 0 30 = true) : ev_Cal G mX11_tune 3 0 0 [.ref 21, .int 2, .int v] n M (ev_is (some (.int (tu 2))) (ev_set M 26 (.inl (0, 4, .inl (upd tu 2 v))))) := by
  refine ev_Cal_of (L := [some (.ref 21), some (.int 2), some (.int v)]) (by decide +kernel) (Nat.le_of_ble_eq_true rfl) rfl ?_
  refine ev_aload_n (i := 0) dX11_tune_0 rfl rfl ?_
  refine ev_getf dX11_tune_1 flX11_19 (by first | assumption | rfl) (by rfl) ?_
  refine ev_iload_n (i := 1) dX11_tune_4 rfl rfl ?_
  refine ev_iload_n (i := 2) dX11_tune_5 rfl rfl ?_
  refine ev_c3 kX11_tune_6 (c11_change_2 hT hV hv) (ev_rv_of (by first | assumption | rfl) rfl rfl) (by decide) (by decide) (Nat.le_of_ble_eq_true rfl) ?_
  exact ev_reti dX11_tune_9 rfl rfl (⟨by first | rfl | simp [*], rfl⟩)
theorem c11_change_2_no {G : ev_G} {n : Nat} {M : ev_M} {tu : Nat → Int32} (hT : M 25 = .inr (10, [.ref 26])) (hV : M 26 = .inl (0, 4, .inl tu)) {v : Int32} (hv : sp_in v 0 30 = false) : ev_Cal G mX10_change 2 0 0 [.ref 25, .int 2, .int v] n M (ev_is (some (.int (-1000000))) M) := by
  refine ev_Cal_of (L := [some (.ref 25), some (.int 2), some (.int v), none]) (by decide +kernel) (Nat.le_of_ble_eq_true rfl) rfl ?_
  refine ev_iload_n (i := 1) dX10_change_0 rfl rfl ?_
  refine ev_if_lt (tgt := 9) dX10_change_1 (by decide) (fun h1 => False.elim (absurd h1 (by decide))) (fun h1 => ?_)
  refine ev_iload_n (i := 1) dX10_change_4 rfl rfl ?_
  refine ev_iconst (v := 3) dX10_change_5 cni_3 ?_
  refine ev_icmp_le (tgt := 12) dX10_change_6 (by decide) (fun h6 => ?_) (fun h6 => False.elim (absurd h6 (by decide)))
  refine ev_iload_n (i := 2) dX10_change_12 rfl rfl ?_
  refine ev_gets (i := 0) dX10_change_13 (by decide) fwX10_16 ?_
  refine ev_iload_n (i := 1) dX10_change_16 rfl rfl ?_
  refine ev_iaS (a := 0) (j := 2) dX10_change_17 (by decide) (by decide) (by decide) ?_
  refine ev_gets (i := 1) dX10_change_18 (by decide) fwX10_19 ?_
  refine ev_iload_n (i := 1) dX10_change_21 rfl rfl ?_
  refine ev_iaS (a := 1) (j := 2) dX10_change_22 (by decide) (by decide) (by decide) ?_
  refine ev_c3 kX10_change_23 (c12_within (lo := 0) (hi := 30)) trivial (by decide) (by decide) (Nat.le_of_ble_eq_true rfl) ?_
  refine ev_if_neb (tgt := 32) dX10_change_26 (by decide) (fun h26 => False.elim (Bool.false_ne_true ((hv).symm.trans h26))) (fun h26 => ?_)
  refine ev_ldc dX10_change_29 coX10_15 ?_
  exact ev_reti dX10_change_31 rfl rfl (⟨by first | rfl | simp [*], rfl⟩)
theorem c12_tune_2_no {G : ev_G} {n : Nat} {M : ev_M} {g g' : Nat} {lot : Int32} (h20 : M 21 = .inr (11, [.ref 22, .ref 25, .ref 27, .ref 35, .ref 39, .ref 40, .ref 41, .ref 63, .ref g, .ref g', .int lot])) {tu : Nat → Int32} (hT : M 25 = .inr (10, [.ref 26])) (hV : M 26 = .inl (0, 4, .inl tu)) {v : Int32} (hv : sp_in v 0 30 = false) : ev_Cal G mX11_tune 3 0 0 [.ref 21, .int 2, .int v] n M (ev_is (some (.int (-1000000))) M) := by
  refine ev_Cal_of (L := [some (.ref 21), some (.int 2), some (.int v)]) (by decide +kernel) (Nat.le_of_ble_eq_true rfl) rfl ?_
  refine ev_aload_n (i := 0) dX11_tune_0 rfl rfl ?_
  refine ev_getf dX11_tune_1 flX11_19 (by first | assumption | rfl) (by rfl) ?_
  refine ev_iload_n (i := 1) dX11_tune_4 rfl rfl ?_
  refine ev_iload_n (i := 2) dX11_tune_5 rfl rfl ?_
  refine ev_c3 kX11_tune_6 (c11_change_2_no hT hV hv) (ev_rv_of (by first | assumption | rfl) rfl rfl) (by decide) (by decide) (Nat.le_of_ble_eq_true rfl) ?_
  exact ev_reti dX11_tune_9 rfl rfl (⟨by first | rfl | simp [*], rfl⟩)
theorem c11_change_3 {G : ev_G} {n : Nat} {M : ev_M} {tu : Nat → Int32} (hT : M 25 = .inr (10, [.ref 26])) (hV : M 26 = .inl (0, 4, .inl tu)) {v : Int32} (hv : sp_in v (-9) 9 = true) : ev_Cal G mX10_change 2 0 0 [.ref 25, .int 3, .int v] n M (ev_is (some (.int (tu 3))) (ev_set M 26 (.inl (0, 4, .inl (upd tu 3 v))))) := by
  refine ev_Cal_of (L := [some (.ref 25), some (.int 3), some (.int v), none]) (by decide +kernel) (Nat.le_of_ble_eq_true rfl) rfl ?_
  refine ev_iload_n (i := 1) dX10_change_0 rfl rfl ?_
  refine ev_if_lt (tgt := 9) dX10_change_1 (by decide) (fun h1 => False.elim (absurd h1 (by decide))) (fun h1 => ?_)
  refine ev_iload_n (i := 1) dX10_change_4 rfl rfl ?_
  refine ev_iconst (v := 3) dX10_change_5 cni_3 ?_
  refine ev_icmp_le (tgt := 12) dX10_change_6 (by decide) (fun h6 => ?_) (fun h6 => False.elim (absurd h6 (by decide)))
  refine ev_iload_n (i := 2) dX10_change_12 rfl rfl ?_
  refine ev_gets (i := 0) dX10_change_13 (by decide) fwX10_16 ?_
  refine ev_iload_n (i := 1) dX10_change_16 rfl rfl ?_
  refine ev_iaS (a := 0) (j := 3) dX10_change_17 (by decide) (by decide) (by decide) ?_
  refine ev_gets (i := 1) dX10_change_18 (by decide) fwX10_19 ?_
  refine ev_iload_n (i := 1) dX10_change_21 rfl rfl ?_
  refine ev_iaS (a := 1) (j := 3) dX10_change_22 (by decide) (by decide) (by decide) ?_
  refine ev_c3 kX10_change_23 (c12_within (lo := (-9)) (hi := 9)) trivial (by decide) (by decide) (Nat.le_of_ble_eq_true rfl) ?_
  refine ev_if_neb (tgt := 32) dX10_change_26 (by decide) (fun h26 => ?_) (fun h26 => False.elim (Bool.false_ne_true (h26.symm.trans (hv))))
  refine ev_aload_n (i := 0) dX10_change_32 rfl rfl ?_
  refine ev_getf dX10_change_33 flX10_9 (by first | assumption | rfl) (by rfl) ?_
  refine ev_iload_n (i := 1) dX10_change_36 rfl rfl ?_
  refine ev_iald (j := 3) dX10_change_37 (by first | assumption | rfl) (by decide) (by decide) ?_
  refine ev_istore_n (i := 3) dX10_change_38 rfl (Nat.le_of_ble_eq_true rfl) rfl ?_
  refine ev_aload_n (i := 0) dX10_change_39 rfl rfl ?_
  refine ev_getf dX10_change_40 flX10_9 (by first | assumption | rfl) (by rfl) ?_
  refine ev_iload_n (i := 1) dX10_change_43 rfl rfl ?_
  refine ev_iload_n (i := 2) dX10_change_44 rfl rfl ?_
  refine ev_iast (j := 3) dX10_change_45 (by first | assumption | rfl) (by decide) (by decide) ?_
  refine ev_iload_n (i := 3) dX10_change_46 rfl rfl ?_
  exact ev_reti dX10_change_47 rfl rfl (⟨by first | rfl | simp [*], rfl⟩)
theorem c12_tune_3 {G : ev_G} {n : Nat} {M : ev_M} {g g' : Nat} {lot : Int32} (h20 : M 21 = .inr (11, [.ref 22, .ref 25, .ref 27, .ref 35, .ref 39, .ref 40, .ref 41, .ref 63, .ref g, .ref g', .int lot])) {tu : Nat → Int32} (hT : M 25 = .inr (10, [.ref 26])) (hV : M 26 = .inl (0, 4, .inl tu)) {v : Int32} (hv : sp_in v (-9) 9 = true) : ev_Cal G mX11_tune 3 0 0 [.ref 21, .int 3, .int v] n M (ev_is (some (.int (tu 3))) (ev_set M 26 (.inl (0, 4, .inl (upd tu 3 v))))) := by
  refine ev_Cal_of (L := [some (.ref 21), some (.int 3), some (.int v)]) (by decide +kernel) (Nat.le_of_ble_eq_true rfl) rfl ?_
  refine ev_aload_n (i := 0) dX11_tune_0 rfl rfl ?_
  refine ev_getf dX11_tune_1 flX11_19 (by first | assumption | rfl) (by rfl) ?_
  refine ev_iload_n (i := 1) dX11_tune_4 rfl rfl ?_
  refine ev_iload_n (i := 2) dX11_tune_5 rfl rfl ?_
  refine ev_c3 kX11_tune_6 (c11_change_3 hT hV hv) (ev_rv_of (by first | assumption | rfl) rfl rfl) (by decide) (by decide) (Nat.le_of_ble_eq_true rfl) ?_
  exact ev_reti dX11_tune_9 rfl rfl (⟨by first | rfl | simp [*], rfl⟩)
theorem c11_change_3_no {G : ev_G} {n : Nat} {M : ev_M} {tu : Nat → Int32} (hT : M 25 = .inr (10, [.ref 26])) (hV : M 26 = .inl (0, 4, .inl tu)) {v : Int32} (hv : sp_in v (-9) 9 = false) : ev_Cal G mX10_change 2 0 0 [.ref 25, .int 3, .int v] n M (ev_is (some (.int (-1000000))) M) := by
  refine ev_Cal_of (L := [some (.ref 25), some (.int 3), some (.int v), none]) (by decide +kernel) (Nat.le_of_ble_eq_true rfl) rfl ?_
  refine ev_iload_n (i := 1) dX10_change_0 rfl rfl ?_
  refine ev_if_lt (tgt := 9) dX10_change_1 (by decide) (fun h1 => False.elim (absurd h1 (by decide))) (fun h1 => ?_)
  refine ev_iload_n (i := 1) dX10_change_4 rfl rfl ?_
  refine ev_iconst (v := 3) dX10_change_5 cni_3 ?_
  refine ev_icmp_le (tgt := 12) dX10_change_6 (by decide) (fun h6 => ?_) (fun h6 => False.elim (absurd h6 (by decide)))
  refine ev_iload_n (i := 2) dX10_change_12 rfl rfl ?_
  refine ev_gets (i := 0) dX10_change_13 (by decide) fwX10_16 ?_
  refine ev_iload_n (i := 1) dX10_change_16 rfl rfl ?_
  refine ev_iaS (a := 0) (j := 3) dX10_change_17 (by decide) (by decide) (by decide) ?_
  refine ev_gets (i := 1) dX10_change_18 (by decide) fwX10_19 ?_
  refine ev_iload_n (i := 1) dX10_change_21 rfl rfl ?_
  refine ev_iaS (a := 1) (j := 3) dX10_change_22 (by decide) (by decide) (by decide) ?_
  refine ev_c3 kX10_change_23 (c12_within (lo := (-9)) (hi := 9)) trivial (by decide) (by decide) (Nat.le_of_ble_eq_true rfl) ?_
  refine ev_if_neb (tgt := 32) dX10_change_26 (by decide) (fun h26 => False.elim (Bool.false_ne_true ((hv).symm.trans h26))) (fun h26 => ?_)
  refine ev_ldc dX10_change_29 coX10_15 ?_
  exact ev_reti dX10_change_31 rfl rfl (⟨by first | rfl | simp [*], rfl⟩)
theorem c12_tune_3_no {G : ev_G} {n : Nat} {M : ev_M} {g g' : Nat} {lot : Int32} (h20 : M 21 = .inr (11, [.ref 22, .ref 25, .ref 27, .ref 35, .ref 39, .ref 40, .ref 41, .ref 63, .ref g, .ref g', .int lot])) {tu : Nat → Int32} (hT : M 25 = .inr (10, [.ref 26])) (hV : M 26 = .inl (0, 4, .inl tu)) {v : Int32} (hv : sp_in v (-9) 9 = false) : ev_Cal G mX11_tune 3 0 0 [.ref 21, .int 3, .int v] n M (ev_is (some (.int (-1000000))) M) := by
  refine ev_Cal_of (L := [some (.ref 21), some (.int 3), some (.int v)]) (by decide +kernel) (Nat.le_of_ble_eq_true rfl) rfl ?_
  refine ev_aload_n (i := 0) dX11_tune_0 rfl rfl ?_
  refine ev_getf dX11_tune_1 flX11_19 (by first | assumption | rfl) (by rfl) ?_
  refine ev_iload_n (i := 1) dX11_tune_4 rfl rfl ?_
  refine ev_iload_n (i := 2) dX11_tune_5 rfl rfl ?_
  refine ev_c3 kX11_tune_6 (c11_change_3_no hT hV hv) (ev_rv_of (by first | assumption | rfl) rfl rfl) (by decide) (by decide) (Nat.le_of_ble_eq_true rfl) ?_
  exact ev_reti dX11_tune_9 rfl rfl (⟨by first | rfl | simp [*], rfl⟩)
theorem c11_change_w {G : ev_G} {n : Nat} {M : ev_M} {tu : Nat → Int32} (hT : M 25 = .inr (10, [.ref 26])) (hV : M 26 = .inl (0, 4, .inl tu)) {w v : Int32} (hw : w < 0 ∨ 3 < w) : ev_Cal G mX10_change 2 0 0 [.ref 25, .int w, .int v] n M (ev_is (some (.int (-1000000))) M) := by
  refine ev_Cal_of (L := [some (.ref 25), some (.int w), some (.int v), none]) (by decide +kernel) (Nat.le_of_ble_eq_true rfl) rfl ?_
  refine ev_iload_n (i := 1) dX10_change_0 rfl rfl ?_
  refine ev_if_lt (tgt := 9) dX10_change_1 (by decide) (fun h1 => ?_) (fun h1 => ?_)
  · skip
    refine ev_ldc dX10_change_9 coX10_15 ?_
    exact ev_reti dX10_change_11 rfl rfl (⟨by first | rfl | simp [*], rfl⟩)
  · skip
    refine ev_iload_n (i := 1) dX10_change_4 rfl rfl ?_
    refine ev_iconst (v := 3) dX10_change_5 cni_3 ?_
    refine ev_icmp_le (tgt := 12) dX10_change_6 (by decide) (fun h6 => False.elim (hw.elim (fun q => Int32.not_lt.mpr h1 q) (fun q => Int32.not_lt.mpr h6 q))) (fun h6 => ?_)
    refine ev_ldc dX10_change_9 coX10_15 ?_
    exact ev_reti dX10_change_11 rfl rfl (⟨by first | rfl | simp [*], rfl⟩)
theorem c12_tune_w {G : ev_G} {n : Nat} {M : ev_M} {g g' : Nat} {lot : Int32} (h20 : M 21 = .inr (11, [.ref 22, .ref 25, .ref 27, .ref 35, .ref 39, .ref 40, .ref 41, .ref 63, .ref g, .ref g', .int lot])) {tu : Nat → Int32} (hT : M 25 = .inr (10, [.ref 26])) (hV : M 26 = .inl (0, 4, .inl tu)) {w v : Int32} (hw : w < 0 ∨ 3 < w) : ev_Cal G mX11_tune 3 0 0 [.ref 21, .int w, .int v] n M (ev_is (some (.int (-1000000))) M) := by
  refine ev_Cal_of (L := [some (.ref 21), some (.int w), some (.int v)]) (by decide +kernel) (Nat.le_of_ble_eq_true rfl) rfl ?_
  refine ev_aload_n (i := 0) dX11_tune_0 rfl rfl ?_
  refine ev_getf dX11_tune_1 flX11_19 (by first | assumption | rfl) (by rfl) ?_
  refine ev_iload_n (i := 1) dX11_tune_4 rfl rfl ?_
  refine ev_iload_n (i := 2) dX11_tune_5 rfl rfl ?_
  refine ev_c3 kX11_tune_6 (c11_change_w hT hV hw) (ev_rv_of (by first | assumption | rfl) rfl rfl) (by decide) (by decide) (Nat.le_of_ble_eq_true rfl) ?_
  exact ev_reti dX11_tune_9 rfl rfl (⟨by first | rfl | simp [*], rfl⟩)
def sp_spr (st xs : Nat → Int32) (i : Int32) : Nat → Bool × Int32 × Int32
  | 0 => (false, 0, 0)
  | k + 1 => if st k = i then (true, (bif (sp_spr st xs i k).1 then sp_min (sp_spr st xs i k).2.1 (xs k) else xs k), (bif (sp_spr st xs i k).1 then sp_max (sp_spr st xs i k).2.2 (xs k) else xs k)) else sp_spr st xs i k
theorem sp_spr_0 {st xs : Nat → Int32} {i : Int32} {k : Nat} (h : ¬ st k = i) : sp_spr st xs i (k + 1) = sp_spr st xs i k := by rw [sp_spr, if_neg h]
theorem sp_spr_t {st xs : Nat → Int32} {i : Int32} {k : Nat} (h : st k = i) (h2 : (sp_spr st xs i k).1 = true) : sp_spr st xs i (k + 1) = (true, sp_min (sp_spr st xs i k).2.1 (xs k), sp_max (sp_spr st xs i k).2.2 (xs k)) := by rw [sp_spr, if_pos h, h2]; rfl
theorem sp_spr_f {st xs : Nat → Int32} {i : Int32} {k : Nat} (h : st k = i) (h2 : (sp_spr st xs i k).1 = false) : sp_spr st xs i (k + 1) = (true, xs k, xs k) := by rw [sp_spr, if_pos h, h2]; rfl
def sp_spread (st xs : Nat → Int32) (i : Int32) (n : Nat) : Int32 := bif (sp_spr st xs i n).1 then (sp_spr st xs i n).2.2 - (sp_spr st xs i n).2.1 else -9
theorem l8_spreadOf {G : ev_G} {n : Nat} {M : ev_M} {up dn : Int64} {f0 f1 f2 f3 f4 f5 f6 : Nat → Int32} {sz : Nat} (hz : M (27) = .inr (8, [.ref (27 + 1), .ref (27 + 2), .ref (27 + 3), .ref (27 + 4), .ref (27 + 5), .ref (27 + 6), .ref (27 + 7), .long up, .long dn, .int (nI sz)])) (z0 : M (27 + 1) = .inl (0, 60, .inl f0)) (z1 : M (27 + 2) = .inl (0, 60, .inl f1)) (z2 : M (27 + 3) = .inl (0, 60, .inl f2)) (z3 : M (27 + 4) = .inl (0, 60, .inl f3)) (z4 : M (27 + 5) = .inl (0, 60, .inl f4)) (z5 : M (27 + 6) = .inl (0, 12, .inl f5)) (z6 : M (27 + 7) = .inl (0, 12, .inl f6)) {i : Int32} (hsz : sz ≤ 60) : ∀ (m k : Nat), k + m = sz → ev_E G mX8_spreadOf 1 0 0 n M 10 [some (.ref 27), some (.int i), some (.int (sp_spr f0 f3 i (k)).2.1), some (.int (sp_spr f0 f3 i (k)).2.2), some (.int (ev_b (sp_spr f0 f3 i (k)).1)), some (.int (nI (k)))] [] (ev_is (some (.int (sp_spread f0 f3 i sz))) M) := by
  intro m
  induction m with
  | zero =>
    intro k hk
    refine ev_iload dX8_spreadOf_10 rfl ?_
    refine ev_aload_n (i := 0) dX8_spreadOf_12 rfl rfl ?_
    refine ev_getf dX8_spreadOf_13 flX8_33 (by first | assumption | rfl) (by rfl) ?_
    refine ev_icmp_ge (tgt := 96) dX8_spreadOf_16 (by decide) (fun h16 => ?_) (fun h16 => False.elim (nI_nlt (a := k) (b := sz) (by omega) (by omega) h16))
    refine ev_iload dX8_spreadOf_96 rfl ?_
    refine ev_if_eqb (tgt := 107) dX8_spreadOf_98 (by decide) (fun h98 => ?_) (fun h98 => ?_)
    · skip
      refine ev_bipush (v := (-9)) dX8_spreadOf_107 cnb_m9 ?_
      exact ev_reti dX8_spreadOf_109 rfl rfl (⟨by rw [show k = sz by omega] at h98; rw [sp_spread, h98]; first | rfl | (rw [show k = sz by omega]; rfl), rfl⟩)
    · skip
      refine ev_iload_n (i := 3) dX8_spreadOf_101 rfl rfl ?_
      refine ev_iload_n (i := 2) dX8_spreadOf_102 rfl rfl ?_
      refine ev_isub dX8_spreadOf_103 ?_
      refine ev_goto (tgt := 109) dX8_spreadOf_104 (by decide) ?_
      exact ev_reti dX8_spreadOf_109 rfl rfl (⟨by rw [show k = sz by omega] at h98; rw [sp_spread, h98]; first | rfl | (rw [show k = sz by omega]; rfl), rfl⟩)
  | succ m ih =>
    intro k hk
    refine ev_iload dX8_spreadOf_10 rfl ?_
    refine ev_aload_n (i := 0) dX8_spreadOf_12 rfl rfl ?_
    refine ev_getf dX8_spreadOf_13 flX8_33 (by first | assumption | rfl) (by rfl) ?_
    refine ev_icmp_ge (tgt := 96) dX8_spreadOf_16 (by decide) (fun h16 => False.elim (nI_ge (a := k) (b := sz) (by omega) (by omega) h16)) (fun h16 => ?_)
    refine ev_aload_n (i := 0) dX8_spreadOf_19 rfl rfl ?_
    refine ev_getf dX8_spreadOf_20 flX8_9 (by first | assumption | rfl) (by rfl) ?_
    refine ev_iload dX8_spreadOf_23 rfl ?_
    refine ev_iald (j := k) dX8_spreadOf_25 (by first | assumption | rfl) (ev_ix_nI (by omega)) (by omega) ?_
    refine ev_iload_n (i := 1) dX8_spreadOf_26 rfl rfl ?_
    refine ev_icmp_eq (tgt := 33) dX8_spreadOf_27 (by decide) (fun h27 => ?_) (fun h27 => ?_)
    · skip
      refine ev_iload dX8_spreadOf_33 rfl ?_
      refine ev_if_eqb (tgt := 52) dX8_spreadOf_35 (by decide) (fun h35 => ?_) (fun h35 => ?_)
      · skip
        refine ev_aload_n (i := 0) dX8_spreadOf_52 rfl rfl ?_
        refine ev_getf dX8_spreadOf_53 flX8_21 (by first | assumption | rfl) (by rfl) ?_
        refine ev_iload dX8_spreadOf_56 rfl ?_
        refine ev_iald (j := k) dX8_spreadOf_58 (by first | assumption | rfl) (ev_ix_nI (by omega)) (by omega) ?_
        refine ev_istore_n (i := 2) dX8_spreadOf_59 rfl (Nat.le_of_ble_eq_true rfl) rfl ?_
        refine ev_iload dX8_spreadOf_60 rfl ?_
        refine ev_if_eqb (tgt := 79) dX8_spreadOf_62 (by decide) (fun h62 => ?_) (fun h62 => ?_)
        · skip
          refine ev_aload_n (i := 0) dX8_spreadOf_79 rfl rfl ?_
          refine ev_getf dX8_spreadOf_80 flX8_21 (by first | assumption | rfl) (by rfl) ?_
          refine ev_iload dX8_spreadOf_83 rfl ?_
          refine ev_iald (j := k) dX8_spreadOf_85 (by first | assumption | rfl) (ev_ix_nI (by omega)) (by omega) ?_
          refine ev_istore_n (i := 3) dX8_spreadOf_86 rfl (Nat.le_of_ble_eq_true rfl) rfl ?_
          refine ev_iconst (v := 1) dX8_spreadOf_87 cni_1 ?_
          refine ev_istore dX8_spreadOf_88 (Nat.le_of_ble_eq_true rfl) rfl ?_
          refine ev_iinc (v := nI (k + 1)) dX8_spreadOf_90 rfl (nI_1 k) (Nat.le_of_ble_eq_true rfl) rfl ?_
          refine ev_goto (tgt := 10) dX8_spreadOf_93 (by decide) ?_
          first
          | exact absurd (h35.symm.trans h62) (by decide)
          | exact ev_loc (L2 := [some (.ref 27), some (.int i), some (.int (sp_spr f0 f3 i (k + 1)).2.1), some (.int (sp_spr f0 f3 i (k + 1)).2.2), some (.int (ev_b (sp_spr f0 f3 i (k + 1)).1)), some (.int (nI (k + 1)))]) (by first | (rw [sp_spr_t (k := k) h27 h35]; rfl) | (rw [sp_spr_f (k := k) h27 h35]; rfl) | (rw [sp_spr_0 (k := k) h27]; rfl)) (ih (k + 1) (by omega))
        · skip
          refine ev_iload_n (i := 3) dX8_spreadOf_65 rfl rfl ?_
          refine ev_aload_n (i := 0) dX8_spreadOf_66 rfl rfl ?_
          refine ev_getf dX8_spreadOf_67 flX8_21 (by first | assumption | rfl) (by rfl) ?_
          refine ev_iload dX8_spreadOf_70 rfl ?_
          refine ev_iald (j := k) dX8_spreadOf_72 (by first | assumption | rfl) (ev_ix_nI (by omega)) (by omega) ?_
          refine ev_max2 dX8_spreadOf_73 maX8_66 (by decide) (Nat.le_of_ble_eq_true rfl) ?_
          refine ev_goto (tgt := 86) dX8_spreadOf_76 (by decide) ?_
          refine ev_istore_n (i := 3) dX8_spreadOf_86 rfl (Nat.le_of_ble_eq_true rfl) rfl ?_
          refine ev_iconst (v := 1) dX8_spreadOf_87 cni_1 ?_
          refine ev_istore dX8_spreadOf_88 (Nat.le_of_ble_eq_true rfl) rfl ?_
          refine ev_iinc (v := nI (k + 1)) dX8_spreadOf_90 rfl (nI_1 k) (Nat.le_of_ble_eq_true rfl) rfl ?_
          refine ev_goto (tgt := 10) dX8_spreadOf_93 (by decide) ?_
          first
          | exact absurd (h35.symm.trans h62) (by decide)
          | exact ev_loc (L2 := [some (.ref 27), some (.int i), some (.int (sp_spr f0 f3 i (k + 1)).2.1), some (.int (sp_spr f0 f3 i (k + 1)).2.2), some (.int (ev_b (sp_spr f0 f3 i (k + 1)).1)), some (.int (nI (k + 1)))]) (by first | (rw [sp_spr_t (k := k) h27 h35]; rfl) | (rw [sp_spr_f (k := k) h27 h35]; rfl) | (rw [sp_spr_0 (k := k) h27]; rfl)) (ih (k + 1) (by omega))
      · skip
        refine ev_iload_n (i := 2) dX8_spreadOf_38 rfl rfl ?_
        refine ev_aload_n (i := 0) dX8_spreadOf_39 rfl rfl ?_
        refine ev_getf dX8_spreadOf_40 flX8_21 (by first | assumption | rfl) (by rfl) ?_
        refine ev_iload dX8_spreadOf_43 rfl ?_
        refine ev_iald (j := k) dX8_spreadOf_45 (by first | assumption | rfl) (ev_ix_nI (by omega)) (by omega) ?_
        refine ev_min2 dX8_spreadOf_46 maX8_60 (by decide) (Nat.le_of_ble_eq_true rfl) ?_
        refine ev_goto (tgt := 59) dX8_spreadOf_49 (by decide) ?_
        refine ev_istore_n (i := 2) dX8_spreadOf_59 rfl (Nat.le_of_ble_eq_true rfl) rfl ?_
        refine ev_iload dX8_spreadOf_60 rfl ?_
        refine ev_if_eqb (tgt := 79) dX8_spreadOf_62 (by decide) (fun h62 => ?_) (fun h62 => ?_)
        · skip
          refine ev_aload_n (i := 0) dX8_spreadOf_79 rfl rfl ?_
          refine ev_getf dX8_spreadOf_80 flX8_21 (by first | assumption | rfl) (by rfl) ?_
          refine ev_iload dX8_spreadOf_83 rfl ?_
          refine ev_iald (j := k) dX8_spreadOf_85 (by first | assumption | rfl) (ev_ix_nI (by omega)) (by omega) ?_
          refine ev_istore_n (i := 3) dX8_spreadOf_86 rfl (Nat.le_of_ble_eq_true rfl) rfl ?_
          refine ev_iconst (v := 1) dX8_spreadOf_87 cni_1 ?_
          refine ev_istore dX8_spreadOf_88 (Nat.le_of_ble_eq_true rfl) rfl ?_
          refine ev_iinc (v := nI (k + 1)) dX8_spreadOf_90 rfl (nI_1 k) (Nat.le_of_ble_eq_true rfl) rfl ?_
          refine ev_goto (tgt := 10) dX8_spreadOf_93 (by decide) ?_
          first
          | exact absurd (h35.symm.trans h62) (by decide)
          | exact ev_loc (L2 := [some (.ref 27), some (.int i), some (.int (sp_spr f0 f3 i (k + 1)).2.1), some (.int (sp_spr f0 f3 i (k + 1)).2.2), some (.int (ev_b (sp_spr f0 f3 i (k + 1)).1)), some (.int (nI (k + 1)))]) (by first | (rw [sp_spr_t (k := k) h27 h35]; rfl) | (rw [sp_spr_f (k := k) h27 h35]; rfl) | (rw [sp_spr_0 (k := k) h27]; rfl)) (ih (k + 1) (by omega))
        · skip
          refine ev_iload_n (i := 3) dX8_spreadOf_65 rfl rfl ?_
          refine ev_aload_n (i := 0) dX8_spreadOf_66 rfl rfl ?_
          refine ev_getf dX8_spreadOf_67 flX8_21 (by first | assumption | rfl) (by rfl) ?_
          refine ev_iload dX8_spreadOf_70 rfl ?_
          refine ev_iald (j := k) dX8_spreadOf_72 (by first | assumption | rfl) (ev_ix_nI (by omega)) (by omega) ?_
          refine ev_max2 dX8_spreadOf_73 maX8_66 (by decide) (Nat.le_of_ble_eq_true rfl) ?_
          refine ev_goto (tgt := 86) dX8_spreadOf_76 (by decide) ?_
          refine ev_istore_n (i := 3) dX8_spreadOf_86 rfl (Nat.le_of_ble_eq_true rfl) rfl ?_
          refine ev_iconst (v := 1) dX8_spreadOf_87 cni_1 ?_
          refine ev_istore dX8_spreadOf_88 (Nat.le_of_ble_eq_true rfl) rfl ?_
          refine ev_iinc (v := nI (k + 1)) dX8_spreadOf_90 rfl (nI_1 k) (Nat.le_of_ble_eq_true rfl) rfl ?_
          refine ev_goto (tgt := 10) dX8_spreadOf_93 (by decide) ?_
          first
          | exact absurd (h35.symm.trans h62) (by decide)
          | exact ev_loc (L2 := [some (.ref 27), some (.int i), some (.int (sp_spr f0 f3 i (k + 1)).2.1), some (.int (sp_spr f0 f3 i (k + 1)).2.2), some (.int (ev_b (sp_spr f0 f3 i (k + 1)).1)), some (.int (nI (k + 1)))]) (by first | (rw [sp_spr_t (k := k) h27 h35]; rfl) | (rw [sp_spr_f (k := k) h27 h35]; rfl) | (rw [sp_spr_0 (k := k) h27]; rfl)) (ih (k + 1) (by omega))
    · skip
      refine ev_goto (tgt := 90) dX8_spreadOf_30 (by decide) ?_
      refine ev_iinc (v := nI (k + 1)) dX8_spreadOf_90 rfl (nI_1 k) (Nat.le_of_ble_eq_true rfl) rfl ?_
      refine ev_goto (tgt := 10) dX8_spreadOf_93 (by decide) ?_
      first
      | exact absurd (h35.symm.trans h62) (by decide)
      | exact ev_loc (L2 := [some (.ref 27), some (.int i), some (.int (sp_spr f0 f3 i (k + 1)).2.1), some (.int (sp_spr f0 f3 i (k + 1)).2.2), some (.int (ev_b (sp_spr f0 f3 i (k + 1)).1)), some (.int (nI (k + 1)))]) (by first | (rw [sp_spr_t (k := k) h27 h35]; rfl) | (rw [sp_spr_f (k := k) h27 h35]; rfl) | (rw [sp_spr_0 (k := k) h27]; rfl)) (ih (k + 1) (by omega))
theorem c8_spreadOf {G : ev_G} {n : Nat} {M : ev_M} {up dn : Int64} {f0 f1 f2 f3 f4 f5 f6 : Nat → Int32} {sz : Nat} (hz : M (27) = .inr (8, [.ref (27 + 1), .ref (27 + 2), .ref (27 + 3), .ref (27 + 4), .ref (27 + 5), .ref (27 + 6), .ref (27 + 7), .long up, .long dn, .int (nI sz)])) (z0 : M (27 + 1) = .inl (0, 60, .inl f0)) (z1 : M (27 + 2) = .inl (0, 60, .inl f1)) (z2 : M (27 + 3) = .inl (0, 60, .inl f2)) (z3 : M (27 + 4) = .inl (0, 60, .inl f3)) (z4 : M (27 + 5) = .inl (0, 60, .inl f4)) (z5 : M (27 + 6) = .inl (0, 12, .inl f5)) (z6 : M (27 + 7) = .inl (0, 12, .inl f6)) {i : Int32} (hsz : sz ≤ 60) : ev_Cal G mX8_spreadOf 1 0 0 [.ref 27, .int i] n M (ev_is (some (.int (sp_spread f0 f3 i sz))) M) := by
  refine ev_Cal_of (L := [some (.ref 27), some (.int i), none, none, none, none]) (by decide +kernel) (Nat.le_of_ble_eq_true rfl) rfl ?_
  refine ev_iconst (v := 0) dX8_spreadOf_0 cni_0 ?_
  refine ev_istore_n (i := 2) dX8_spreadOf_1 rfl (Nat.le_of_ble_eq_true rfl) rfl ?_
  refine ev_iconst (v := 0) dX8_spreadOf_2 cni_0 ?_
  refine ev_istore_n (i := 3) dX8_spreadOf_3 rfl (Nat.le_of_ble_eq_true rfl) rfl ?_
  refine ev_iconst (v := 0) dX8_spreadOf_4 cni_0 ?_
  refine ev_istore dX8_spreadOf_5 (Nat.le_of_ble_eq_true rfl) rfl ?_
  refine ev_iconst (v := 0) dX8_spreadOf_7 cni_0 ?_
  refine ev_istore dX8_spreadOf_8 (Nat.le_of_ble_eq_true rfl) rfl ?_
  exact l8_spreadOf hz z0 z1 z2 z3 z4 z5 z6 hsz sz 0 (Nat.zero_add _)
theorem c12_spread_ok {G : ev_G} {n : Nat} {M : ev_M} {g g' c0 c1 c2 : Nat} {lot : Int32} (h20 : M 21 = .inr (11, [.ref 22, .ref 25, .ref 27, .ref 35, .ref 39, .ref 40, .ref 41, .ref 63, .ref g, .ref g', .int lot])) (hG : M g = .inr (3, [.ref (g + 1), .ref (g + 2), .ref (g + 3), .int (nI c0), .int (nI c1), .int (nI c2)])) {fa : Nat → Option Nat} (hA : M (g + 1) = .inl (2, 12, ev_q fa)) (hfa : ∀ i, i < 12 → fa i = some (g + 4 + i)) {j : Nat} (hj : j < c0) (hc : c0 ≤ 12) {up dn : Int64} {f0 f1 f2 f3 f4 f5 f6 : Nat → Int32} {sz : Nat} (hz : M (27) = .inr (8, [.ref (27 + 1), .ref (27 + 2), .ref (27 + 3), .ref (27 + 4), .ref (27 + 5), .ref (27 + 6), .ref (27 + 7), .long up, .long dn, .int (nI sz)])) (z0 : M (27 + 1) = .inl (0, 60, .inl f0)) (z1 : M (27 + 2) = .inl (0, 60, .inl f1)) (z2 : M (27 + 3) = .inl (0, 60, .inl f2)) (z3 : M (27 + 4) = .inl (0, 60, .inl f3)) (z4 : M (27 + 5) = .inl (0, 60, .inl f4)) (z5 : M (27 + 6) = .inl (0, 12, .inl f5)) (z6 : M (27 + 7) = .inl (0, 12, .inl f6)) (hsz : sz ≤ 60) : ev_Cal G mX11_spread 2 0 0 [.ref 21, .int (nI j)] n M (ev_is (some (.int (sp_spread f0 f3 (nI j) sz))) M) := by
  refine ev_Cal_of (L := [some (.ref 21), some (.int (nI j))]) (by decide +kernel) (Nat.le_of_ble_eq_true rfl) rfl ?_
  refine ev_aload_n (i := 0) dX11_spread_0 rfl rfl ?_
  refine ev_getf dX11_spread_1 flX11_64 (by first | assumption | rfl) (by rfl) ?_
  refine ev_iload_n (i := 1) dX11_spread_4 rfl rfl ?_
  refine ev_c2 kX11_spread_5 (c3_stickAt_in hG hA hfa hj hc) (ev_rv_of (by first | assumption | rfl) rfl rfl) (by decide) (by decide) (Nat.le_of_ble_eq_true rfl) ?_
  refine ev_ifnonnull (tgt := 13) dX11_spread_8 (by decide) ?_
  refine ev_aload_n (i := 0) dX11_spread_13 rfl rfl ?_
  refine ev_getf dX11_spread_14 flX11_26 (by first | assumption | rfl) (by rfl) ?_
  refine ev_iload_n (i := 1) dX11_spread_17 rfl rfl ?_
  refine ev_c2 kX11_spread_18 (c8_spreadOf hz z0 z1 z2 z3 z4 z5 z6 hsz) (ev_rv_of (by first | assumption | rfl) rfl rfl) (by decide) (by decide) (Nat.le_of_ble_eq_true rfl) ?_
  exact ev_reti dX11_spread_21 rfl rfl (⟨by first | rfl | simp [*], rfl⟩)
theorem c12_spread_i {G : ev_G} {n : Nat} {M : ev_M} {g g' c0 c1 c2 : Nat} {lot : Int32} (h20 : M 21 = .inr (11, [.ref 22, .ref 25, .ref 27, .ref 35, .ref 39, .ref 40, .ref 41, .ref 63, .ref g, .ref g', .int lot])) (hG : M g = .inr (3, [.ref (g + 1), .ref (g + 2), .ref (g + 3), .int (nI c0), .int (nI c1), .int (nI c2)])) {x : Int32} (hx : x < 0 ∨ nI c0 ≤ x)  : ev_Cal G mX11_spread 2 0 0 [.ref 21, .int x] n M (ev_is (some (.int (-1))) M) := by
  refine ev_Cal_of (L := [some (.ref 21), some (.int x)]) (by decide +kernel) (Nat.le_of_ble_eq_true rfl) rfl ?_
  refine ev_aload_n (i := 0) dX11_spread_0 rfl rfl ?_
  refine ev_getf dX11_spread_1 flX11_64 (by first | assumption | rfl) (by rfl) ?_
  refine ev_iload_n (i := 1) dX11_spread_4 rfl rfl ?_
  refine ev_c2 kX11_spread_5 (c3_stickAt_out hG hx) (ev_rv_of (by first | assumption | rfl) rfl rfl) (by decide) (by decide) (Nat.le_of_ble_eq_true rfl) ?_
  refine ev_ifnonnullN dX11_spread_8 ?_
  refine ev_iconst (v := (-1)) dX11_spread_11 cni_m1 ?_
  exact ev_reti dX11_spread_12 rfl rfl (⟨by first | rfl | simp [*], rfl⟩)
