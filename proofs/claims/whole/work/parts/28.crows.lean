/-! ===== contracts: the reader: a stick, a bow, an archer ===== -/
theorem rd_nums_le {tn : Nat} {tb lo hi : Nat → Int32} : ∀ (m k p : Nat) (nm : Nat → Int32), p ≤ tn → (rd_nums tn tb lo hi m k p nm).2.1 ≤ tn
  | 0, _, _, _, h => h
  | m + 1, k, p, nm, h => by
    have hs := (rd_skip_le (tb := tb) h).2
    rw [rd_nums]
    split
    · exact rd_nums_le m (k + 1) _ _ (rd_nm_le hs).2
    · exact hs
def rd_row (tn : Nat) (tb lo hi : Nat → Int32) (N p : Nat) (nm : Nat → Int32) : Bool × Nat × (Nat → Int32) :=
  if (rd_nums tn tb lo hi N 0 p nm).1 = true then (if rd_at tn tb (rd_skip tn tb (rd_nums tn tb lo hi N 0 p nm).2.1) = 59 then (true, rd_skip tn tb (rd_nums tn tb lo hi N 0 p nm).2.1 + 1, (rd_nums tn tb lo hi N 0 p nm).2.2) else (false, rd_skip tn tb (rd_nums tn tb lo hi N 0 p nm).2.1, (rd_nums tn tb lo hi N 0 p nm).2.2)) else (false, (rd_nums tn tb lo hi N 0 p nm).2.1, (rd_nums tn tb lo hi N 0 p nm).2.2)
theorem rd_row_n {tn : Nat} {tb lo hi : Nat → Int32} {N p : Nat} {nm : Nat → Int32} (h : (rd_nums tn tb lo hi N 0 p nm).1 = false) : rd_row tn tb lo hi N p nm = (false, (rd_nums tn tb lo hi N 0 p nm).2.1, (rd_nums tn tb lo hi N 0 p nm).2.2) := by rw [rd_row, if_neg (by rw [h]; decide)]
theorem rd_row_e {tn : Nat} {tb lo hi : Nat → Int32} {N p : Nat} {nm : Nat → Int32} (h : (rd_nums tn tb lo hi N 0 p nm).1 = true) (he : ¬ rd_at tn tb (rd_skip tn tb (rd_nums tn tb lo hi N 0 p nm).2.1) = 59) : rd_row tn tb lo hi N p nm = (false, rd_skip tn tb (rd_nums tn tb lo hi N 0 p nm).2.1, (rd_nums tn tb lo hi N 0 p nm).2.2) := by rw [rd_row, if_pos h, if_neg he]
theorem rd_row_y {tn : Nat} {tb lo hi : Nat → Int32} {N p : Nat} {nm : Nat → Int32} (h : (rd_nums tn tb lo hi N 0 p nm).1 = true) (he : rd_at tn tb (rd_skip tn tb (rd_nums tn tb lo hi N 0 p nm).2.1) = 59) : rd_row tn tb lo hi N p nm = (true, rd_skip tn tb (rd_nums tn tb lo hi N 0 p nm).2.1 + 1, (rd_nums tn tb lo hi N 0 p nm).2.2) := by rw [rd_row, if_pos h, if_pos he]
theorem c7_readStick_n {G : ev_G} {n : Nat} {M : ev_M} {tn : Nat} {tb : Nat → Int32} (hTb : M 23 = .inl (0, 400, .inl tb)) (hn : tn ≤ 400) {p : Nat} {nm : Nat → Int32} (h23 : M 22 = .inr (7, [.ref 23, .ref 24, .int (nI (p)), .int (nI tn)])) (h24 : M 24 = .inl (0, 6, .inl nm)) (hp : p ≤ tn) {g : Nat} (hr : (rd_nums tn tb (fun k => (ev_stA 2).getD k 0) (fun k => (ev_stA 3).getD k 0) 6 0 p nm).1 = false) : ev_Cal G mX7_readStick 4 0 0 [.ref 22, .ref g] n M (ev_is (some (.int 0)) (ev_ml M [(22, .inr (7, [.ref 23, .ref 24, .int (nI ((rd_row tn tb (fun k => (ev_stA 2).getD k 0) (fun k => (ev_stA 3).getD k 0) 6 p nm).2.1)), .int (nI tn)])), (24, .inl (0, 6, .inl (rd_row tn tb (fun k => (ev_stA 2).getD k 0) (fun k => (ev_stA 3).getD k 0) 6 p nm).2.2))])) := by
  refine ev_Cal_of (L := [some (.ref 22), some (.ref g), none]) (by decide +kernel) (Nat.le_of_ble_eq_true rfl) rfl ?_
  refine ev_aload_n (i := 0) dX7_readStick_0 rfl rfl ?_
  refine ev_gets (i := 2) dX7_readStick_1 (by decide) fwX7_65 ?_
  refine ev_gets (i := 3) dX7_readStick_4 (by decide) fwX7_68 ?_
  refine ev_c3 kX7_readStick_7 (c7_takeNumbers (a := 2) (b := 3) (N := 6) hTb hn (by decide) (by decide) rfl rfl (by decide) (by decide) h23 h24 hp) (ev_rv_of (by first | assumption | rfl) rfl rfl) (by decide) (by decide) (Nat.le_of_ble_eq_true rfl) ?_
  refine ev_if_eqb (tgt := 20) dX7_readStick_10 (by decide) (fun h10 => ?_) (fun h10 => False.elim (Bool.false_ne_true (hr.symm.trans h10)))
  refine ev_iconst (v := 0) dX7_readStick_20 cni_0 ?_
  exact ev_reti dX7_readStick_21 rfl rfl (by rw [rd_row_n (tn := tn) (tb := tb) (lo := (fun k => (ev_stA 2).getD k 0)) (hi := (fun k => (ev_stA 3).getD k 0)) (N := 6) (p := p) (nm := nm) hr]; exact ⟨rfl, rfl⟩)
theorem c7_readStick_e {G : ev_G} {n : Nat} {M : ev_M} {tn : Nat} {tb : Nat → Int32} (hTb : M 23 = .inl (0, 400, .inl tb)) (hn : tn ≤ 400) {p : Nat} {nm : Nat → Int32} (h23 : M 22 = .inr (7, [.ref 23, .ref 24, .int (nI (p)), .int (nI tn)])) (h24 : M 24 = .inl (0, 6, .inl nm)) (hp : p ≤ tn) {g : Nat} (hr : (rd_nums tn tb (fun k => (ev_stA 2).getD k 0) (fun k => (ev_stA 3).getD k 0) 6 0 p nm).1 = true) (he : ¬ rd_at tn tb (rd_skip tn tb (rd_nums tn tb (fun k => (ev_stA 2).getD k 0) (fun k => (ev_stA 3).getD k 0) 6 0 p nm).2.1) = 59) : ev_Cal G mX7_readStick 4 0 0 [.ref 22, .ref g] n M (ev_is (some (.int 0)) (ev_ml M [(22, .inr (7, [.ref 23, .ref 24, .int (nI ((rd_row tn tb (fun k => (ev_stA 2).getD k 0) (fun k => (ev_stA 3).getD k 0) 6 p nm).2.1)), .int (nI tn)])), (24, .inl (0, 6, .inl (rd_row tn tb (fun k => (ev_stA 2).getD k 0) (fun k => (ev_stA 3).getD k 0) 6 p nm).2.2))])) := by
  refine ev_Cal_of (L := [some (.ref 22), some (.ref g), none]) (by decide +kernel) (Nat.le_of_ble_eq_true rfl) rfl ?_
  have hle : (rd_nums tn tb (fun k => (ev_stA 2).getD k 0) (fun k => (ev_stA 3).getD k 0) 6 0 p nm).2.1 ≤ tn := rd_nums_le 6 0 p nm hp
  refine ev_aload_n (i := 0) dX7_readStick_0 rfl rfl ?_
  refine ev_gets (i := 2) dX7_readStick_1 (by decide) fwX7_65 ?_
  refine ev_gets (i := 3) dX7_readStick_4 (by decide) fwX7_68 ?_
  refine ev_c3 kX7_readStick_7 (c7_takeNumbers (a := 2) (b := 3) (N := 6) hTb hn (by decide) (by decide) rfl rfl (by decide) (by decide) h23 h24 hp) (ev_rv_of (by first | exact h23 | rfl) rfl rfl) (by decide) (by decide) (Nat.le_of_ble_eq_true rfl) ?_
  refine ev_if_eqb (tgt := 20) dX7_readStick_10 (by decide) (fun h10 => False.elim (Bool.false_ne_true (h10.symm.trans (hr)))) (fun h10 => ?_)
  refine ev_aload_n (i := 0) dX7_readStick_13 rfl rfl ?_
  refine ev_c1 kX7_readStick_14 (c7_takeEnd_0 ((rd_out (by decide)).trans hTb) hn rfl hle he) (ev_rv_of (by first | exact h23 | rfl) rfl rfl) (by decide) (by decide) (Nat.le_of_ble_eq_true rfl) ?_
  refine ev_mem (M2 := (ev_ml M [(22, .inr (7, [.ref 23, .ref 24, .int (nI ((rd_skip tn tb (rd_nums tn tb (fun k => (ev_stA 2).getD k 0) (fun k => (ev_stA 3).getD k 0) 6 0 p nm).2.1))), .int (nI tn)])), (24, .inl (0, 6, .inl (rd_nums tn tb (fun k => (ev_stA 2).getD k 0) (fun k => (ev_stA 3).getD k 0) 6 0 p nm).2.2))])) ev_set_set ?_
  refine ev_if_ne (tgt := 22) dX7_readStick_17 (by decide) (fun h17 => False.elim (h17 rfl)) (fun h17 => ?_)
  refine ev_iconst (v := 0) dX7_readStick_20 cni_0 ?_
  exact ev_reti dX7_readStick_21 rfl rfl (by rw [rd_row_e (tn := tn) (tb := tb) (lo := (fun k => (ev_stA 2).getD k 0)) (hi := (fun k => (ev_stA 3).getD k 0)) (N := 6) (p := p) (nm := nm) hr he]; exact ⟨rfl, rfl⟩)
theorem c7_readStick_y {G : ev_G} {n : Nat} {M : ev_M} {tn : Nat} {tb : Nat → Int32} (hTb : M 23 = .inl (0, 400, .inl tb)) (hn : tn ≤ 400) {p : Nat} {nm : Nat → Int32} (h23 : M 22 = .inr (7, [.ref 23, .ref 24, .int (nI (p)), .int (nI tn)])) (h24 : M 24 = .inl (0, 6, .inl nm)) (hp : p ≤ tn) {g c0 c1 c2 : Nat} (hG : M g = .inr (3, [.ref (g + 1), .ref (g + 2), .ref (g + 3), .int (nI c0), .int (nI c1), .int (nI c2)])) {fa : Nat → Option Nat} (hA : M (g + 1) = .inl (2, 12, ev_q fa)) (hfa : ∀ i, i < 12 → fa i = some (g + 4 + i)) {v : Nat → Int32} (hS : M (g + 4 + c0) = .inr (9, [.int (v 0), .int (v 1), .int (v 2), .int (v 3), .int (v 4), .int (v 5), .int (v 6)])) (hc : c0 < 12) (hg : 40 < g) (hr : (rd_nums tn tb (fun k => (ev_stA 2).getD k 0) (fun k => (ev_stA 3).getD k 0) 6 0 p nm).1 = true) (he : rd_at tn tb (rd_skip tn tb (rd_nums tn tb (fun k => (ev_stA 2).getD k 0) (fun k => (ev_stA 3).getD k 0) 6 0 p nm).2.1) = 59) : ev_Cal G mX7_readStick 4 0 0 [.ref 22, .ref g] n M (ev_is (some (.int 1)) (ev_set (ev_set (ev_ml M [(22, .inr (7, [.ref 23, .ref 24, .int (nI ((rd_row tn tb (fun k => (ev_stA 2).getD k 0) (fun k => (ev_stA 3).getD k 0) 6 p nm).2.1)), .int (nI tn)])), (24, .inl (0, 6, .inl (rd_row tn tb (fun k => (ev_stA 2).getD k 0) (fun k => (ev_stA 3).getD k 0) 6 p nm).2.2))]) g (.inr (3, [.ref (g + 1), .ref (g + 2), .ref (g + 3), .int (nI (c0 + 1)), .int (nI c1), .int (nI c2)]))) (g + 4 + c0) (.inr (9, [.int ((rd_nums tn tb (fun k => (ev_stA 2).getD k 0) (fun k => (ev_stA 3).getD k 0) 6 0 p nm).2.2 0), .int ((rd_nums tn tb (fun k => (ev_stA 2).getD k 0) (fun k => (ev_stA 3).getD k 0) 6 0 p nm).2.2 1), .int ((rd_nums tn tb (fun k => (ev_stA 2).getD k 0) (fun k => (ev_stA 3).getD k 0) 6 0 p nm).2.2 2), .int ((rd_nums tn tb (fun k => (ev_stA 2).getD k 0) (fun k => (ev_stA 3).getD k 0) 6 0 p nm).2.2 3), .int ((rd_nums tn tb (fun k => (ev_stA 2).getD k 0) (fun k => (ev_stA 3).getD k 0) 6 0 p nm).2.2 4), .int ((rd_nums tn tb (fun k => (ev_stA 2).getD k 0) (fun k => (ev_stA 3).getD k 0) 6 0 p nm).2.2 5), .int 0])))) := by
  refine ev_Cal_of (L := [some (.ref 22), some (.ref g), none]) (by decide +kernel) (Nat.le_of_ble_eq_true rfl) rfl ?_
  have hle : (rd_nums tn tb (fun k => (ev_stA 2).getD k 0) (fun k => (ev_stA 3).getD k 0) 6 0 p nm).2.1 ≤ tn := rd_nums_le 6 0 p nm hp
  refine ev_aload_n (i := 0) dX7_readStick_0 rfl rfl ?_
  refine ev_gets (i := 2) dX7_readStick_1 (by decide) fwX7_65 ?_
  refine ev_gets (i := 3) dX7_readStick_4 (by decide) fwX7_68 ?_
  refine ev_c3 kX7_readStick_7 (c7_takeNumbers (a := 2) (b := 3) (N := 6) hTb hn (by decide) (by decide) rfl rfl (by decide) (by decide) h23 h24 hp) (ev_rv_of (by first | exact h23 | rfl | exact ev_set_eq | exact (ev_set_ne (by omega)).trans ((ev_set_ne (by omega)).trans rfl) | exact ((rd_out (by omega)).trans hG)) rfl rfl) (by decide) (by decide) (Nat.le_of_ble_eq_true rfl) ?_
  refine ev_if_eqb (tgt := 20) dX7_readStick_10 (by decide) (fun h10 => False.elim (Bool.false_ne_true (h10.symm.trans (hr)))) (fun h10 => ?_)
  refine ev_aload_n (i := 0) dX7_readStick_13 rfl rfl ?_
  refine ev_c1 kX7_readStick_14 (c7_takeEnd_1 ((rd_out (by decide)).trans hTb) hn rfl hle he) (ev_rv_of (by first | exact h23 | rfl | exact ev_set_eq | exact (ev_set_ne (by omega)).trans ((ev_set_ne (by omega)).trans rfl) | exact ((rd_out (by omega)).trans hG)) rfl rfl) (by decide) (by decide) (Nat.le_of_ble_eq_true rfl) ?_
  refine ev_mem (M2 := (ev_ml M [(22, .inr (7, [.ref 23, .ref 24, .int (nI ((rd_skip tn tb (rd_nums tn tb (fun k => (ev_stA 2).getD k 0) (fun k => (ev_stA 3).getD k 0) 6 0 p nm).2.1) + 1)), .int (nI tn)])), (24, .inl (0, 6, .inl (rd_nums tn tb (fun k => (ev_stA 2).getD k 0) (fun k => (ev_stA 3).getD k 0) 6 0 p nm).2.2))])) ev_set_set ?_
  refine ev_if_ne (tgt := 22) dX7_readStick_17 (by decide) (fun h17 => ?_) (fun h17 => False.elim (absurd h17 (by decide)))
  refine ev_aload_n (i := 1) dX7_readStick_22 rfl rfl ?_
  refine ev_c1 kX7_readStick_23 (c3_addStick ((rd_out (by omega)).trans hG) ((rd_out (by omega)).trans hA) hfa hc) (ev_rv_of (by exact ((rd_out (by omega)).trans hG)) rfl rfl) (by decide) (by decide) (Nat.le_of_ble_eq_true rfl) ?_
  refine ev_astore_n (i := 2) dX7_readStick_26 rfl (Nat.le_of_ble_eq_true rfl) rfl ?_
  refine ev_aload_n (i := 2) dX7_readStick_27 rfl rfl ?_
  refine ev_ifnonnull (tgt := 33) dX7_readStick_28 (by decide) ?_
  refine ev_pre1 (a := (g + 4 + c0)) (c := .inr (9, [.int (v 0), .int (v 1), .int (v 2), .int (v 3), .int (v 4), .int (v 5), .int (v 6)])) ((ev_set_ne (by omega)).trans ((rd_out (by omega)).trans hS)) ?_
  refine ev_aload_n (i := 2) dX7_readStick_33 rfl rfl ?_
  refine ev_aload_n (i := 0) dX7_readStick_34 rfl rfl ?_
  refine ev_getf dX7_readStick_35 flX7_15 (by first | exact h23 | rfl | exact ev_set_eq | exact (ev_set_ne (by omega)).trans ((ev_set_ne (by omega)).trans rfl) | exact ((rd_out (by omega)).trans hG)) (by rfl) ?_
  refine ev_iconst (v := 0) dX7_readStick_38 cni_0 ?_
  refine ev_iald (j := 0) dX7_readStick_39 (by first | exact h23 | rfl | exact ev_set_eq | exact (ev_set_ne (by omega)).trans ((ev_set_ne (by omega)).trans rfl) | exact ((rd_out (by omega)).trans hG)) (ev_ixc rfl (by decide)) (by decide) ?_
  refine ev_putiU dX7_readStick_40 fpX7_83 (Nat.le_of_ble_eq_true rfl) ?_
  refine ev_aload_n (i := 2) dX7_readStick_43 rfl rfl ?_
  refine ev_aload_n (i := 0) dX7_readStick_44 rfl rfl ?_
  refine ev_getf dX7_readStick_45 flX7_15 (by first | exact h23 | rfl | exact ev_set_eq | exact (ev_set_ne (by omega)).trans ((ev_set_ne (by omega)).trans rfl) | exact ((rd_out (by omega)).trans hG)) (by rfl) ?_
  refine ev_iconst (v := 1) dX7_readStick_48 cni_1 ?_
  refine ev_iald (j := 1) dX7_readStick_49 (by first | exact h23 | rfl | exact ev_set_eq | exact (ev_set_ne (by omega)).trans ((ev_set_ne (by omega)).trans rfl) | exact ((rd_out (by omega)).trans hG)) (ev_ixc rfl (by decide)) (by decide) ?_
  refine ev_putiU dX7_readStick_50 fpX7_88 (Nat.le_of_ble_eq_true rfl) ?_
  refine ev_aload_n (i := 2) dX7_readStick_53 rfl rfl ?_
  refine ev_aload_n (i := 0) dX7_readStick_54 rfl rfl ?_
  refine ev_getf dX7_readStick_55 flX7_15 (by first | exact h23 | rfl | exact ev_set_eq | exact (ev_set_ne (by omega)).trans ((ev_set_ne (by omega)).trans rfl) | exact ((rd_out (by omega)).trans hG)) (by rfl) ?_
  refine ev_iconst (v := 2) dX7_readStick_58 cni_2 ?_
  refine ev_iald (j := 2) dX7_readStick_59 (by first | exact h23 | rfl | exact ev_set_eq | exact (ev_set_ne (by omega)).trans ((ev_set_ne (by omega)).trans rfl) | exact ((rd_out (by omega)).trans hG)) (ev_ixc rfl (by decide)) (by decide) ?_
  refine ev_putiU dX7_readStick_60 fpX7_91 (Nat.le_of_ble_eq_true rfl) ?_
  refine ev_aload_n (i := 2) dX7_readStick_63 rfl rfl ?_
  refine ev_aload_n (i := 0) dX7_readStick_64 rfl rfl ?_
  refine ev_getf dX7_readStick_65 flX7_15 (by first | exact h23 | rfl | exact ev_set_eq | exact (ev_set_ne (by omega)).trans ((ev_set_ne (by omega)).trans rfl) | exact ((rd_out (by omega)).trans hG)) (by rfl) ?_
  refine ev_iconst (v := 3) dX7_readStick_68 cni_3 ?_
  refine ev_iald (j := 3) dX7_readStick_69 (by first | exact h23 | rfl | exact ev_set_eq | exact (ev_set_ne (by omega)).trans ((ev_set_ne (by omega)).trans rfl) | exact ((rd_out (by omega)).trans hG)) (ev_ixc rfl (by decide)) (by decide) ?_
  refine ev_putiU dX7_readStick_70 fpX7_94 (Nat.le_of_ble_eq_true rfl) ?_
  refine ev_aload_n (i := 2) dX7_readStick_73 rfl rfl ?_
  refine ev_aload_n (i := 0) dX7_readStick_74 rfl rfl ?_
  refine ev_getf dX7_readStick_75 flX7_15 (by first | exact h23 | rfl | exact ev_set_eq | exact (ev_set_ne (by omega)).trans ((ev_set_ne (by omega)).trans rfl) | exact ((rd_out (by omega)).trans hG)) (by rfl) ?_
  refine ev_iconst (v := 4) dX7_readStick_78 cni_4 ?_
  refine ev_iald (j := 4) dX7_readStick_79 (by first | exact h23 | rfl | exact ev_set_eq | exact (ev_set_ne (by omega)).trans ((ev_set_ne (by omega)).trans rfl) | exact ((rd_out (by omega)).trans hG)) (ev_ixc rfl (by decide)) (by decide) ?_
  refine ev_putiU dX7_readStick_80 fpX7_97 (Nat.le_of_ble_eq_true rfl) ?_
  refine ev_aload_n (i := 2) dX7_readStick_83 rfl rfl ?_
  refine ev_aload_n (i := 0) dX7_readStick_84 rfl rfl ?_
  refine ev_getf dX7_readStick_85 flX7_15 (by first | exact h23 | rfl | exact ev_set_eq | exact (ev_set_ne (by omega)).trans ((ev_set_ne (by omega)).trans rfl) | exact ((rd_out (by omega)).trans hG)) (by rfl) ?_
  refine ev_iconst (v := 5) dX7_readStick_88 cni_5 ?_
  refine ev_iald (j := 5) dX7_readStick_89 (by first | exact h23 | rfl | exact ev_set_eq | exact (ev_set_ne (by omega)).trans ((ev_set_ne (by omega)).trans rfl) | exact ((rd_out (by omega)).trans hG)) (ev_ixc rfl (by decide)) (by decide) ?_
  refine ev_putiU dX7_readStick_90 fpX7_100 (Nat.le_of_ble_eq_true rfl) ?_
  refine ev_aload_n (i := 2) dX7_readStick_93 rfl rfl ?_
  refine ev_iconst (v := 0) dX7_readStick_94 cni_0 ?_
  refine ev_putiU dX7_readStick_95 fpX7_103 (Nat.le_of_ble_eq_true rfl) ?_
  refine ev_iconst (v := 1) dX7_readStick_98 cni_1 ?_
  exact ev_reti dX7_readStick_99 rfl rfl (by rw [rd_row_y (tn := tn) (tb := tb) (lo := (fun k => (ev_stA 2).getD k 0)) (hi := (fun k => (ev_stA 3).getD k 0)) (N := 6) (p := p) (nm := nm) hr he]; exact ⟨rfl, rfl⟩)
theorem c7_readBow_n {G : ev_G} {n : Nat} {M : ev_M} {tn : Nat} {tb : Nat → Int32} (hTb : M 23 = .inl (0, 400, .inl tb)) (hn : tn ≤ 400) {p : Nat} {nm : Nat → Int32} (h23 : M 22 = .inr (7, [.ref 23, .ref 24, .int (nI (p)), .int (nI tn)])) (h24 : M 24 = .inl (0, 6, .inl nm)) (hp : p ≤ tn) {g : Nat} (hr : (rd_nums tn tb (fun k => (ev_stA 4).getD k 0) (fun k => (ev_stA 5).getD k 0) 2 0 p nm).1 = false) : ev_Cal G mX7_readBow 4 0 0 [.ref 22, .ref g] n M (ev_is (some (.int 0)) (ev_ml M [(22, .inr (7, [.ref 23, .ref 24, .int (nI ((rd_row tn tb (fun k => (ev_stA 4).getD k 0) (fun k => (ev_stA 5).getD k 0) 2 p nm).2.1)), .int (nI tn)])), (24, .inl (0, 6, .inl (rd_row tn tb (fun k => (ev_stA 4).getD k 0) (fun k => (ev_stA 5).getD k 0) 2 p nm).2.2))])) := by
  refine ev_Cal_of (L := [some (.ref 22), some (.ref g), none]) (by decide +kernel) (Nat.le_of_ble_eq_true rfl) rfl ?_
  refine ev_aload_n (i := 0) dX7_readBow_0 rfl rfl ?_
  refine ev_gets (i := 4) dX7_readBow_1 (by decide) fwX7_106 ?_
  refine ev_gets (i := 5) dX7_readBow_4 (by decide) fwX7_109 ?_
  refine ev_c3 kX7_readBow_7 (c7_takeNumbers (a := 4) (b := 5) (N := 2) hTb hn (by decide) (by decide) rfl rfl (by decide) (by decide) h23 h24 hp) (ev_rv_of (by first | assumption | rfl) rfl rfl) (by decide) (by decide) (Nat.le_of_ble_eq_true rfl) ?_
  refine ev_if_eqb (tgt := 20) dX7_readBow_10 (by decide) (fun h10 => ?_) (fun h10 => False.elim (Bool.false_ne_true (hr.symm.trans h10)))
  refine ev_iconst (v := 0) dX7_readBow_20 cni_0 ?_
  exact ev_reti dX7_readBow_21 rfl rfl (by rw [rd_row_n (tn := tn) (tb := tb) (lo := (fun k => (ev_stA 4).getD k 0)) (hi := (fun k => (ev_stA 5).getD k 0)) (N := 2) (p := p) (nm := nm) hr]; exact ⟨rfl, rfl⟩)
theorem c7_readBow_e {G : ev_G} {n : Nat} {M : ev_M} {tn : Nat} {tb : Nat → Int32} (hTb : M 23 = .inl (0, 400, .inl tb)) (hn : tn ≤ 400) {p : Nat} {nm : Nat → Int32} (h23 : M 22 = .inr (7, [.ref 23, .ref 24, .int (nI (p)), .int (nI tn)])) (h24 : M 24 = .inl (0, 6, .inl nm)) (hp : p ≤ tn) {g : Nat} (hr : (rd_nums tn tb (fun k => (ev_stA 4).getD k 0) (fun k => (ev_stA 5).getD k 0) 2 0 p nm).1 = true) (he : ¬ rd_at tn tb (rd_skip tn tb (rd_nums tn tb (fun k => (ev_stA 4).getD k 0) (fun k => (ev_stA 5).getD k 0) 2 0 p nm).2.1) = 59) : ev_Cal G mX7_readBow 4 0 0 [.ref 22, .ref g] n M (ev_is (some (.int 0)) (ev_ml M [(22, .inr (7, [.ref 23, .ref 24, .int (nI ((rd_row tn tb (fun k => (ev_stA 4).getD k 0) (fun k => (ev_stA 5).getD k 0) 2 p nm).2.1)), .int (nI tn)])), (24, .inl (0, 6, .inl (rd_row tn tb (fun k => (ev_stA 4).getD k 0) (fun k => (ev_stA 5).getD k 0) 2 p nm).2.2))])) := by
  refine ev_Cal_of (L := [some (.ref 22), some (.ref g), none]) (by decide +kernel) (Nat.le_of_ble_eq_true rfl) rfl ?_
  have hle : (rd_nums tn tb (fun k => (ev_stA 4).getD k 0) (fun k => (ev_stA 5).getD k 0) 2 0 p nm).2.1 ≤ tn := rd_nums_le 2 0 p nm hp
  refine ev_aload_n (i := 0) dX7_readBow_0 rfl rfl ?_
  refine ev_gets (i := 4) dX7_readBow_1 (by decide) fwX7_106 ?_
  refine ev_gets (i := 5) dX7_readBow_4 (by decide) fwX7_109 ?_
  refine ev_c3 kX7_readBow_7 (c7_takeNumbers (a := 4) (b := 5) (N := 2) hTb hn (by decide) (by decide) rfl rfl (by decide) (by decide) h23 h24 hp) (ev_rv_of (by first | exact h23 | rfl) rfl rfl) (by decide) (by decide) (Nat.le_of_ble_eq_true rfl) ?_
  refine ev_if_eqb (tgt := 20) dX7_readBow_10 (by decide) (fun h10 => False.elim (Bool.false_ne_true (h10.symm.trans (hr)))) (fun h10 => ?_)
  refine ev_aload_n (i := 0) dX7_readBow_13 rfl rfl ?_
  refine ev_c1 kX7_readBow_14 (c7_takeEnd_0 ((rd_out (by decide)).trans hTb) hn rfl hle he) (ev_rv_of (by first | exact h23 | rfl) rfl rfl) (by decide) (by decide) (Nat.le_of_ble_eq_true rfl) ?_
  refine ev_mem (M2 := (ev_ml M [(22, .inr (7, [.ref 23, .ref 24, .int (nI ((rd_skip tn tb (rd_nums tn tb (fun k => (ev_stA 4).getD k 0) (fun k => (ev_stA 5).getD k 0) 2 0 p nm).2.1))), .int (nI tn)])), (24, .inl (0, 6, .inl (rd_nums tn tb (fun k => (ev_stA 4).getD k 0) (fun k => (ev_stA 5).getD k 0) 2 0 p nm).2.2))])) ev_set_set ?_
  refine ev_if_ne (tgt := 22) dX7_readBow_17 (by decide) (fun h17 => False.elim (h17 rfl)) (fun h17 => ?_)
  refine ev_iconst (v := 0) dX7_readBow_20 cni_0 ?_
  exact ev_reti dX7_readBow_21 rfl rfl (by rw [rd_row_e (tn := tn) (tb := tb) (lo := (fun k => (ev_stA 4).getD k 0)) (hi := (fun k => (ev_stA 5).getD k 0)) (N := 2) (p := p) (nm := nm) hr he]; exact ⟨rfl, rfl⟩)
theorem c7_readBow_y {G : ev_G} {n : Nat} {M : ev_M} {tn : Nat} {tb : Nat → Int32} (hTb : M 23 = .inl (0, 400, .inl tb)) (hn : tn ≤ 400) {p : Nat} {nm : Nat → Int32} (h23 : M 22 = .inr (7, [.ref 23, .ref 24, .int (nI (p)), .int (nI tn)])) (h24 : M 24 = .inl (0, 6, .inl nm)) (hp : p ≤ tn) {g c0 c1 c2 : Nat} (hG : M g = .inr (3, [.ref (g + 1), .ref (g + 2), .ref (g + 3), .int (nI c0), .int (nI c1), .int (nI c2)])) {fb : Nat → Option Nat} (hB : M (g + 2) = .inl (3, 3, ev_q fb)) (hfb : ∀ i, i < 3 → fb i = some (g + 16 + i)) {dr wi : Int32} (hS : M (g + 16 + c1) = .inr (1, [.int dr, .int wi])) (hc : c1 < 3) (hg : 40 < g) (hr : (rd_nums tn tb (fun k => (ev_stA 4).getD k 0) (fun k => (ev_stA 5).getD k 0) 2 0 p nm).1 = true) (he : rd_at tn tb (rd_skip tn tb (rd_nums tn tb (fun k => (ev_stA 4).getD k 0) (fun k => (ev_stA 5).getD k 0) 2 0 p nm).2.1) = 59) : ev_Cal G mX7_readBow 4 0 0 [.ref 22, .ref g] n M (ev_is (some (.int 1)) (ev_set (ev_set (ev_ml M [(22, .inr (7, [.ref 23, .ref 24, .int (nI ((rd_row tn tb (fun k => (ev_stA 4).getD k 0) (fun k => (ev_stA 5).getD k 0) 2 p nm).2.1)), .int (nI tn)])), (24, .inl (0, 6, .inl (rd_row tn tb (fun k => (ev_stA 4).getD k 0) (fun k => (ev_stA 5).getD k 0) 2 p nm).2.2))]) g (.inr (3, [.ref (g + 1), .ref (g + 2), .ref (g + 3), .int (nI c0), .int (nI (c1 + 1)), .int (nI c2)]))) (g + 16 + c1) (.inr (1, [.int ((rd_nums tn tb (fun k => (ev_stA 4).getD k 0) (fun k => (ev_stA 5).getD k 0) 2 0 p nm).2.2 0), .int ((rd_nums tn tb (fun k => (ev_stA 4).getD k 0) (fun k => (ev_stA 5).getD k 0) 2 0 p nm).2.2 1)])))) := by
  refine ev_Cal_of (L := [some (.ref 22), some (.ref g), none]) (by decide +kernel) (Nat.le_of_ble_eq_true rfl) rfl ?_
  have hle : (rd_nums tn tb (fun k => (ev_stA 4).getD k 0) (fun k => (ev_stA 5).getD k 0) 2 0 p nm).2.1 ≤ tn := rd_nums_le 2 0 p nm hp
  refine ev_aload_n (i := 0) dX7_readBow_0 rfl rfl ?_
  refine ev_gets (i := 4) dX7_readBow_1 (by decide) fwX7_106 ?_
  refine ev_gets (i := 5) dX7_readBow_4 (by decide) fwX7_109 ?_
  refine ev_c3 kX7_readBow_7 (c7_takeNumbers (a := 4) (b := 5) (N := 2) hTb hn (by decide) (by decide) rfl rfl (by decide) (by decide) h23 h24 hp) (ev_rv_of (by first | exact h23 | rfl | exact ev_set_eq | exact (ev_set_ne (by omega)).trans ((ev_set_ne (by omega)).trans rfl) | exact ((rd_out (by omega)).trans hG)) rfl rfl) (by decide) (by decide) (Nat.le_of_ble_eq_true rfl) ?_
  refine ev_if_eqb (tgt := 20) dX7_readBow_10 (by decide) (fun h10 => False.elim (Bool.false_ne_true (h10.symm.trans (hr)))) (fun h10 => ?_)
  refine ev_aload_n (i := 0) dX7_readBow_13 rfl rfl ?_
  refine ev_c1 kX7_readBow_14 (c7_takeEnd_1 ((rd_out (by decide)).trans hTb) hn rfl hle he) (ev_rv_of (by first | exact h23 | rfl | exact ev_set_eq | exact (ev_set_ne (by omega)).trans ((ev_set_ne (by omega)).trans rfl) | exact ((rd_out (by omega)).trans hG)) rfl rfl) (by decide) (by decide) (Nat.le_of_ble_eq_true rfl) ?_
  refine ev_mem (M2 := (ev_ml M [(22, .inr (7, [.ref 23, .ref 24, .int (nI ((rd_skip tn tb (rd_nums tn tb (fun k => (ev_stA 4).getD k 0) (fun k => (ev_stA 5).getD k 0) 2 0 p nm).2.1) + 1)), .int (nI tn)])), (24, .inl (0, 6, .inl (rd_nums tn tb (fun k => (ev_stA 4).getD k 0) (fun k => (ev_stA 5).getD k 0) 2 0 p nm).2.2))])) ev_set_set ?_
  refine ev_if_ne (tgt := 22) dX7_readBow_17 (by decide) (fun h17 => ?_) (fun h17 => False.elim (absurd h17 (by decide)))
  refine ev_aload_n (i := 1) dX7_readBow_22 rfl rfl ?_
  refine ev_c1 kX7_readBow_23 (c3_addBow ((rd_out (by omega)).trans hG) ((rd_out (by omega)).trans hB) hfb hc) (ev_rv_of (by exact ((rd_out (by omega)).trans hG)) rfl rfl) (by decide) (by decide) (Nat.le_of_ble_eq_true rfl) ?_
  refine ev_astore_n (i := 2) dX7_readBow_26 rfl (Nat.le_of_ble_eq_true rfl) rfl ?_
  refine ev_aload_n (i := 2) dX7_readBow_27 rfl rfl ?_
  refine ev_ifnonnull (tgt := 33) dX7_readBow_28 (by decide) ?_
  refine ev_pre1 (a := (g + 16 + c1)) (c := .inr (1, [.int dr, .int wi])) ((ev_set_ne (by omega)).trans ((rd_out (by omega)).trans hS)) ?_
  refine ev_aload_n (i := 2) dX7_readBow_33 rfl rfl ?_
  refine ev_aload_n (i := 0) dX7_readBow_34 rfl rfl ?_
  refine ev_getf dX7_readBow_35 flX7_15 (by first | exact h23 | rfl | exact ev_set_eq | exact (ev_set_ne (by omega)).trans ((ev_set_ne (by omega)).trans rfl) | exact ((rd_out (by omega)).trans hG)) (by rfl) ?_
  refine ev_iconst (v := 0) dX7_readBow_38 cni_0 ?_
  refine ev_iald (j := 0) dX7_readBow_39 (by first | exact h23 | rfl | exact ev_set_eq | exact (ev_set_ne (by omega)).trans ((ev_set_ne (by omega)).trans rfl) | exact ((rd_out (by omega)).trans hG)) (ev_ixc rfl (by decide)) (by decide) ?_
  refine ev_putiU dX7_readBow_40 fpX7_116 (Nat.le_of_ble_eq_true rfl) ?_
  refine ev_aload_n (i := 2) dX7_readBow_43 rfl rfl ?_
  refine ev_aload_n (i := 0) dX7_readBow_44 rfl rfl ?_
  refine ev_getf dX7_readBow_45 flX7_15 (by first | exact h23 | rfl | exact ev_set_eq | exact (ev_set_ne (by omega)).trans ((ev_set_ne (by omega)).trans rfl) | exact ((rd_out (by omega)).trans hG)) (by rfl) ?_
  refine ev_iconst (v := 1) dX7_readBow_48 cni_1 ?_
  refine ev_iald (j := 1) dX7_readBow_49 (by first | exact h23 | rfl | exact ev_set_eq | exact (ev_set_ne (by omega)).trans ((ev_set_ne (by omega)).trans rfl) | exact ((rd_out (by omega)).trans hG)) (ev_ixc rfl (by decide)) (by decide) ?_
  refine ev_putiU dX7_readBow_50 fpX7_121 (Nat.le_of_ble_eq_true rfl) ?_
  refine ev_iconst (v := 1) dX7_readBow_53 cni_1 ?_
  exact ev_reti dX7_readBow_54 rfl rfl (by rw [rd_row_y (tn := tn) (tb := tb) (lo := (fun k => (ev_stA 4).getD k 0)) (hi := (fun k => (ev_stA 5).getD k 0)) (N := 2) (p := p) (nm := nm) hr he]; exact ⟨rfl, rfl⟩)
theorem l7_arch_0_n {G : ev_G} {n : Nat} {M : ev_M} {tn : Nat} {tb : Nat → Int32} (hTb : M 23 = .inl (0, 400, .inl tb)) (hn : tn ≤ 400) {p : Nat} {nm : Nat → Int32} (h23 : M 22 = .inr (7, [.ref 23, .ref 24, .int (nI (p)), .int (nI tn)])) (h24 : M 24 = .inl (0, 6, .inl nm)) (hp : p ≤ tn) {g : Nat} (hr : (rd_nums tn tb (fun k => (ev_stA 6).getD k 0) (fun k => (ev_stA 7).getD k 0) 2 0 p nm).1 = false) : ev_E G mX7_readArcher 6 0 0 n M 22 [some (.ref 22), some (.ref g), some (.int 0), none] [] (ev_is (some (.int 0)) (ev_ml M [(22, .inr (7, [.ref 23, .ref 24, .int (nI ((rd_row tn tb (fun k => (ev_stA 6).getD k 0) (fun k => (ev_stA 7).getD k 0) 2 p nm).2.1)), .int (nI tn)])), (24, .inl (0, 6, .inl (rd_row tn tb (fun k => (ev_stA 6).getD k 0) (fun k => (ev_stA 7).getD k 0) 2 p nm).2.2))])) := by
  have hle : (rd_nums tn tb (fun k => (ev_stA 6).getD k 0) (fun k => (ev_stA 7).getD k 0) 2 0 p nm).2.1 ≤ tn := rd_nums_le 2 0 p nm hp
  refine ev_aload_n (i := 0) dX7_readArcher_22 rfl rfl ?_
  refine ev_gets (i := 6) dX7_readArcher_23 (by decide) fwX7_128 ?_
  refine ev_gets (i := 7) dX7_readArcher_26 (by decide) fwX7_131 ?_
  refine ev_c3 kX7_readArcher_29 (c7_takeNumbers (a := 6) (b := 7) (N := 2) hTb hn (by decide) (by decide) rfl rfl (by decide) (by decide) h23 h24 hp) (ev_rv_of (by first | assumption | rfl) rfl rfl) (by decide) (by decide) (Nat.le_of_ble_eq_true rfl) ?_
  refine ev_if_eqb (tgt := 42) dX7_readArcher_32 (by decide) (fun h32 => ?_) (fun h32 => False.elim (Bool.false_ne_true (hr.symm.trans h32)))
  refine ev_iconst (v := 0) dX7_readArcher_42 cni_0 ?_
  exact ev_reti dX7_readArcher_43 rfl rfl (by rw [rd_row_n (tn := tn) (tb := tb) (lo := (fun k => (ev_stA 6).getD k 0)) (hi := (fun k => (ev_stA 7).getD k 0)) (N := 2) (p := p) (nm := nm) hr]; exact ⟨rfl, rfl⟩)
theorem l7_arch_0_e {G : ev_G} {n : Nat} {M : ev_M} {tn : Nat} {tb : Nat → Int32} (hTb : M 23 = .inl (0, 400, .inl tb)) (hn : tn ≤ 400) {p : Nat} {nm : Nat → Int32} (h23 : M 22 = .inr (7, [.ref 23, .ref 24, .int (nI (p)), .int (nI tn)])) (h24 : M 24 = .inl (0, 6, .inl nm)) (hp : p ≤ tn) {g : Nat} (hr : (rd_nums tn tb (fun k => (ev_stA 6).getD k 0) (fun k => (ev_stA 7).getD k 0) 2 0 p nm).1 = true) (he : ¬ rd_at tn tb (rd_skip tn tb (rd_nums tn tb (fun k => (ev_stA 6).getD k 0) (fun k => (ev_stA 7).getD k 0) 2 0 p nm).2.1) = 59) : ev_E G mX7_readArcher 6 0 0 n M 22 [some (.ref 22), some (.ref g), some (.int 0), none] [] (ev_is (some (.int 0)) (ev_ml M [(22, .inr (7, [.ref 23, .ref 24, .int (nI ((rd_row tn tb (fun k => (ev_stA 6).getD k 0) (fun k => (ev_stA 7).getD k 0) 2 p nm).2.1)), .int (nI tn)])), (24, .inl (0, 6, .inl (rd_row tn tb (fun k => (ev_stA 6).getD k 0) (fun k => (ev_stA 7).getD k 0) 2 p nm).2.2))])) := by
  have hle : (rd_nums tn tb (fun k => (ev_stA 6).getD k 0) (fun k => (ev_stA 7).getD k 0) 2 0 p nm).2.1 ≤ tn := rd_nums_le 2 0 p nm hp
  refine ev_aload_n (i := 0) dX7_readArcher_22 rfl rfl ?_
  refine ev_gets (i := 6) dX7_readArcher_23 (by decide) fwX7_128 ?_
  refine ev_gets (i := 7) dX7_readArcher_26 (by decide) fwX7_131 ?_
  refine ev_c3 kX7_readArcher_29 (c7_takeNumbers (a := 6) (b := 7) (N := 2) hTb hn (by decide) (by decide) rfl rfl (by decide) (by decide) h23 h24 hp) (ev_rv_of (by first | exact h23 | rfl) rfl rfl) (by decide) (by decide) (Nat.le_of_ble_eq_true rfl) ?_
  refine ev_if_eqb (tgt := 42) dX7_readArcher_32 (by decide) (fun h32 => False.elim (Bool.false_ne_true (h32.symm.trans (hr)))) (fun h32 => ?_)
  refine ev_aload_n (i := 0) dX7_readArcher_35 rfl rfl ?_
  refine ev_c1 kX7_readArcher_36 (c7_takeEnd_0 ((rd_out (by decide)).trans hTb) hn rfl hle he) (ev_rv_of (by first | exact h23 | rfl) rfl rfl) (by decide) (by decide) (Nat.le_of_ble_eq_true rfl) ?_
  refine ev_mem (M2 := (ev_ml M [(22, .inr (7, [.ref 23, .ref 24, .int (nI ((rd_skip tn tb (rd_nums tn tb (fun k => (ev_stA 6).getD k 0) (fun k => (ev_stA 7).getD k 0) 2 0 p nm).2.1))), .int (nI tn)])), (24, .inl (0, 6, .inl (rd_nums tn tb (fun k => (ev_stA 6).getD k 0) (fun k => (ev_stA 7).getD k 0) 2 0 p nm).2.2))])) ev_set_set ?_
  refine ev_if_ne (tgt := 44) dX7_readArcher_39 (by decide) (fun h39 => False.elim (h39 rfl)) (fun h39 => ?_)
  refine ev_iconst (v := 0) dX7_readArcher_42 cni_0 ?_
  exact ev_reti dX7_readArcher_43 rfl rfl (by rw [rd_row_e (tn := tn) (tb := tb) (lo := (fun k => (ev_stA 6).getD k 0)) (hi := (fun k => (ev_stA 7).getD k 0)) (N := 2) (p := p) (nm := nm) hr he]; exact ⟨rfl, rfl⟩)
theorem l7_arch_0_y {G : ev_G} {n : Nat} {M : ev_M} {tn : Nat} {tb : Nat → Int32} (hTb : M 23 = .inl (0, 400, .inl tb)) (hn : tn ≤ 400) {p : Nat} {nm : Nat → Int32} (h23 : M 22 = .inr (7, [.ref 23, .ref 24, .int (nI (p)), .int (nI tn)])) (h24 : M 24 = .inl (0, 6, .inl nm)) (hp : p ≤ tn) {g c0 c1 c2 : Nat} (hG : M g = .inr (3, [.ref (g + 1), .ref (g + 2), .ref (g + 3), .int (nI c0), .int (nI c1), .int (nI c2)])) {fc : Nat → Option Nat} (hC : M (g + 3) = .inl (4, 3, ev_q fc)) (hfc : ∀ i, i < 3 → fc i = some (g + 19 + i)) {am wa : Int32} (hS : M (g + 19 + c2) = .inr (0, [.int am, .int wa])) (hc : c2 < 3) (hg : 40 < g) (hr : (rd_nums tn tb (fun k => (ev_stA 6).getD k 0) (fun k => (ev_stA 7).getD k 0) 2 0 p nm).1 = true) (he : rd_at tn tb (rd_skip tn tb (rd_nums tn tb (fun k => (ev_stA 6).getD k 0) (fun k => (ev_stA 7).getD k 0) 2 0 p nm).2.1) = 59) : ev_E G mX7_readArcher 6 0 0 n M 22 [some (.ref 22), some (.ref g), some (.int 0), none] [] (ev_is (some (.int 1)) (ev_set (ev_set (ev_ml M [(22, .inr (7, [.ref 23, .ref 24, .int (nI ((rd_row tn tb (fun k => (ev_stA 6).getD k 0) (fun k => (ev_stA 7).getD k 0) 2 p nm).2.1)), .int (nI tn)])), (24, .inl (0, 6, .inl (rd_row tn tb (fun k => (ev_stA 6).getD k 0) (fun k => (ev_stA 7).getD k 0) 2 p nm).2.2))]) g (.inr (3, [.ref (g + 1), .ref (g + 2), .ref (g + 3), .int (nI c0), .int (nI c1), .int (nI (c2 + 1))]))) (g + 19 + c2) (.inr (0, [.int ((rd_nums tn tb (fun k => (ev_stA 6).getD k 0) (fun k => (ev_stA 7).getD k 0) 2 0 p nm).2.2 0), .int ((rd_nums tn tb (fun k => (ev_stA 6).getD k 0) (fun k => (ev_stA 7).getD k 0) 2 0 p nm).2.2 1)])))) := by
  have hle : (rd_nums tn tb (fun k => (ev_stA 6).getD k 0) (fun k => (ev_stA 7).getD k 0) 2 0 p nm).2.1 ≤ tn := rd_nums_le 2 0 p nm hp
  refine ev_aload_n (i := 0) dX7_readArcher_22 rfl rfl ?_
  refine ev_gets (i := 6) dX7_readArcher_23 (by decide) fwX7_128 ?_
  refine ev_gets (i := 7) dX7_readArcher_26 (by decide) fwX7_131 ?_
  refine ev_c3 kX7_readArcher_29 (c7_takeNumbers (a := 6) (b := 7) (N := 2) hTb hn (by decide) (by decide) rfl rfl (by decide) (by decide) h23 h24 hp) (ev_rv_of (by first | exact h23 | rfl | exact ev_set_eq | exact (ev_set_ne (by omega)).trans ((ev_set_ne (by omega)).trans rfl) | exact ((rd_out (by omega)).trans hG)) rfl rfl) (by decide) (by decide) (Nat.le_of_ble_eq_true rfl) ?_
  refine ev_if_eqb (tgt := 42) dX7_readArcher_32 (by decide) (fun h32 => False.elim (Bool.false_ne_true (h32.symm.trans (hr)))) (fun h32 => ?_)
  refine ev_aload_n (i := 0) dX7_readArcher_35 rfl rfl ?_
  refine ev_c1 kX7_readArcher_36 (c7_takeEnd_1 ((rd_out (by decide)).trans hTb) hn rfl hle he) (ev_rv_of (by first | exact h23 | rfl | exact ev_set_eq | exact (ev_set_ne (by omega)).trans ((ev_set_ne (by omega)).trans rfl) | exact ((rd_out (by omega)).trans hG)) rfl rfl) (by decide) (by decide) (Nat.le_of_ble_eq_true rfl) ?_
  refine ev_mem (M2 := (ev_ml M [(22, .inr (7, [.ref 23, .ref 24, .int (nI ((rd_skip tn tb (rd_nums tn tb (fun k => (ev_stA 6).getD k 0) (fun k => (ev_stA 7).getD k 0) 2 0 p nm).2.1) + 1)), .int (nI tn)])), (24, .inl (0, 6, .inl (rd_nums tn tb (fun k => (ev_stA 6).getD k 0) (fun k => (ev_stA 7).getD k 0) 2 0 p nm).2.2))])) ev_set_set ?_
  refine ev_if_ne (tgt := 44) dX7_readArcher_39 (by decide) (fun h39 => ?_) (fun h39 => False.elim (absurd h39 (by decide)))
  refine ev_aload_n (i := 1) dX7_readArcher_44 rfl rfl ?_
  refine ev_c1 kX7_readArcher_45 (c3_addArcher ((rd_out (by omega)).trans hG) ((rd_out (by omega)).trans hC) hfc hc) (ev_rv_of (by exact ((rd_out (by omega)).trans hG)) rfl rfl) (by decide) (by decide) (Nat.le_of_ble_eq_true rfl) ?_
  refine ev_astore_n (i := 3) dX7_readArcher_48 rfl (Nat.le_of_ble_eq_true rfl) rfl ?_
  refine ev_aload_n (i := 3) dX7_readArcher_49 rfl rfl ?_
  refine ev_ifnonnull (tgt := 55) dX7_readArcher_50 (by decide) ?_
  refine ev_pre1 (a := (g + 19 + c2)) (c := .inr (0, [.int am, .int wa])) ((ev_set_ne (by omega)).trans ((rd_out (by omega)).trans hS)) ?_
  refine ev_aload_n (i := 3) dX7_readArcher_55 rfl rfl ?_
  refine ev_iload_n (i := 2) dX7_readArcher_56 rfl rfl ?_
  refine ev_if_eq (tgt := 70) dX7_readArcher_57 (by decide) (fun h57 => ?_) (fun h57 => False.elim (absurd rfl h57))
  refine ev_aload_n (i := 0) dX7_readArcher_70 rfl rfl ?_
  refine ev_getf dX7_readArcher_71 flX7_15 (by first | exact h23 | rfl | exact ev_set_eq | exact (ev_set_ne (by omega)).trans ((ev_set_ne (by omega)).trans rfl) | exact ((rd_out (by omega)).trans hG)) (by rfl) ?_
  refine ev_iconst (v := 0) dX7_readArcher_74 cni_0 ?_
  refine ev_iald (j := 0) dX7_readArcher_75 (by first | exact h23 | rfl | exact ev_set_eq | exact (ev_set_ne (by omega)).trans ((ev_set_ne (by omega)).trans rfl) | exact ((rd_out (by omega)).trans hG)) (ev_ixc rfl (by decide)) (by decide) ?_
  refine ev_putiU dX7_readArcher_76 fpX7_138 (Nat.le_of_ble_eq_true rfl) ?_
  refine ev_aload_n (i := 3) dX7_readArcher_79 rfl rfl ?_
  refine ev_aload_n (i := 0) dX7_readArcher_80 rfl rfl ?_
  refine ev_getf dX7_readArcher_81 flX7_15 (by first | exact h23 | rfl | exact ev_set_eq | exact (ev_set_ne (by omega)).trans ((ev_set_ne (by omega)).trans rfl) | exact ((rd_out (by omega)).trans hG)) (by rfl) ?_
  refine ev_iconst (v := 1) dX7_readArcher_84 cni_1 ?_
  refine ev_iald (j := 1) dX7_readArcher_85 (by first | exact h23 | rfl | exact ev_set_eq | exact (ev_set_ne (by omega)).trans ((ev_set_ne (by omega)).trans rfl) | exact ((rd_out (by omega)).trans hG)) (ev_ixc rfl (by decide)) (by decide) ?_
  refine ev_putiU dX7_readArcher_86 fpX7_143 (Nat.le_of_ble_eq_true rfl) ?_
  refine ev_iconst (v := 1) dX7_readArcher_89 cni_1 ?_
  exact ev_reti dX7_readArcher_90 rfl rfl (by rw [rd_row_y (tn := tn) (tb := tb) (lo := (fun k => (ev_stA 6).getD k 0)) (hi := (fun k => (ev_stA 7).getD k 0)) (N := 2) (p := p) (nm := nm) hr he]; exact ⟨rfl, rfl⟩)
theorem l7_arch_1_n {G : ev_G} {n : Nat} {M : ev_M} {tn : Nat} {tb : Nat → Int32} (hTb : M 23 = .inl (0, 400, .inl tb)) (hn : tn ≤ 400) {p : Nat} {nm : Nat → Int32} (h23 : M 22 = .inr (7, [.ref 23, .ref 24, .int (nI (p)), .int (nI tn)])) (h24 : M 24 = .inl (0, 6, .inl nm)) (hp : p ≤ tn) {g : Nat} (hr : (rd_nums tn tb (fun k => (ev_stA 6).getD k 0) (fun k => (ev_stA 7).getD k 0) 2 0 p nm).1 = false) : ev_E G mX7_readArcher 6 0 0 n M 22 [some (.ref 22), some (.ref g), some (.int 1), none] [] (ev_is (some (.int 0)) (ev_ml M [(22, .inr (7, [.ref 23, .ref 24, .int (nI ((rd_row tn tb (fun k => (ev_stA 6).getD k 0) (fun k => (ev_stA 7).getD k 0) 2 p nm).2.1)), .int (nI tn)])), (24, .inl (0, 6, .inl (rd_row tn tb (fun k => (ev_stA 6).getD k 0) (fun k => (ev_stA 7).getD k 0) 2 p nm).2.2))])) := by
  have hle : (rd_nums tn tb (fun k => (ev_stA 6).getD k 0) (fun k => (ev_stA 7).getD k 0) 2 0 p nm).2.1 ≤ tn := rd_nums_le 2 0 p nm hp
  refine ev_aload_n (i := 0) dX7_readArcher_22 rfl rfl ?_
  refine ev_gets (i := 6) dX7_readArcher_23 (by decide) fwX7_128 ?_
  refine ev_gets (i := 7) dX7_readArcher_26 (by decide) fwX7_131 ?_
  refine ev_c3 kX7_readArcher_29 (c7_takeNumbers (a := 6) (b := 7) (N := 2) hTb hn (by decide) (by decide) rfl rfl (by decide) (by decide) h23 h24 hp) (ev_rv_of (by first | assumption | rfl) rfl rfl) (by decide) (by decide) (Nat.le_of_ble_eq_true rfl) ?_
  refine ev_if_eqb (tgt := 42) dX7_readArcher_32 (by decide) (fun h32 => ?_) (fun h32 => False.elim (Bool.false_ne_true (hr.symm.trans h32)))
  refine ev_iconst (v := 0) dX7_readArcher_42 cni_0 ?_
  exact ev_reti dX7_readArcher_43 rfl rfl (by rw [rd_row_n (tn := tn) (tb := tb) (lo := (fun k => (ev_stA 6).getD k 0)) (hi := (fun k => (ev_stA 7).getD k 0)) (N := 2) (p := p) (nm := nm) hr]; exact ⟨rfl, rfl⟩)
theorem l7_arch_1_e {G : ev_G} {n : Nat} {M : ev_M} {tn : Nat} {tb : Nat → Int32} (hTb : M 23 = .inl (0, 400, .inl tb)) (hn : tn ≤ 400) {p : Nat} {nm : Nat → Int32} (h23 : M 22 = .inr (7, [.ref 23, .ref 24, .int (nI (p)), .int (nI tn)])) (h24 : M 24 = .inl (0, 6, .inl nm)) (hp : p ≤ tn) {g : Nat} (hr : (rd_nums tn tb (fun k => (ev_stA 6).getD k 0) (fun k => (ev_stA 7).getD k 0) 2 0 p nm).1 = true) (he : ¬ rd_at tn tb (rd_skip tn tb (rd_nums tn tb (fun k => (ev_stA 6).getD k 0) (fun k => (ev_stA 7).getD k 0) 2 0 p nm).2.1) = 59) : ev_E G mX7_readArcher 6 0 0 n M 22 [some (.ref 22), some (.ref g), some (.int 1), none] [] (ev_is (some (.int 0)) (ev_ml M [(22, .inr (7, [.ref 23, .ref 24, .int (nI ((rd_row tn tb (fun k => (ev_stA 6).getD k 0) (fun k => (ev_stA 7).getD k 0) 2 p nm).2.1)), .int (nI tn)])), (24, .inl (0, 6, .inl (rd_row tn tb (fun k => (ev_stA 6).getD k 0) (fun k => (ev_stA 7).getD k 0) 2 p nm).2.2))])) := by
  have hle : (rd_nums tn tb (fun k => (ev_stA 6).getD k 0) (fun k => (ev_stA 7).getD k 0) 2 0 p nm).2.1 ≤ tn := rd_nums_le 2 0 p nm hp
  refine ev_aload_n (i := 0) dX7_readArcher_22 rfl rfl ?_
  refine ev_gets (i := 6) dX7_readArcher_23 (by decide) fwX7_128 ?_
  refine ev_gets (i := 7) dX7_readArcher_26 (by decide) fwX7_131 ?_
  refine ev_c3 kX7_readArcher_29 (c7_takeNumbers (a := 6) (b := 7) (N := 2) hTb hn (by decide) (by decide) rfl rfl (by decide) (by decide) h23 h24 hp) (ev_rv_of (by first | exact h23 | rfl) rfl rfl) (by decide) (by decide) (Nat.le_of_ble_eq_true rfl) ?_
  refine ev_if_eqb (tgt := 42) dX7_readArcher_32 (by decide) (fun h32 => False.elim (Bool.false_ne_true (h32.symm.trans (hr)))) (fun h32 => ?_)
  refine ev_aload_n (i := 0) dX7_readArcher_35 rfl rfl ?_
  refine ev_c1 kX7_readArcher_36 (c7_takeEnd_0 ((rd_out (by decide)).trans hTb) hn rfl hle he) (ev_rv_of (by first | exact h23 | rfl) rfl rfl) (by decide) (by decide) (Nat.le_of_ble_eq_true rfl) ?_
  refine ev_mem (M2 := (ev_ml M [(22, .inr (7, [.ref 23, .ref 24, .int (nI ((rd_skip tn tb (rd_nums tn tb (fun k => (ev_stA 6).getD k 0) (fun k => (ev_stA 7).getD k 0) 2 0 p nm).2.1))), .int (nI tn)])), (24, .inl (0, 6, .inl (rd_nums tn tb (fun k => (ev_stA 6).getD k 0) (fun k => (ev_stA 7).getD k 0) 2 0 p nm).2.2))])) ev_set_set ?_
  refine ev_if_ne (tgt := 44) dX7_readArcher_39 (by decide) (fun h39 => False.elim (h39 rfl)) (fun h39 => ?_)
  refine ev_iconst (v := 0) dX7_readArcher_42 cni_0 ?_
  exact ev_reti dX7_readArcher_43 rfl rfl (by rw [rd_row_e (tn := tn) (tb := tb) (lo := (fun k => (ev_stA 6).getD k 0)) (hi := (fun k => (ev_stA 7).getD k 0)) (N := 2) (p := p) (nm := nm) hr he]; exact ⟨rfl, rfl⟩)
theorem l7_arch_1_y {G : ev_G} {n : Nat} {M : ev_M} {tn : Nat} {tb : Nat → Int32} (hTb : M 23 = .inl (0, 400, .inl tb)) (hn : tn ≤ 400) {p : Nat} {nm : Nat → Int32} (h23 : M 22 = .inr (7, [.ref 23, .ref 24, .int (nI (p)), .int (nI tn)])) (h24 : M 24 = .inl (0, 6, .inl nm)) (hp : p ≤ tn) {g c0 c1 c2 : Nat} (hG : M g = .inr (3, [.ref (g + 1), .ref (g + 2), .ref (g + 3), .int (nI c0), .int (nI c1), .int (nI c2)])) {fc : Nat → Option Nat} (hC : M (g + 3) = .inl (4, 3, ev_q fc)) (hfc : ∀ i, i < 3 → fc i = some (g + 19 + i)) {am wa : Int32} (hS : M (g + 19 + c2) = .inr (0, [.int am, .int wa])) (hc : c2 < 3) (hg : 40 < g) (hr : (rd_nums tn tb (fun k => (ev_stA 6).getD k 0) (fun k => (ev_stA 7).getD k 0) 2 0 p nm).1 = true) (he : rd_at tn tb (rd_skip tn tb (rd_nums tn tb (fun k => (ev_stA 6).getD k 0) (fun k => (ev_stA 7).getD k 0) 2 0 p nm).2.1) = 59) : ev_E G mX7_readArcher 6 0 0 n M 22 [some (.ref 22), some (.ref g), some (.int 1), none] [] (ev_is (some (.int 1)) (ev_set (ev_set (ev_ml M [(22, .inr (7, [.ref 23, .ref 24, .int (nI ((rd_row tn tb (fun k => (ev_stA 6).getD k 0) (fun k => (ev_stA 7).getD k 0) 2 p nm).2.1)), .int (nI tn)])), (24, .inl (0, 6, .inl (rd_row tn tb (fun k => (ev_stA 6).getD k 0) (fun k => (ev_stA 7).getD k 0) 2 p nm).2.2))]) g (.inr (3, [.ref (g + 1), .ref (g + 2), .ref (g + 3), .int (nI c0), .int (nI c1), .int (nI (c2 + 1))]))) (g + 19 + c2) (.inr (0, [.int (-(rd_nums tn tb (fun k => (ev_stA 6).getD k 0) (fun k => (ev_stA 7).getD k 0) 2 0 p nm).2.2 0), .int ((rd_nums tn tb (fun k => (ev_stA 6).getD k 0) (fun k => (ev_stA 7).getD k 0) 2 0 p nm).2.2 1)])))) := by
  have hle : (rd_nums tn tb (fun k => (ev_stA 6).getD k 0) (fun k => (ev_stA 7).getD k 0) 2 0 p nm).2.1 ≤ tn := rd_nums_le 2 0 p nm hp
  refine ev_aload_n (i := 0) dX7_readArcher_22 rfl rfl ?_
  refine ev_gets (i := 6) dX7_readArcher_23 (by decide) fwX7_128 ?_
  refine ev_gets (i := 7) dX7_readArcher_26 (by decide) fwX7_131 ?_
  refine ev_c3 kX7_readArcher_29 (c7_takeNumbers (a := 6) (b := 7) (N := 2) hTb hn (by decide) (by decide) rfl rfl (by decide) (by decide) h23 h24 hp) (ev_rv_of (by first | exact h23 | rfl | exact ev_set_eq | exact (ev_set_ne (by omega)).trans ((ev_set_ne (by omega)).trans rfl) | exact ((rd_out (by omega)).trans hG)) rfl rfl) (by decide) (by decide) (Nat.le_of_ble_eq_true rfl) ?_
  refine ev_if_eqb (tgt := 42) dX7_readArcher_32 (by decide) (fun h32 => False.elim (Bool.false_ne_true (h32.symm.trans (hr)))) (fun h32 => ?_)
  refine ev_aload_n (i := 0) dX7_readArcher_35 rfl rfl ?_
  refine ev_c1 kX7_readArcher_36 (c7_takeEnd_1 ((rd_out (by decide)).trans hTb) hn rfl hle he) (ev_rv_of (by first | exact h23 | rfl | exact ev_set_eq | exact (ev_set_ne (by omega)).trans ((ev_set_ne (by omega)).trans rfl) | exact ((rd_out (by omega)).trans hG)) rfl rfl) (by decide) (by decide) (Nat.le_of_ble_eq_true rfl) ?_
  refine ev_mem (M2 := (ev_ml M [(22, .inr (7, [.ref 23, .ref 24, .int (nI ((rd_skip tn tb (rd_nums tn tb (fun k => (ev_stA 6).getD k 0) (fun k => (ev_stA 7).getD k 0) 2 0 p nm).2.1) + 1)), .int (nI tn)])), (24, .inl (0, 6, .inl (rd_nums tn tb (fun k => (ev_stA 6).getD k 0) (fun k => (ev_stA 7).getD k 0) 2 0 p nm).2.2))])) ev_set_set ?_
  refine ev_if_ne (tgt := 44) dX7_readArcher_39 (by decide) (fun h39 => ?_) (fun h39 => False.elim (absurd h39 (by decide)))
  refine ev_aload_n (i := 1) dX7_readArcher_44 rfl rfl ?_
  refine ev_c1 kX7_readArcher_45 (c3_addArcher ((rd_out (by omega)).trans hG) ((rd_out (by omega)).trans hC) hfc hc) (ev_rv_of (by exact ((rd_out (by omega)).trans hG)) rfl rfl) (by decide) (by decide) (Nat.le_of_ble_eq_true rfl) ?_
  refine ev_astore_n (i := 3) dX7_readArcher_48 rfl (Nat.le_of_ble_eq_true rfl) rfl ?_
  refine ev_aload_n (i := 3) dX7_readArcher_49 rfl rfl ?_
  refine ev_ifnonnull (tgt := 55) dX7_readArcher_50 (by decide) ?_
  refine ev_pre1 (a := (g + 19 + c2)) (c := .inr (0, [.int am, .int wa])) ((ev_set_ne (by omega)).trans ((rd_out (by omega)).trans hS)) ?_
  refine ev_aload_n (i := 3) dX7_readArcher_55 rfl rfl ?_
  refine ev_iload_n (i := 2) dX7_readArcher_56 rfl rfl ?_
  refine ev_if_eq (tgt := 70) dX7_readArcher_57 (by decide) (fun h57 => False.elim (absurd h57 (by decide))) (fun h57 => ?_)
  refine ev_aload_n (i := 0) dX7_readArcher_60 rfl rfl ?_
  refine ev_getf dX7_readArcher_61 flX7_15 (by first | exact h23 | rfl | exact ev_set_eq | exact (ev_set_ne (by omega)).trans ((ev_set_ne (by omega)).trans rfl) | exact ((rd_out (by omega)).trans hG)) (by rfl) ?_
  refine ev_iconst (v := 0) dX7_readArcher_64 cni_0 ?_
  refine ev_iald (j := 0) dX7_readArcher_65 (by first | exact h23 | rfl | exact ev_set_eq | exact (ev_set_ne (by omega)).trans ((ev_set_ne (by omega)).trans rfl) | exact ((rd_out (by omega)).trans hG)) (ev_ixc rfl (by decide)) (by decide) ?_
  refine ev_ineg dX7_readArcher_66 ?_
  refine ev_goto (tgt := 76) dX7_readArcher_67 (by decide) ?_
  refine ev_putiU dX7_readArcher_76 fpX7_138 (Nat.le_of_ble_eq_true rfl) ?_
  refine ev_aload_n (i := 3) dX7_readArcher_79 rfl rfl ?_
  refine ev_aload_n (i := 0) dX7_readArcher_80 rfl rfl ?_
  refine ev_getf dX7_readArcher_81 flX7_15 (by first | exact h23 | rfl | exact ev_set_eq | exact (ev_set_ne (by omega)).trans ((ev_set_ne (by omega)).trans rfl) | exact ((rd_out (by omega)).trans hG)) (by rfl) ?_
  refine ev_iconst (v := 1) dX7_readArcher_84 cni_1 ?_
  refine ev_iald (j := 1) dX7_readArcher_85 (by first | exact h23 | rfl | exact ev_set_eq | exact (ev_set_ne (by omega)).trans ((ev_set_ne (by omega)).trans rfl) | exact ((rd_out (by omega)).trans hG)) (ev_ixc rfl (by decide)) (by decide) ?_
  refine ev_putiU dX7_readArcher_86 fpX7_143 (Nat.le_of_ble_eq_true rfl) ?_
  refine ev_iconst (v := 1) dX7_readArcher_89 cni_1 ?_
  exact ev_reti dX7_readArcher_90 rfl rfl (by rw [rd_row_y (tn := tn) (tb := tb) (lo := (fun k => (ev_stA 6).getD k 0)) (hi := (fun k => (ev_stA 7).getD k 0)) (N := 2) (p := p) (nm := nm) hr he]; exact ⟨rfl, rfl⟩)
