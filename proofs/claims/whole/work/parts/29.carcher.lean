/-! ===== contracts: the reader: archers ===== -/
/-- a word stands at q, and no letter behind it -/
def rd_W (tn : Nat) (tb : Nat → Int32) (i q : Nat) : Prop := (∀ j, j < ch_n i → rd_at tn tb (q + j) = ch_at i j) ∧ sp_in (rd_at tn tb (q + ch_n i)) 97 122 = false
theorem rd_W_no {tn : Nat} {tb : Nat → Int32} {i q : Nat} (h : ¬ rd_W tn tb i q) (hall : ∀ j, j < ch_n i → rd_at tn tb (q + j) = ch_at i j) : sp_in (rd_at tn tb (q + ch_n i)) 97 122 = true := by
  cases hb : sp_in (rd_at tn tb (q + ch_n i)) 97 122
  · exact absurd ⟨hall, hb⟩ h
  · rfl
theorem ch_pos : ∀ i, i < 5 → 0 < ch_n i ∧ ∀ j, j < ch_n i → ¬ ch_at i j = -1 := by decide +kernel
theorem rd_W_le {tn : Nat} {tb : Nat → Int32} {i q : Nat} (hi : i < 5) (h : rd_W tn tb i q) : q + ch_n i ≤ tn := by
  have hp := ch_pos i hi
  have h1 := h.1 (ch_n i - 1) (by omega)
  by_cases hlt : q + (ch_n i - 1) < tn
  · omega
  · rw [rd_at, if_neg hlt] at h1
    exact absurd h1.symm (hp.2 _ (by omega))
theorem rd_skip_fix {tn : Nat} {tb : Nat → Int32} : ∀ (m p : Nat), p + m = tn → rd_skip tn tb (rd_sk tb m p) = rd_sk tb m p
  | 0, p, h => by
    have e : tn - p = 0 := by omega
    rw [rd_sk, rd_skip, e, rd_sk]
  | m + 1, p, h => by
    by_cases q : tb p = 32
    · rw [rd_sk_1 q]; exact rd_skip_fix m (p + 1) (by omega)
    · rw [rd_sk_0 q, rd_skip, show tn - p = m + 1 by omega, rd_sk_0 q]
theorem rd_skip_skip {tn : Nat} {tb : Nat → Int32} {p : Nat} (h : p ≤ tn) : rd_skip tn tb (rd_skip tn tb p) = rd_skip tn tb p := rd_skip_fix (tn - p) p (by omega)
theorem c7_readArcher_L_n {G : ev_G} {n : Nat} {M : ev_M} {tn : Nat} {tb : Nat → Int32} (hTb : M 23 = .inl (0, 400, .inl tb)) (hn : tn ≤ 400) {p : Nat} {nm : Nat → Int32} (hsio : ev_hs G) (h23 : M 22 = .inr (7, [.ref 23, .ref 24, .int (nI (p)), .int (nI tn)])) (h24 : M 24 = .inl (0, 6, .inl nm)) (hp : p ≤ tn) (hW : rd_W tn tb 3 (rd_skip tn tb p)) {g : Nat} (hr : (rd_nums tn tb (fun k => (ev_stA 6).getD k 0) (fun k => (ev_stA 7).getD k 0) 2 0 ((rd_skip tn tb p) + ch_n 3) nm).1 = false)  : ev_Cal G mX7_readArcher 6 0 0 [.ref 22, .ref g] n M (ev_is (some (.int 0)) (ev_ml (ev_set M 22 (.inr (7, [.ref 23, .ref 24, .int (nI (((rd_skip tn tb p) + ch_n 3))), .int (nI tn)]))) [(22, .inr (7, [.ref 23, .ref 24, .int (nI ((rd_row tn tb (fun k => (ev_stA 6).getD k 0) (fun k => (ev_stA 7).getD k 0) 2 ((rd_skip tn tb p) + ch_n 3) nm).2.1)), .int (nI tn)])), (24, .inl (0, 6, .inl (rd_row tn tb (fun k => (ev_stA 6).getD k 0) (fun k => (ev_stA 7).getD k 0) 2 ((rd_skip tn tb p) + ch_n 3) nm).2.2))])) := by
  refine ev_Cal_of (L := [some (.ref 22), some (.ref g), none, none]) (by decide +kernel) (Nat.le_of_ble_eq_true rfl) rfl ?_
  refine ev_aload_n (i := 0) dX7_readArcher_0 rfl rfl ?_
  refine ev_ldcS (i := 3) dX7_readArcher_1 rfl (by decide) rfl ?_
  refine ev_c2 kX7_readArcher_3 (c7_takeWord_1 hTb hn (i := 3) (by decide) hsio h23 hp hW.1 hW.2) (ev_rv_of (by first | exact h23 | exact ev_set_eq) rfl rfl) (by decide) (by decide) (Nat.le_of_ble_eq_true rfl) ?_
  refine ev_istore_n (i := 2) dX7_readArcher_6 rfl (Nat.le_of_ble_eq_true rfl) rfl ?_
  refine ev_iload_n (i := 2) dX7_readArcher_7 rfl rfl ?_
  refine ev_if_ne (tgt := 22) dX7_readArcher_8 (by decide) (fun h8 => ?_) (fun h8 => False.elim (absurd h8 (by decide)))
  exact l7_arch_1_n ((ev_set_ne (by decide)).trans hTb) hn ev_set_eq ((ev_set_ne (by decide)).trans h24) (rd_W_le (i := 3) (by decide) hW) hr
theorem c7_readArcher_L_e {G : ev_G} {n : Nat} {M : ev_M} {tn : Nat} {tb : Nat → Int32} (hTb : M 23 = .inl (0, 400, .inl tb)) (hn : tn ≤ 400) {p : Nat} {nm : Nat → Int32} (hsio : ev_hs G) (h23 : M 22 = .inr (7, [.ref 23, .ref 24, .int (nI (p)), .int (nI tn)])) (h24 : M 24 = .inl (0, 6, .inl nm)) (hp : p ≤ tn) (hW : rd_W tn tb 3 (rd_skip tn tb p)) {g : Nat} (hr : (rd_nums tn tb (fun k => (ev_stA 6).getD k 0) (fun k => (ev_stA 7).getD k 0) 2 0 ((rd_skip tn tb p) + ch_n 3) nm).1 = true) (he : ¬ rd_at tn tb (rd_skip tn tb (rd_nums tn tb (fun k => (ev_stA 6).getD k 0) (fun k => (ev_stA 7).getD k 0) 2 0 ((rd_skip tn tb p) + ch_n 3) nm).2.1) = 59)  : ev_Cal G mX7_readArcher 6 0 0 [.ref 22, .ref g] n M (ev_is (some (.int 0)) (ev_ml (ev_set M 22 (.inr (7, [.ref 23, .ref 24, .int (nI (((rd_skip tn tb p) + ch_n 3))), .int (nI tn)]))) [(22, .inr (7, [.ref 23, .ref 24, .int (nI ((rd_row tn tb (fun k => (ev_stA 6).getD k 0) (fun k => (ev_stA 7).getD k 0) 2 ((rd_skip tn tb p) + ch_n 3) nm).2.1)), .int (nI tn)])), (24, .inl (0, 6, .inl (rd_row tn tb (fun k => (ev_stA 6).getD k 0) (fun k => (ev_stA 7).getD k 0) 2 ((rd_skip tn tb p) + ch_n 3) nm).2.2))])) := by
  refine ev_Cal_of (L := [some (.ref 22), some (.ref g), none, none]) (by decide +kernel) (Nat.le_of_ble_eq_true rfl) rfl ?_
  refine ev_aload_n (i := 0) dX7_readArcher_0 rfl rfl ?_
  refine ev_ldcS (i := 3) dX7_readArcher_1 rfl (by decide) rfl ?_
  refine ev_c2 kX7_readArcher_3 (c7_takeWord_1 hTb hn (i := 3) (by decide) hsio h23 hp hW.1 hW.2) (ev_rv_of (by first | exact h23 | exact ev_set_eq) rfl rfl) (by decide) (by decide) (Nat.le_of_ble_eq_true rfl) ?_
  refine ev_istore_n (i := 2) dX7_readArcher_6 rfl (Nat.le_of_ble_eq_true rfl) rfl ?_
  refine ev_iload_n (i := 2) dX7_readArcher_7 rfl rfl ?_
  refine ev_if_ne (tgt := 22) dX7_readArcher_8 (by decide) (fun h8 => ?_) (fun h8 => False.elim (absurd h8 (by decide)))
  exact l7_arch_1_e ((ev_set_ne (by decide)).trans hTb) hn ev_set_eq ((ev_set_ne (by decide)).trans h24) (rd_W_le (i := 3) (by decide) hW) hr he
theorem c7_readArcher_L_y {G : ev_G} {n : Nat} {M : ev_M} {tn : Nat} {tb : Nat → Int32} (hTb : M 23 = .inl (0, 400, .inl tb)) (hn : tn ≤ 400) {p : Nat} {nm : Nat → Int32} (hsio : ev_hs G) (h23 : M 22 = .inr (7, [.ref 23, .ref 24, .int (nI (p)), .int (nI tn)])) (h24 : M 24 = .inl (0, 6, .inl nm)) (hp : p ≤ tn) (hW : rd_W tn tb 3 (rd_skip tn tb p)) {g c0 c1 c2 : Nat} (hG : M g = .inr (3, [.ref (g + 1), .ref (g + 2), .ref (g + 3), .int (nI c0), .int (nI c1), .int (nI c2)])) {fc : Nat → Option Nat} (hC : M (g + 3) = .inl (4, 3, ev_q fc)) (hfc : ∀ i, i < 3 → fc i = some (g + 19 + i)) {am wa : Int32} (hS : M (g + 19 + c2) = .inr (0, [.int am, .int wa])) (hc : c2 < 3) (hg : 40 < g) (hr : (rd_nums tn tb (fun k => (ev_stA 6).getD k 0) (fun k => (ev_stA 7).getD k 0) 2 0 ((rd_skip tn tb p) + ch_n 3) nm).1 = true) (he : rd_at tn tb (rd_skip tn tb (rd_nums tn tb (fun k => (ev_stA 6).getD k 0) (fun k => (ev_stA 7).getD k 0) 2 0 ((rd_skip tn tb p) + ch_n 3) nm).2.1) = 59)  : ev_Cal G mX7_readArcher 6 0 0 [.ref 22, .ref g] n M (ev_is (some (.int 1)) (ev_set (ev_set (ev_ml (ev_set M 22 (.inr (7, [.ref 23, .ref 24, .int (nI (((rd_skip tn tb p) + ch_n 3))), .int (nI tn)]))) [(22, .inr (7, [.ref 23, .ref 24, .int (nI ((rd_row tn tb (fun k => (ev_stA 6).getD k 0) (fun k => (ev_stA 7).getD k 0) 2 ((rd_skip tn tb p) + ch_n 3) nm).2.1)), .int (nI tn)])), (24, .inl (0, 6, .inl (rd_row tn tb (fun k => (ev_stA 6).getD k 0) (fun k => (ev_stA 7).getD k 0) 2 ((rd_skip tn tb p) + ch_n 3) nm).2.2))]) g (.inr (3, [.ref (g + 1), .ref (g + 2), .ref (g + 3), .int (nI c0), .int (nI c1), .int (nI (c2 + 1))]))) (g + 19 + c2) (.inr (0, [.int (-(rd_nums tn tb (fun k => (ev_stA 6).getD k 0) (fun k => (ev_stA 7).getD k 0) 2 0 ((rd_skip tn tb p) + ch_n 3) nm).2.2 0), .int ((rd_nums tn tb (fun k => (ev_stA 6).getD k 0) (fun k => (ev_stA 7).getD k 0) 2 0 ((rd_skip tn tb p) + ch_n 3) nm).2.2 1)])))) := by
  refine ev_Cal_of (L := [some (.ref 22), some (.ref g), none, none]) (by decide +kernel) (Nat.le_of_ble_eq_true rfl) rfl ?_
  refine ev_aload_n (i := 0) dX7_readArcher_0 rfl rfl ?_
  refine ev_ldcS (i := 3) dX7_readArcher_1 rfl (by decide) rfl ?_
  refine ev_c2 kX7_readArcher_3 (c7_takeWord_1 hTb hn (i := 3) (by decide) hsio h23 hp hW.1 hW.2) (ev_rv_of (by first | exact h23 | exact ev_set_eq) rfl rfl) (by decide) (by decide) (Nat.le_of_ble_eq_true rfl) ?_
  refine ev_istore_n (i := 2) dX7_readArcher_6 rfl (Nat.le_of_ble_eq_true rfl) rfl ?_
  refine ev_iload_n (i := 2) dX7_readArcher_7 rfl rfl ?_
  refine ev_if_ne (tgt := 22) dX7_readArcher_8 (by decide) (fun h8 => ?_) (fun h8 => False.elim (absurd h8 (by decide)))
  exact l7_arch_1_y ((ev_set_ne (by decide)).trans hTb) hn ev_set_eq ((ev_set_ne (by decide)).trans h24) (rd_W_le (i := 3) (by decide) hW) ((ev_set_ne (by omega)).trans hG) ((ev_set_ne (by omega)).trans hC) hfc ((ev_set_ne (by omega)).trans hS) hc hg hr he
theorem c7_readArcher_R_n {G : ev_G} {n : Nat} {M : ev_M} {tn : Nat} {tb : Nat → Int32} (hTb : M 23 = .inl (0, 400, .inl tb)) (hn : tn ≤ 400) {p : Nat} {nm : Nat → Int32} (hsio : ev_hs G) (h23 : M 22 = .inr (7, [.ref 23, .ref 24, .int (nI (p)), .int (nI tn)])) (h24 : M 24 = .inl (0, 6, .inl nm)) (hp : p ≤ tn) (hL : ¬ rd_W tn tb 3 (rd_skip tn tb p)) (hW : rd_W tn tb 4 (rd_skip tn tb p)) {g : Nat} (hr : (rd_nums tn tb (fun k => (ev_stA 6).getD k 0) (fun k => (ev_stA 7).getD k 0) 2 0 ((rd_skip tn tb p) + ch_n 4) nm).1 = false)  : ev_Cal G mX7_readArcher 6 0 0 [.ref 22, .ref g] n M (ev_is (some (.int 0)) (ev_ml (ev_set M 22 (.inr (7, [.ref 23, .ref 24, .int (nI (((rd_skip tn tb p) + ch_n 4))), .int (nI tn)]))) [(22, .inr (7, [.ref 23, .ref 24, .int (nI ((rd_row tn tb (fun k => (ev_stA 6).getD k 0) (fun k => (ev_stA 7).getD k 0) 2 ((rd_skip tn tb p) + ch_n 4) nm).2.1)), .int (nI tn)])), (24, .inl (0, 6, .inl (rd_row tn tb (fun k => (ev_stA 6).getD k 0) (fun k => (ev_stA 7).getD k 0) 2 ((rd_skip tn tb p) + ch_n 4) nm).2.2))])) := by
  refine ev_Cal_of (L := [some (.ref 22), some (.ref g), none, none]) (by decide +kernel) (Nat.le_of_ble_eq_true rfl) rfl ?_
  have hW2 : rd_W tn tb 4 (rd_skip tn tb (rd_skip tn tb p)) := by rw [rd_skip_skip hp]; exact hW
  refine ev_aload_n (i := 0) dX7_readArcher_0 rfl rfl ?_
  refine ev_ldcS (i := 3) dX7_readArcher_1 rfl (by decide) rfl ?_
  refine ev_c2 kX7_readArcher_3 (c7_takeWord_0 hTb hn (i := 3) (by decide) hsio h23 hp (rd_W_no hL)) (ev_rv_of (by first | exact h23 | exact ev_set_eq) rfl rfl) (by decide) (by decide) (Nat.le_of_ble_eq_true rfl) ?_
  refine ev_istore_n (i := 2) dX7_readArcher_6 rfl (Nat.le_of_ble_eq_true rfl) rfl ?_
  refine ev_iload_n (i := 2) dX7_readArcher_7 rfl rfl ?_
  refine ev_if_ne (tgt := 22) dX7_readArcher_8 (by decide) (fun h8 => False.elim (h8 rfl)) (fun h8 => ?_)
  refine ev_aload_n (i := 0) dX7_readArcher_11 rfl rfl ?_
  refine ev_ldcS (i := 4) dX7_readArcher_12 rfl (by decide) rfl ?_
  refine ev_c2 kX7_readArcher_14 (c7_takeWord_1 (p := (rd_skip tn tb p)) ((ev_set_ne (by decide)).trans hTb) hn (i := 4) (by decide) hsio ev_set_eq (rd_skip_le (tb := tb) hp).2 hW2.1 hW2.2) (ev_rv_of (by first | exact h23 | exact ev_set_eq) rfl rfl) (by decide) (by decide) (Nat.le_of_ble_eq_true rfl) ?_
  refine ev_mem (M2 := (ev_set M 22 (.inr (7, [.ref 23, .ref 24, .int (nI (((rd_skip tn tb p) + ch_n 4))), .int (nI tn)])))) (ev_set_set.trans (by rw [rd_skip_skip hp])) ?_
  refine ev_if_ne (tgt := 22) dX7_readArcher_17 (by decide) (fun h17 => ?_) (fun h17 => False.elim (absurd h17 (by decide)))
  exact l7_arch_0_n ((ev_set_ne (by decide)).trans hTb) hn ev_set_eq ((ev_set_ne (by decide)).trans h24) (rd_W_le (i := 4) (by decide) hW) hr
theorem c7_readArcher_R_e {G : ev_G} {n : Nat} {M : ev_M} {tn : Nat} {tb : Nat → Int32} (hTb : M 23 = .inl (0, 400, .inl tb)) (hn : tn ≤ 400) {p : Nat} {nm : Nat → Int32} (hsio : ev_hs G) (h23 : M 22 = .inr (7, [.ref 23, .ref 24, .int (nI (p)), .int (nI tn)])) (h24 : M 24 = .inl (0, 6, .inl nm)) (hp : p ≤ tn) (hL : ¬ rd_W tn tb 3 (rd_skip tn tb p)) (hW : rd_W tn tb 4 (rd_skip tn tb p)) {g : Nat} (hr : (rd_nums tn tb (fun k => (ev_stA 6).getD k 0) (fun k => (ev_stA 7).getD k 0) 2 0 ((rd_skip tn tb p) + ch_n 4) nm).1 = true) (he : ¬ rd_at tn tb (rd_skip tn tb (rd_nums tn tb (fun k => (ev_stA 6).getD k 0) (fun k => (ev_stA 7).getD k 0) 2 0 ((rd_skip tn tb p) + ch_n 4) nm).2.1) = 59)  : ev_Cal G mX7_readArcher 6 0 0 [.ref 22, .ref g] n M (ev_is (some (.int 0)) (ev_ml (ev_set M 22 (.inr (7, [.ref 23, .ref 24, .int (nI (((rd_skip tn tb p) + ch_n 4))), .int (nI tn)]))) [(22, .inr (7, [.ref 23, .ref 24, .int (nI ((rd_row tn tb (fun k => (ev_stA 6).getD k 0) (fun k => (ev_stA 7).getD k 0) 2 ((rd_skip tn tb p) + ch_n 4) nm).2.1)), .int (nI tn)])), (24, .inl (0, 6, .inl (rd_row tn tb (fun k => (ev_stA 6).getD k 0) (fun k => (ev_stA 7).getD k 0) 2 ((rd_skip tn tb p) + ch_n 4) nm).2.2))])) := by
  refine ev_Cal_of (L := [some (.ref 22), some (.ref g), none, none]) (by decide +kernel) (Nat.le_of_ble_eq_true rfl) rfl ?_
  have hW2 : rd_W tn tb 4 (rd_skip tn tb (rd_skip tn tb p)) := by rw [rd_skip_skip hp]; exact hW
  refine ev_aload_n (i := 0) dX7_readArcher_0 rfl rfl ?_
  refine ev_ldcS (i := 3) dX7_readArcher_1 rfl (by decide) rfl ?_
  refine ev_c2 kX7_readArcher_3 (c7_takeWord_0 hTb hn (i := 3) (by decide) hsio h23 hp (rd_W_no hL)) (ev_rv_of (by first | exact h23 | exact ev_set_eq) rfl rfl) (by decide) (by decide) (Nat.le_of_ble_eq_true rfl) ?_
  refine ev_istore_n (i := 2) dX7_readArcher_6 rfl (Nat.le_of_ble_eq_true rfl) rfl ?_
  refine ev_iload_n (i := 2) dX7_readArcher_7 rfl rfl ?_
  refine ev_if_ne (tgt := 22) dX7_readArcher_8 (by decide) (fun h8 => False.elim (h8 rfl)) (fun h8 => ?_)
  refine ev_aload_n (i := 0) dX7_readArcher_11 rfl rfl ?_
  refine ev_ldcS (i := 4) dX7_readArcher_12 rfl (by decide) rfl ?_
  refine ev_c2 kX7_readArcher_14 (c7_takeWord_1 (p := (rd_skip tn tb p)) ((ev_set_ne (by decide)).trans hTb) hn (i := 4) (by decide) hsio ev_set_eq (rd_skip_le (tb := tb) hp).2 hW2.1 hW2.2) (ev_rv_of (by first | exact h23 | exact ev_set_eq) rfl rfl) (by decide) (by decide) (Nat.le_of_ble_eq_true rfl) ?_
  refine ev_mem (M2 := (ev_set M 22 (.inr (7, [.ref 23, .ref 24, .int (nI (((rd_skip tn tb p) + ch_n 4))), .int (nI tn)])))) (ev_set_set.trans (by rw [rd_skip_skip hp])) ?_
  refine ev_if_ne (tgt := 22) dX7_readArcher_17 (by decide) (fun h17 => ?_) (fun h17 => False.elim (absurd h17 (by decide)))
  exact l7_arch_0_e ((ev_set_ne (by decide)).trans hTb) hn ev_set_eq ((ev_set_ne (by decide)).trans h24) (rd_W_le (i := 4) (by decide) hW) hr he
theorem c7_readArcher_R_y {G : ev_G} {n : Nat} {M : ev_M} {tn : Nat} {tb : Nat → Int32} (hTb : M 23 = .inl (0, 400, .inl tb)) (hn : tn ≤ 400) {p : Nat} {nm : Nat → Int32} (hsio : ev_hs G) (h23 : M 22 = .inr (7, [.ref 23, .ref 24, .int (nI (p)), .int (nI tn)])) (h24 : M 24 = .inl (0, 6, .inl nm)) (hp : p ≤ tn) (hL : ¬ rd_W tn tb 3 (rd_skip tn tb p)) (hW : rd_W tn tb 4 (rd_skip tn tb p)) {g c0 c1 c2 : Nat} (hG : M g = .inr (3, [.ref (g + 1), .ref (g + 2), .ref (g + 3), .int (nI c0), .int (nI c1), .int (nI c2)])) {fc : Nat → Option Nat} (hC : M (g + 3) = .inl (4, 3, ev_q fc)) (hfc : ∀ i, i < 3 → fc i = some (g + 19 + i)) {am wa : Int32} (hS : M (g + 19 + c2) = .inr (0, [.int am, .int wa])) (hc : c2 < 3) (hg : 40 < g) (hr : (rd_nums tn tb (fun k => (ev_stA 6).getD k 0) (fun k => (ev_stA 7).getD k 0) 2 0 ((rd_skip tn tb p) + ch_n 4) nm).1 = true) (he : rd_at tn tb (rd_skip tn tb (rd_nums tn tb (fun k => (ev_stA 6).getD k 0) (fun k => (ev_stA 7).getD k 0) 2 0 ((rd_skip tn tb p) + ch_n 4) nm).2.1) = 59)  : ev_Cal G mX7_readArcher 6 0 0 [.ref 22, .ref g] n M (ev_is (some (.int 1)) (ev_set (ev_set (ev_ml (ev_set M 22 (.inr (7, [.ref 23, .ref 24, .int (nI (((rd_skip tn tb p) + ch_n 4))), .int (nI tn)]))) [(22, .inr (7, [.ref 23, .ref 24, .int (nI ((rd_row tn tb (fun k => (ev_stA 6).getD k 0) (fun k => (ev_stA 7).getD k 0) 2 ((rd_skip tn tb p) + ch_n 4) nm).2.1)), .int (nI tn)])), (24, .inl (0, 6, .inl (rd_row tn tb (fun k => (ev_stA 6).getD k 0) (fun k => (ev_stA 7).getD k 0) 2 ((rd_skip tn tb p) + ch_n 4) nm).2.2))]) g (.inr (3, [.ref (g + 1), .ref (g + 2), .ref (g + 3), .int (nI c0), .int (nI c1), .int (nI (c2 + 1))]))) (g + 19 + c2) (.inr (0, [.int ((rd_nums tn tb (fun k => (ev_stA 6).getD k 0) (fun k => (ev_stA 7).getD k 0) 2 0 ((rd_skip tn tb p) + ch_n 4) nm).2.2 0), .int ((rd_nums tn tb (fun k => (ev_stA 6).getD k 0) (fun k => (ev_stA 7).getD k 0) 2 0 ((rd_skip tn tb p) + ch_n 4) nm).2.2 1)])))) := by
  refine ev_Cal_of (L := [some (.ref 22), some (.ref g), none, none]) (by decide +kernel) (Nat.le_of_ble_eq_true rfl) rfl ?_
  have hW2 : rd_W tn tb 4 (rd_skip tn tb (rd_skip tn tb p)) := by rw [rd_skip_skip hp]; exact hW
  refine ev_aload_n (i := 0) dX7_readArcher_0 rfl rfl ?_
  refine ev_ldcS (i := 3) dX7_readArcher_1 rfl (by decide) rfl ?_
  refine ev_c2 kX7_readArcher_3 (c7_takeWord_0 hTb hn (i := 3) (by decide) hsio h23 hp (rd_W_no hL)) (ev_rv_of (by first | exact h23 | exact ev_set_eq) rfl rfl) (by decide) (by decide) (Nat.le_of_ble_eq_true rfl) ?_
  refine ev_istore_n (i := 2) dX7_readArcher_6 rfl (Nat.le_of_ble_eq_true rfl) rfl ?_
  refine ev_iload_n (i := 2) dX7_readArcher_7 rfl rfl ?_
  refine ev_if_ne (tgt := 22) dX7_readArcher_8 (by decide) (fun h8 => False.elim (h8 rfl)) (fun h8 => ?_)
  refine ev_aload_n (i := 0) dX7_readArcher_11 rfl rfl ?_
  refine ev_ldcS (i := 4) dX7_readArcher_12 rfl (by decide) rfl ?_
  refine ev_c2 kX7_readArcher_14 (c7_takeWord_1 (p := (rd_skip tn tb p)) ((ev_set_ne (by decide)).trans hTb) hn (i := 4) (by decide) hsio ev_set_eq (rd_skip_le (tb := tb) hp).2 hW2.1 hW2.2) (ev_rv_of (by first | exact h23 | exact ev_set_eq) rfl rfl) (by decide) (by decide) (Nat.le_of_ble_eq_true rfl) ?_
  refine ev_mem (M2 := (ev_set M 22 (.inr (7, [.ref 23, .ref 24, .int (nI (((rd_skip tn tb p) + ch_n 4))), .int (nI tn)])))) (ev_set_set.trans (by rw [rd_skip_skip hp])) ?_
  refine ev_if_ne (tgt := 22) dX7_readArcher_17 (by decide) (fun h17 => ?_) (fun h17 => False.elim (absurd h17 (by decide)))
  exact l7_arch_0_y ((ev_set_ne (by decide)).trans hTb) hn ev_set_eq ((ev_set_ne (by decide)).trans h24) (rd_W_le (i := 4) (by decide) hW) ((ev_set_ne (by omega)).trans hG) ((ev_set_ne (by omega)).trans hC) hfc ((ev_set_ne (by omega)).trans hS) hc hg hr he
theorem c7_readArcher_no {G : ev_G} {n : Nat} {M : ev_M} {tn : Nat} {tb : Nat → Int32} (hTb : M 23 = .inl (0, 400, .inl tb)) (hn : tn ≤ 400) {p : Nat} {nm : Nat → Int32} (hsio : ev_hs G) (h23 : M 22 = .inr (7, [.ref 23, .ref 24, .int (nI (p)), .int (nI tn)])) (h24 : M 24 = .inl (0, 6, .inl nm)) (hp : p ≤ tn) {g : Nat} (hL : ¬ rd_W tn tb 3 (rd_skip tn tb p)) (hW : ¬ rd_W tn tb 4 (rd_skip tn tb p)) : ev_Cal G mX7_readArcher 6 0 0 [.ref 22, .ref g] n M (ev_is (some (.int 0)) (ev_set M 22 (.inr (7, [.ref 23, .ref 24, .int (nI ((rd_skip tn tb p))), .int (nI tn)])))) := by
  refine ev_Cal_of (L := [some (.ref 22), some (.ref g), none, none]) (by decide +kernel) (Nat.le_of_ble_eq_true rfl) rfl ?_
  have hW2 : ¬ rd_W tn tb 4 (rd_skip tn tb (rd_skip tn tb p)) := by rw [rd_skip_skip hp]; exact hW
  refine ev_aload_n (i := 0) dX7_readArcher_0 rfl rfl ?_
  refine ev_ldcS (i := 3) dX7_readArcher_1 rfl (by decide) rfl ?_
  refine ev_c2 kX7_readArcher_3 (c7_takeWord_0 hTb hn (i := 3) (by decide) hsio h23 hp (rd_W_no hL)) (ev_rv_of (by first | exact h23 | exact ev_set_eq) rfl rfl) (by decide) (by decide) (Nat.le_of_ble_eq_true rfl) ?_
  refine ev_istore_n (i := 2) dX7_readArcher_6 rfl (Nat.le_of_ble_eq_true rfl) rfl ?_
  refine ev_iload_n (i := 2) dX7_readArcher_7 rfl rfl ?_
  refine ev_if_ne (tgt := 22) dX7_readArcher_8 (by decide) (fun h8 => False.elim (h8 rfl)) (fun h8 => ?_)
  refine ev_aload_n (i := 0) dX7_readArcher_11 rfl rfl ?_
  refine ev_ldcS (i := 4) dX7_readArcher_12 rfl (by decide) rfl ?_
  refine ev_c2 kX7_readArcher_14 (c7_takeWord_0 (p := (rd_skip tn tb p)) ((ev_set_ne (by decide)).trans hTb) hn (i := 4) (by decide) hsio ev_set_eq (rd_skip_le (tb := tb) hp).2 (rd_W_no hW2)) (ev_rv_of (by first | exact h23 | exact ev_set_eq) rfl rfl) (by decide) (by decide) (Nat.le_of_ble_eq_true rfl) ?_
  refine ev_mem (M2 := (ev_set M 22 (.inr (7, [.ref 23, .ref 24, .int (nI ((rd_skip tn tb p))), .int (nI tn)])))) (ev_set_set.trans (by rw [rd_skip_skip hp])) ?_
  refine ev_if_ne (tgt := 22) dX7_readArcher_17 (by decide) (fun h17 => False.elim (h17 rfl)) (fun h17 => ?_)
  refine ev_iconst (v := 0) dX7_readArcher_20 cni_0 ?_
  exact ev_reti dX7_readArcher_21 rfl rfl (⟨rfl, rfl⟩)
