/-! ===== contracts: the class: flocks found ===== -/
theorem l2_findj {G : ev_G} {n : Nat} {M : ev_M} {sz : Nat} {q0 q1 q2 : Nat → Int32} (h36 : M 36 = .inl (0, 12, .inl q0)) (h37 : M 37 = .inl (0, 12, .inl q1)) (h38 : M 38 = .inl (0, 12, .inl q2)) (hsz : sz ≤ 12) {d e : Int32} {B : Int32 × Int32} {i : Nat} (hi : i < sz) {Post : Option Value → ev_M → Prop} (K : ∀ z : Option Value, ev_E G mX2_find 3 0 0 n (ev_set M 35 (.inr (2, [.ref 36, .ref 37, .ref 38, .int (nI sz), .int ((fl_j q0 q1 q2 sz d e i (sz) B).1), .int ((fl_j q0 q1 q2 sz d e i (sz) B).2)]))) 76 [some (.ref 35), some (.int d), some (.int e), some (.int (nI i)), z] [] Post) : ∀ (m k : Nat), k + m = sz → ev_E G mX2_find 3 0 0 n (ev_set M 35 (.inr (2, [.ref 36, .ref 37, .ref 38, .int (nI sz), .int ((fl_j q0 q1 q2 sz d e i (k) B).1), .int ((fl_j q0 q1 q2 sz d e i (k) B).2)]))) 23 [some (.ref 35), some (.int d), some (.int e), some (.int (nI i)), some (.int (nI k))] [] (Post) := by
  intro m
  induction m with
  | zero =>
    intro k hk
    refine ev_iload dX2_find_23 rfl ?_
    refine ev_aload_n (i := 0) dX2_find_25 rfl rfl ?_
    refine ev_getf dX2_find_26 flX2_21 (by first | exact ev_set_eq | exact (ev_set_ne (by decide)).trans h36 | exact (ev_set_ne (by decide)).trans h37 | exact (ev_set_ne (by decide)).trans h38) (by rfl) ?_
    refine ev_icmp_ge (tgt := 76) dX2_find_29 (by decide) (fun h29 => ?_) (fun h29 => False.elim (nI_nlt (a := k) (b := sz) (by omega) (by omega) h29))
    obtain rfl : k = sz := by omega
    exact K _
  | succ m ih =>
    intro k hk
    refine ev_iload dX2_find_23 rfl ?_
    refine ev_aload_n (i := 0) dX2_find_25 rfl rfl ?_
    refine ev_getf dX2_find_26 flX2_21 (by first | exact ev_set_eq | exact (ev_set_ne (by decide)).trans h36 | exact (ev_set_ne (by decide)).trans h37 | exact (ev_set_ne (by decide)).trans h38) (by rfl) ?_
    refine ev_icmp_ge (tgt := 76) dX2_find_29 (by decide) (fun h29 => False.elim (nI_ge (a := k) (b := sz) (by omega) (by omega) h29)) (fun h29 => ?_)
    refine ev_aload_n (i := 0) dX2_find_32 rfl rfl ?_
    refine ev_aload_n (i := 0) dX2_find_33 rfl rfl ?_
    refine ev_getf dX2_find_34 flX2_9 (by first | exact ev_set_eq | exact (ev_set_ne (by decide)).trans h36 | exact (ev_set_ne (by decide)).trans h37 | exact (ev_set_ne (by decide)).trans h38) (by rfl) ?_
    refine ev_iload_n (i := 3) dX2_find_37 rfl rfl ?_
    refine ev_iald (j := i) dX2_find_38 (by first | exact ev_set_eq | exact (ev_set_ne (by decide)).trans h36 | exact (ev_set_ne (by decide)).trans h37 | exact (ev_set_ne (by decide)).trans h38) (ev_ix_nI (by omega)) (by omega) ?_
    refine ev_iload_n (i := 1) dX2_find_39 rfl rfl ?_
    refine ev_aload_n (i := 0) dX2_find_40 rfl rfl ?_
    refine ev_getf dX2_find_41 flX2_18 (by first | exact ev_set_eq | exact (ev_set_ne (by decide)).trans h36 | exact (ev_set_ne (by decide)).trans h37 | exact (ev_set_ne (by decide)).trans h38) (by rfl) ?_
    refine ev_iload dX2_find_44 rfl ?_
    refine ev_iald (j := k) dX2_find_46 (by first | exact ev_set_eq | exact (ev_set_ne (by decide)).trans h36 | exact (ev_set_ne (by decide)).trans h37 | exact (ev_set_ne (by decide)).trans h38) (ev_ix_nI (by omega)) (by omega) ?_
    refine ev_iload_n (i := 2) dX2_find_47 rfl rfl ?_
    refine ev_w5 kX2_find_48 (c2_tryFrom ev_set_eq ((ev_set_ne (by decide)).trans h36) ((ev_set_ne (by decide)).trans h37) ((ev_set_ne (by decide)).trans h38) hsz) (ev_rv_of (by first | exact ev_set_eq | exact (ev_set_ne (by decide)).trans h36 | exact (ev_set_ne (by decide)).trans h37 | exact (ev_set_ne (by decide)).trans h38) rfl rfl) (by decide) (by decide) (Nat.le_of_ble_eq_true rfl) ?_
    refine ev_mem ev_set_set ?_
    refine ev_aload_n (i := 0) dX2_find_51 rfl rfl ?_
    refine ev_aload_n (i := 0) dX2_find_52 rfl rfl ?_
    refine ev_getf dX2_find_53 flX2_15 (by first | exact ev_set_eq | exact (ev_set_ne (by decide)).trans h36 | exact (ev_set_ne (by decide)).trans h37 | exact (ev_set_ne (by decide)).trans h38) (by rfl) ?_
    refine ev_iload_n (i := 3) dX2_find_56 rfl rfl ?_
    refine ev_iald (j := i) dX2_find_57 (by first | exact ev_set_eq | exact (ev_set_ne (by decide)).trans h36 | exact (ev_set_ne (by decide)).trans h37 | exact (ev_set_ne (by decide)).trans h38) (ev_ix_nI (by omega)) (by omega) ?_
    refine ev_iload_n (i := 1) dX2_find_58 rfl rfl ?_
    refine ev_aload_n (i := 0) dX2_find_59 rfl rfl ?_
    refine ev_getf dX2_find_60 flX2_18 (by first | exact ev_set_eq | exact (ev_set_ne (by decide)).trans h36 | exact (ev_set_ne (by decide)).trans h37 | exact (ev_set_ne (by decide)).trans h38) (by rfl) ?_
    refine ev_iload dX2_find_63 rfl ?_
    refine ev_iald (j := k) dX2_find_65 (by first | exact ev_set_eq | exact (ev_set_ne (by decide)).trans h36 | exact (ev_set_ne (by decide)).trans h37 | exact (ev_set_ne (by decide)).trans h38) (ev_ix_nI (by omega)) (by omega) ?_
    refine ev_iload_n (i := 2) dX2_find_66 rfl rfl ?_
    refine ev_w5 kX2_find_67 (c2_tryFrom ev_set_eq ((ev_set_ne (by decide)).trans h36) ((ev_set_ne (by decide)).trans h37) ((ev_set_ne (by decide)).trans h38) hsz) (ev_rv_of (by first | exact ev_set_eq | exact (ev_set_ne (by decide)).trans h36 | exact (ev_set_ne (by decide)).trans h37 | exact (ev_set_ne (by decide)).trans h38) rfl rfl) (by decide) (by decide) (Nat.le_of_ble_eq_true rfl) ?_
    refine ev_mem ev_set_set ?_
    refine ev_iinc (v := nI (k + 1)) dX2_find_70 rfl (nI_1 k) (Nat.le_of_ble_eq_true rfl) rfl ?_
    refine ev_goto (tgt := 23) dX2_find_73 (by decide) ?_
    exact ih (k + 1) (by omega)
theorem l2_findi {G : ev_G} {n : Nat} {M : ev_M} {sz : Nat} {q0 q1 q2 : Nat → Int32} (h36 : M 36 = .inl (0, 12, .inl q0)) (h37 : M 37 = .inl (0, 12, .inl q1)) (h38 : M 38 = .inl (0, 12, .inl q2)) (hsz : sz ≤ 12) {d e : Int32} : ∀ (m k : Nat) (z : Option Value), k + m = sz → ev_E G mX2_find 3 0 0 n (ev_set M 35 (.inr (2, [.ref 36, .ref 37, .ref 38, .int (nI sz), .int ((fl_i q0 q1 q2 sz d e (k) (0, 0)).1), .int ((fl_i q0 q1 q2 sz d e (k) (0, 0)).2)]))) 12 [some (.ref 35), some (.int d), some (.int e), some (.int (nI k)), z] [] (ev_is none (ev_set M 35 (.inr (2, [.ref 36, .ref 37, .ref 38, .int (nI sz), .int ((fl_i q0 q1 q2 sz d e (sz) (0, 0)).1), .int ((fl_i q0 q1 q2 sz d e (sz) (0, 0)).2)])))) := by
  intro m
  induction m with
  | zero =>
    intro k z hk
    refine ev_iload_n (i := 3) dX2_find_12 rfl rfl ?_
    refine ev_aload_n (i := 0) dX2_find_13 rfl rfl ?_
    refine ev_getf dX2_find_14 flX2_21 (by first | exact ev_set_eq | exact (ev_set_ne (by decide)).trans h36 | exact (ev_set_ne (by decide)).trans h37 | exact (ev_set_ne (by decide)).trans h38) (by rfl) ?_
    refine ev_icmp_ge (tgt := 82) dX2_find_17 (by decide) (fun h17 => ?_) (fun h17 => False.elim (nI_nlt (a := k) (b := sz) (by omega) (by omega) h17))
    obtain rfl : k = sz := by omega
    exact ev_retv dX2_find_82 rfl (⟨rfl, rfl⟩)
  | succ m ih =>
    intro k z hk
    refine ev_iload_n (i := 3) dX2_find_12 rfl rfl ?_
    refine ev_aload_n (i := 0) dX2_find_13 rfl rfl ?_
    refine ev_getf dX2_find_14 flX2_21 (by first | exact ev_set_eq | exact (ev_set_ne (by decide)).trans h36 | exact (ev_set_ne (by decide)).trans h37 | exact (ev_set_ne (by decide)).trans h38) (by rfl) ?_
    refine ev_icmp_ge (tgt := 82) dX2_find_17 (by decide) (fun h17 => False.elim (nI_ge (a := k) (b := sz) (by omega) (by omega) h17)) (fun h17 => ?_)
    refine ev_iconst (v := 0) dX2_find_20 cni_0 ?_
    refine ev_istore dX2_find_21 (Nat.le_of_ble_eq_true rfl) rfl ?_
    refine l2_findj (B := fl_i q0 q1 q2 sz d e (k) (0, 0)) h36 h37 h38 hsz (i := k) (by omega) (fun z => ?_) sz 0 (Nat.zero_add _)
    refine ev_iinc (v := nI (k + 1)) dX2_find_76 rfl (nI_1 k) (Nat.le_of_ble_eq_true rfl) rfl ?_
    refine ev_goto (tgt := 12) dX2_find_79 (by decide) ?_
    exact ih (k + 1) _ (by omega)
theorem c2_find {G : ev_G} {n : Nat} {M : ev_M} {b0 b1 : Int32} {sz : Nat} (h35 : M 35 = .inr (2, [.ref 36, .ref 37, .ref 38, .int (nI sz), .int (b0), .int (b1)])) {q0 q1 q2 : Nat → Int32} (h36 : M 36 = .inl (0, 12, .inl q0)) (h37 : M 37 = .inl (0, 12, .inl q1)) (h38 : M 38 = .inl (0, 12, .inl q2)) (hsz : sz ≤ 12) {d e : Int32}  : ev_Cal G mX2_find 3 0 0 [.ref 35, .int d, .int e] n M (ev_is none (ev_set M 35 (.inr (2, [.ref 36, .ref 37, .ref 38, .int (nI sz), .int ((fl_i q0 q1 q2 sz d e (sz) (0, 0)).1), .int ((fl_i q0 q1 q2 sz d e (sz) (0, 0)).2)])))) := by
  refine ev_Cal_of (L := [some (.ref 35), some (.int d), some (.int e), none, none]) (by decide +kernel) (Nat.le_of_ble_eq_true rfl) rfl ?_
  refine ev_pre1 h35 ?_
  refine ev_aload_n (i := 0) dX2_find_0 rfl rfl ?_
  refine ev_iconst (v := 0) dX2_find_1 cni_0 ?_
  refine ev_putiU dX2_find_2 fpX2_62 (Nat.le_of_ble_eq_true rfl) ?_
  refine ev_aload_n (i := 0) dX2_find_5 rfl rfl ?_
  refine ev_iconst (v := 0) dX2_find_6 cni_0 ?_
  refine ev_putiU dX2_find_7 fpX2_65 (Nat.le_of_ble_eq_true rfl) ?_
  refine ev_iconst (v := 0) dX2_find_10 cni_0 ?_
  refine ev_istore_n (i := 3) dX2_find_11 rfl (Nat.le_of_ble_eq_true rfl) rfl ?_
  exact l2_findi h36 h37 h38 hsz sz 0 none (Nat.zero_add _)
def fl_mix (k : Nat) (V q : Nat → Int32) : Nat → Int32 := fun i => if i < k then V i else q i
theorem fl_mix_S {k : Nat} {V q : Nat → Int32} : upd (fl_mix k V q) k (V k) = fl_mix (k + 1) V q := by
  funext i
  simp only [upd, fl_mix]
  by_cases h : i = k
  · rw [if_pos h, if_pos (by omega), h]
  · rw [if_neg h]
    by_cases h2 : i < k
    · rw [if_pos h2, if_pos (by omega)]
    · rw [if_neg h2, if_neg (by omega)]
theorem fl_mix_0 {V q : Nat → Int32} : fl_mix 0 V q = q := by funext i; exact if_neg (by omega)
theorem fl_mix_in {k i : Nat} {V q : Nat → Int32} (h : i < k) : fl_mix k V q i = V i := if_pos h
theorem fl_out {M : ev_M} {a : Nat} {x0 x1 x2 x3 : ev_MC} (h : a < 35 ∨ 38 < a) : ev_ml M [(35, x0), (36, x1), (37, x2), (38, x3)] a = M a := ev_ml_out _ (by simp only [List.map_cons, List.map_nil, List.mem_cons, List.not_mem_nil, or_false, not_or]; omega)
def fl_W (tu s : Nat → Int32) (dr wi mt z : Int32) (q : Nat) : Int32 := fl_V tu s dr wi q (if mt = 1 then z else s (7 * q + 6))
theorem l2_gather_0 {G : ev_G} {n : Nat} {M : ev_M} {g c0 c1 c2 : Nat} (hG : M g = .inr (3, [.ref (g + 1), .ref (g + 2), .ref (g + 3), .int (nI c0), .int (nI c1), .int (nI c2)])) {fa : Nat → Option Nat} (hA : M (g + 1) = .inl (2, 12, ev_q fa)) (hfa : ∀ i, i < 12 → fa i = some (g + 4 + i)) {tu : Nat → Int32} (hT : M 25 = .inr (10, [.ref 26])) (hV : M 26 = .inl (0, 4, .inl tu)) (hc : c0 ≤ 12) {bb : Nat} {dr wi : Int32} (hW : M bb = .inr (1, [.int dr, .int wi])) {s : Nat → Int32} (hS : ∀ i, i < c0 → cl_stk M (g + 4 + i) (fun k => s (7 * i + k))) (hg : 40 < g) (hb4 : 40 < bb) {b0 b1 zz : Int32} {q0 q1 q2 : Nat → Int32} (h35 : M 35 = .inr (2, [.ref 36, .ref 37, .ref 38, .int (zz), .int (b0), .int (b1)])) (h36 : M 36 = .inl (0, 12, .inl q0)) (h37 : M 37 = .inl (0, 12, .inl q1)) (h38 : M 38 = .inl (0, 12, .inl q2)) : ∀ (m k : Nat) (z6 z7 z8 : Option Value), k + m = c0 → ev_E G mX2_gather 6 0 0 n (ev_ml M [(35, .inr (2, [.ref 36, .ref 37, .ref 38, .int (nI (k)), .int (b0), .int (b1)])), (36, .inl (0, 12, .inl (fl_mix (k) (fl_W tu s dr wi 0 0) q0))), (37, .inl (0, 12, .inl (fl_mix (k) (fl_W tu s dr wi 0 1) q1))), (38, .inl (0, 12, .inl (fl_mix (k) (fl_D s dr) q2)))]) 8 [some (.ref 35), some (.ref g), some (.ref bb), some (.ref 25), some (.int 0), some (.int (nI k)), z6, z7, z8] [] (ev_is none (ev_ml M [(35, .inr (2, [.ref 36, .ref 37, .ref 38, .int (nI (c0)), .int (b0), .int (b1)])), (36, .inl (0, 12, .inl (fl_mix (c0) (fl_W tu s dr wi 0 0) q0))), (37, .inl (0, 12, .inl (fl_mix (c0) (fl_W tu s dr wi 0 1) q1))), (38, .inl (0, 12, .inl (fl_mix (c0) (fl_D s dr) q2)))])) := by
  intro m
  induction m with
  | zero =>
    intro k z6 z7 z8 hk
    refine ev_iload dX2_gather_8 rfl ?_
    refine ev_aload_n (i := 1) dX2_gather_10 rfl rfl ?_
    refine ev_getf dX2_gather_11 flX2_25 (by first | rfl | exact (fl_out (by omega)).trans hG | exact (fl_out (by omega)).trans hA | exact (fl_out (by omega)).trans hT | exact (fl_out (by omega)).trans hV | exact (fl_out (by omega)).trans hSk | exact (fl_out (by omega)).trans hW) (by rfl) ?_
    refine ev_icmp_ge (tgt := 162) dX2_gather_14 (by decide) (fun h14 => ?_) (fun h14 => False.elim (nI_nlt (a := k) (b := c0) (by omega) (by omega) h14))
    obtain rfl : k = c0 := by omega
    exact ev_retv dX2_gather_162 rfl (⟨rfl, rfl⟩)
  | succ m ih =>
    intro k z6 z7 z8 hk
    have hSk : M (g + 4 + k) = .inr (9, [.int (s (7 * k + 0)), .int (s (7 * k + 1)), .int (s (7 * k + 2)), .int (s (7 * k + 3)), .int (s (7 * k + 4)), .int (s (7 * k + 5)), .int (s (7 * k + 6))]) := hS k (by omega)
    refine ev_iload dX2_gather_8 rfl ?_
    refine ev_aload_n (i := 1) dX2_gather_10 rfl rfl ?_
    refine ev_getf dX2_gather_11 flX2_25 (by first | rfl | exact (fl_out (by omega)).trans hG | exact (fl_out (by omega)).trans hA | exact (fl_out (by omega)).trans hT | exact (fl_out (by omega)).trans hV | exact (fl_out (by omega)).trans hSk | exact (fl_out (by omega)).trans hW) (by rfl) ?_
    refine ev_icmp_ge (tgt := 162) dX2_gather_14 (by decide) (fun h14 => False.elim (nI_ge (a := k) (b := c0) (by omega) (by omega) h14)) (fun h14 => ?_)
    refine ev_iload dX2_gather_17 rfl ?_
    refine ev_aload_n (i := 0) dX2_gather_19 rfl rfl ?_
    refine ev_getf dX2_gather_20 flX2_18 (by first | rfl | exact (fl_out (by omega)).trans hG | exact (fl_out (by omega)).trans hA | exact (fl_out (by omega)).trans hT | exact (fl_out (by omega)).trans hV | exact (fl_out (by omega)).trans hSk | exact (fl_out (by omega)).trans hW) (by rfl) ?_
    refine ev_alen (v := 12) dX2_gather_23 (fun _ => rfl) (by first | rfl | exact (fl_out (by omega)).trans hG | exact (fl_out (by omega)).trans hA | exact (fl_out (by omega)).trans hT | exact (fl_out (by omega)).trans hV | exact (fl_out (by omega)).trans hSk | exact (fl_out (by omega)).trans hW) (by rfl) ?_
    refine ev_icmp_ge (tgt := 162) dX2_gather_24 (by decide) (fun h24 => False.elim (nI_ge (a := k) (b := 12) (by omega) (by decide) h24)) (fun h24 => ?_)
    refine ev_aload_n (i := 1) dX2_gather_27 rfl rfl ?_
    refine ev_getf dX2_gather_28 flX2_30 (by first | rfl | exact (fl_out (by omega)).trans hG | exact (fl_out (by omega)).trans hA | exact (fl_out (by omega)).trans hT | exact (fl_out (by omega)).trans hV | exact (fl_out (by omega)).trans hSk | exact (fl_out (by omega)).trans hW) (by rfl) ?_
    refine ev_iload dX2_gather_31 rfl ?_
    refine ev_aald (j := k) dX2_gather_33 (fun _ => rfl) (by first | rfl | exact (fl_out (by omega)).trans hG | exact (fl_out (by omega)).trans hA | exact (fl_out (by omega)).trans hT | exact (fl_out (by omega)).trans hV | exact (fl_out (by omega)).trans hSk | exact (fl_out (by omega)).trans hW) (ev_ix_nI (by omega)) (by omega) (hfa k (by omega)) ?_
    refine ev_astore dX2_gather_34 (Nat.le_of_ble_eq_true rfl) rfl ?_
    refine ev_iload dX2_gather_36 rfl ?_
    refine ev_if_eq (tgt := 45) dX2_gather_38 (by decide) (fun h38 => ?_) (fun h38 => False.elim (absurd rfl h38))
    refine ev_aload dX2_gather_45 rfl ?_
    refine ev_getf dX2_gather_47 flX2_34 (by first | rfl | exact (fl_out (by omega)).trans hG | exact (fl_out (by omega)).trans hA | exact (fl_out (by omega)).trans hT | exact (fl_out (by omega)).trans hV | exact (fl_out (by omega)).trans hSk | exact (fl_out (by omega)).trans hW) (by rfl) ?_
    refine ev_istore dX2_gather_50 (Nat.le_of_ble_eq_true rfl) rfl ?_
    refine ev_iload dX2_gather_52 rfl ?_
    refine ev_if_eq (tgt := 61) dX2_gather_54 (by decide) (fun h54 => ?_) (fun h54 => False.elim (absurd rfl h54))
    refine ev_aload dX2_gather_61 rfl ?_
    refine ev_getf dX2_gather_63 flX2_34 (by first | rfl | exact (fl_out (by omega)).trans hG | exact (fl_out (by omega)).trans hA | exact (fl_out (by omega)).trans hT | exact (fl_out (by omega)).trans hV | exact (fl_out (by omega)).trans hSk | exact (fl_out (by omega)).trans hW) (by rfl) ?_
    refine ev_istore dX2_gather_66 (Nat.le_of_ble_eq_true rfl) rfl ?_
    refine ev_aload_n (i := 0) dX2_gather_68 rfl rfl ?_
    refine ev_getf dX2_gather_69 flX2_9 (by first | rfl | exact (fl_out (by omega)).trans hG | exact (fl_out (by omega)).trans hA | exact (fl_out (by omega)).trans hT | exact (fl_out (by omega)).trans hV | exact (fl_out (by omega)).trans hSk | exact (fl_out (by omega)).trans hW) (by rfl) ?_
    refine ev_iload dX2_gather_72 rfl ?_
    refine ev_aload_n (i := 3) dX2_gather_74 rfl rfl ?_
    refine ev_aload dX2_gather_75 rfl ?_
    refine ev_aload dX2_gather_77 rfl ?_
    refine ev_iload dX2_gather_79 rfl ?_
    refine ev_c2 kX2_gather_81 (c9_spineBy ((fl_out (by omega)).trans hSk)) (ev_rv_of (by first | rfl | exact (fl_out (by omega)).trans hG | exact (fl_out (by omega)).trans hA | exact (fl_out (by omega)).trans hT | exact (fl_out (by omega)).trans hV | exact (fl_out (by omega)).trans hSk | exact (fl_out (by omega)).trans hW) rfl rfl) (by decide) (by decide) (Nat.le_of_ble_eq_true rfl) ?_
    refine ev_aload_n (i := 2) dX2_gather_84 rfl rfl ?_
    refine ev_c1 kX2_gather_85 (c1_need ((fl_out (by omega)).trans hW)) (ev_rv_of (by first | rfl | exact (fl_out (by omega)).trans hG | exact (fl_out (by omega)).trans hA | exact (fl_out (by omega)).trans hT | exact (fl_out (by omega)).trans hV | exact (fl_out (by omega)).trans hSk | exact (fl_out (by omega)).trans hW) rfl rfl) (by decide) (by decide) (Nat.le_of_ble_eq_true rfl) ?_
    refine ev_isub dX2_gather_88 ?_
    refine ev_aload dX2_gather_89 rfl ?_
    refine ev_getf dX2_gather_91 flX2_49 (by first | rfl | exact (fl_out (by omega)).trans hG | exact (fl_out (by omega)).trans hA | exact (fl_out (by omega)).trans hT | exact (fl_out (by omega)).trans hV | exact (fl_out (by omega)).trans hSk | exact (fl_out (by omega)).trans hW) (by rfl) ?_
    refine ev_c4 kX2_gather_94 (c11_goesOf ((fl_out (by omega)).trans hT) ((fl_out (by omega)).trans hV) ((fl_out (by omega)).trans hSk)) (ev_rv_of (by first | rfl | exact (fl_out (by omega)).trans hG | exact (fl_out (by omega)).trans hA | exact (fl_out (by omega)).trans hT | exact (fl_out (by omega)).trans hV | exact (fl_out (by omega)).trans hSk | exact (fl_out (by omega)).trans hW) rfl rfl) (by decide) (by decide) (Nat.le_of_ble_eq_true rfl) ?_
    refine ev_iastP 1 (j := k) dX2_gather_97 (by rfl) (by rfl) (ev_ix_nI (by omega)) (by omega) (by rfl) (by rfl) ?_
    refine ev_aload_n (i := 0) dX2_gather_98 rfl rfl ?_
    refine ev_getf dX2_gather_99 flX2_15 (by first | rfl | exact (fl_out (by omega)).trans hG | exact (fl_out (by omega)).trans hA | exact (fl_out (by omega)).trans hT | exact (fl_out (by omega)).trans hV | exact (fl_out (by omega)).trans hSk | exact (fl_out (by omega)).trans hW) (by rfl) ?_
    refine ev_iload dX2_gather_102 rfl ?_
    refine ev_aload_n (i := 3) dX2_gather_104 rfl rfl ?_
    refine ev_aload dX2_gather_105 rfl ?_
    refine ev_aload dX2_gather_107 rfl ?_
    refine ev_iload dX2_gather_109 rfl ?_
    refine ev_c2 kX2_gather_111 (c9_spineBy ((fl_out (by omega)).trans hSk)) (ev_rv_of (by first | rfl | exact (fl_out (by omega)).trans hG | exact (fl_out (by omega)).trans hA | exact (fl_out (by omega)).trans hT | exact (fl_out (by omega)).trans hV | exact (fl_out (by omega)).trans hSk | exact (fl_out (by omega)).trans hW) rfl rfl) (by decide) (by decide) (Nat.le_of_ble_eq_true rfl) ?_
    refine ev_aload_n (i := 2) dX2_gather_114 rfl rfl ?_
    refine ev_c1 kX2_gather_115 (c1_need ((fl_out (by omega)).trans hW)) (ev_rv_of (by first | rfl | exact (fl_out (by omega)).trans hG | exact (fl_out (by omega)).trans hA | exact (fl_out (by omega)).trans hT | exact (fl_out (by omega)).trans hV | exact (fl_out (by omega)).trans hSk | exact (fl_out (by omega)).trans hW) rfl rfl) (by decide) (by decide) (Nat.le_of_ble_eq_true rfl) ?_
    refine ev_isub dX2_gather_118 ?_
    refine ev_aload dX2_gather_119 rfl ?_
    refine ev_getf dX2_gather_121 flX2_49 (by first | rfl | exact (fl_out (by omega)).trans hG | exact (fl_out (by omega)).trans hA | exact (fl_out (by omega)).trans hT | exact (fl_out (by omega)).trans hV | exact (fl_out (by omega)).trans hSk | exact (fl_out (by omega)).trans hW) (by rfl) ?_
    refine ev_c4 kX2_gather_124 (c11_goesOf ((fl_out (by omega)).trans hT) ((fl_out (by omega)).trans hV) ((fl_out (by omega)).trans hSk)) (ev_rv_of (by first | rfl | exact (fl_out (by omega)).trans hG | exact (fl_out (by omega)).trans hA | exact (fl_out (by omega)).trans hT | exact (fl_out (by omega)).trans hV | exact (fl_out (by omega)).trans hSk | exact (fl_out (by omega)).trans hW) rfl rfl) (by decide) (by decide) (Nat.le_of_ble_eq_true rfl) ?_
    refine ev_iastP 2 (j := k) dX2_gather_127 (by rfl) (by rfl) (ev_ix_nI (by omega)) (by omega) (by rfl) (by rfl) ?_
    refine ev_aload_n (i := 0) dX2_gather_128 rfl rfl ?_
    refine ev_getf dX2_gather_129 flX2_18 (by first | rfl | exact (fl_out (by omega)).trans hG | exact (fl_out (by omega)).trans hA | exact (fl_out (by omega)).trans hT | exact (fl_out (by omega)).trans hV | exact (fl_out (by omega)).trans hSk | exact (fl_out (by omega)).trans hW) (by rfl) ?_
    refine ev_iload dX2_gather_132 rfl ?_
    refine ev_aload_n (i := 2) dX2_gather_134 rfl rfl ?_
    refine ev_aload dX2_gather_135 rfl ?_
    refine ev_aload dX2_gather_137 rfl ?_
    refine ev_getf dX2_gather_139 flX2_49 (by first | rfl | exact (fl_out (by omega)).trans hG | exact (fl_out (by omega)).trans hA | exact (fl_out (by omega)).trans hT | exact (fl_out (by omega)).trans hV | exact (fl_out (by omega)).trans hSk | exact (fl_out (by omega)).trans hW) (by rfl) ?_
    refine ev_c3 kX2_gather_142 (c1_dropOf ((fl_out (by omega)).trans hW) ((fl_out (by omega)).trans hSk)) (ev_rv_of (by first | rfl | exact (fl_out (by omega)).trans hG | exact (fl_out (by omega)).trans hA | exact (fl_out (by omega)).trans hT | exact (fl_out (by omega)).trans hV | exact (fl_out (by omega)).trans hSk | exact (fl_out (by omega)).trans hW) rfl rfl) (by decide) (by decide) (Nat.le_of_ble_eq_true rfl) ?_
    refine ev_iastP 3 (j := k) dX2_gather_145 (by rfl) (by rfl) (ev_ix_nI (by omega)) (by omega) (by rfl) (by rfl) ?_
    refine ev_aload_n (i := 0) dX2_gather_146 rfl rfl ?_
    refine ev_dup dX2_gather_147 rfl ?_
    refine ev_getf dX2_gather_148 flX2_21 (by first | rfl | exact (fl_out (by omega)).trans hG | exact (fl_out (by omega)).trans hA | exact (fl_out (by omega)).trans hT | exact (fl_out (by omega)).trans hV | exact (fl_out (by omega)).trans hSk | exact (fl_out (by omega)).trans hW) (by rfl) ?_
    refine ev_iconst (v := 1) dX2_gather_151 cni_1 ?_
    refine ev_iadd dX2_gather_152 ?_
    refine ev_topi (nI_1 k) ?_
    refine ev_putiP 0 dX2_gather_153 fpX2_21 (by rfl) (by rfl) (Nat.le_of_ble_eq_true rfl) (by rfl) (by rfl) ?_
    refine ev_iinc (v := nI (k + 1)) dX2_gather_156 rfl (nI_1 k) (Nat.le_of_ble_eq_true rfl) rfl ?_
    refine ev_goto (tgt := 8) dX2_gather_159 (by decide) ?_
    refine ev_mem ?_ (ih (k + 1) _ _ _ (by omega))
    rw [← fl_mix_S (k := k) (V := fl_W tu s dr wi 0 0) (q := q0), ← fl_mix_S (k := k) (V := fl_W tu s dr wi 0 1) (q := q1), ← fl_mix_S (k := k) (V := fl_D s dr) (q := q2)]
    rfl
theorem c2_gather_0 {G : ev_G} {n : Nat} {M : ev_M} {g c0 c1 c2 : Nat} (hG : M g = .inr (3, [.ref (g + 1), .ref (g + 2), .ref (g + 3), .int (nI c0), .int (nI c1), .int (nI c2)])) {fa : Nat → Option Nat} (hA : M (g + 1) = .inl (2, 12, ev_q fa)) (hfa : ∀ i, i < 12 → fa i = some (g + 4 + i)) {tu : Nat → Int32} (hT : M 25 = .inr (10, [.ref 26])) (hV : M 26 = .inl (0, 4, .inl tu)) (hc : c0 ≤ 12) {bb : Nat} {dr wi : Int32} (hW : M bb = .inr (1, [.int dr, .int wi])) {s : Nat → Int32} (hS : ∀ i, i < c0 → cl_stk M (g + 4 + i) (fun k => s (7 * i + k))) (hg : 40 < g) (hb4 : 40 < bb) {b0 b1 zz : Int32} {q0 q1 q2 : Nat → Int32} (h35 : M 35 = .inr (2, [.ref 36, .ref 37, .ref 38, .int (zz), .int (b0), .int (b1)])) (h36 : M 36 = .inl (0, 12, .inl q0)) (h37 : M 37 = .inl (0, 12, .inl q1)) (h38 : M 38 = .inl (0, 12, .inl q2))  : ev_Cal G mX2_gather 6 0 0 [.ref 35, .ref g, .ref bb, .ref 25, .int 0] n M (ev_is none (ev_ml M [(35, .inr (2, [.ref 36, .ref 37, .ref 38, .int (nI (c0)), .int (b0), .int (b1)])), (36, .inl (0, 12, .inl (fl_mix (c0) (fl_W tu s dr wi 0 0) q0))), (37, .inl (0, 12, .inl (fl_mix (c0) (fl_W tu s dr wi 0 1) q1))), (38, .inl (0, 12, .inl (fl_mix (c0) (fl_D s dr) q2)))])) := by
  refine ev_Cal_of (L := [some (.ref 35), some (.ref g), some (.ref bb), some (.ref 25), some (.int 0), none, none, none, none]) (by decide +kernel) (Nat.le_of_ble_eq_true rfl) rfl ?_
  refine ev_track (l := [(35, .inr (2, [.ref 36, .ref 37, .ref 38, .int (zz), .int (b0), .int (b1)])), (36, .inl (0, 12, .inl q0)), (37, .inl (0, 12, .inl q1)), (38, .inl (0, 12, .inl q2))]) (ev_fa1 h35 (ev_fa1 h36 (ev_fa1 h37 (ev_fa1 h38 ev_fa0)))) ?_
  refine ev_aload_n (i := 0) dX2_gather_0 rfl rfl ?_
  refine ev_iconst (v := 0) dX2_gather_1 cni_0 ?_
  refine ev_putiP 0 dX2_gather_2 fpX2_21 (by rfl) (by rfl) (Nat.le_of_ble_eq_true rfl) (by rfl) (by rfl) ?_
  refine ev_iconst (v := 0) dX2_gather_5 cni_0 ?_
  refine ev_istore dX2_gather_6 (Nat.le_of_ble_eq_true rfl) rfl ?_
  refine ev_mem ?_ (l2_gather_0 hG hA hfa hT hV hc hW hS hg hb4 h35 h36 h37 h38 c0 0 none none none (Nat.zero_add _))
  rw [fl_mix_0, fl_mix_0, fl_mix_0]
  rfl
theorem l2_gather_1 {G : ev_G} {n : Nat} {M : ev_M} {g c0 c1 c2 : Nat} (hG : M g = .inr (3, [.ref (g + 1), .ref (g + 2), .ref (g + 3), .int (nI c0), .int (nI c1), .int (nI c2)])) {fa : Nat → Option Nat} (hA : M (g + 1) = .inl (2, 12, ev_q fa)) (hfa : ∀ i, i < 12 → fa i = some (g + 4 + i)) {tu : Nat → Int32} (hT : M 25 = .inr (10, [.ref 26])) (hV : M 26 = .inl (0, 4, .inl tu)) (hc : c0 ≤ 12) {bb : Nat} {dr wi : Int32} (hW : M bb = .inr (1, [.int dr, .int wi])) {s : Nat → Int32} (hS : ∀ i, i < c0 → cl_stk M (g + 4 + i) (fun k => s (7 * i + k))) (hg : 40 < g) (hb4 : 40 < bb) {b0 b1 zz : Int32} {q0 q1 q2 : Nat → Int32} (h35 : M 35 = .inr (2, [.ref 36, .ref 37, .ref 38, .int (zz), .int (b0), .int (b1)])) (h36 : M 36 = .inl (0, 12, .inl q0)) (h37 : M 37 = .inl (0, 12, .inl q1)) (h38 : M 38 = .inl (0, 12, .inl q2)) : ∀ (m k : Nat) (z6 z7 z8 : Option Value), k + m = c0 → ev_E G mX2_gather 6 0 0 n (ev_ml M [(35, .inr (2, [.ref 36, .ref 37, .ref 38, .int (nI (k)), .int (b0), .int (b1)])), (36, .inl (0, 12, .inl (fl_mix (k) (fl_W tu s dr wi 1 0) q0))), (37, .inl (0, 12, .inl (fl_mix (k) (fl_W tu s dr wi 1 1) q1))), (38, .inl (0, 12, .inl (fl_mix (k) (fl_D s dr) q2)))]) 8 [some (.ref 35), some (.ref g), some (.ref bb), some (.ref 25), some (.int 1), some (.int (nI k)), z6, z7, z8] [] (ev_is none (ev_ml M [(35, .inr (2, [.ref 36, .ref 37, .ref 38, .int (nI (c0)), .int (b0), .int (b1)])), (36, .inl (0, 12, .inl (fl_mix (c0) (fl_W tu s dr wi 1 0) q0))), (37, .inl (0, 12, .inl (fl_mix (c0) (fl_W tu s dr wi 1 1) q1))), (38, .inl (0, 12, .inl (fl_mix (c0) (fl_D s dr) q2)))])) := by
  intro m
  induction m with
  | zero =>
    intro k z6 z7 z8 hk
    refine ev_iload dX2_gather_8 rfl ?_
    refine ev_aload_n (i := 1) dX2_gather_10 rfl rfl ?_
    refine ev_getf dX2_gather_11 flX2_25 (by first | rfl | exact (fl_out (by omega)).trans hG | exact (fl_out (by omega)).trans hA | exact (fl_out (by omega)).trans hT | exact (fl_out (by omega)).trans hV | exact (fl_out (by omega)).trans hSk | exact (fl_out (by omega)).trans hW) (by rfl) ?_
    refine ev_icmp_ge (tgt := 162) dX2_gather_14 (by decide) (fun h14 => ?_) (fun h14 => False.elim (nI_nlt (a := k) (b := c0) (by omega) (by omega) h14))
    obtain rfl : k = c0 := by omega
    exact ev_retv dX2_gather_162 rfl (⟨rfl, rfl⟩)
  | succ m ih =>
    intro k z6 z7 z8 hk
    have hSk : M (g + 4 + k) = .inr (9, [.int (s (7 * k + 0)), .int (s (7 * k + 1)), .int (s (7 * k + 2)), .int (s (7 * k + 3)), .int (s (7 * k + 4)), .int (s (7 * k + 5)), .int (s (7 * k + 6))]) := hS k (by omega)
    refine ev_iload dX2_gather_8 rfl ?_
    refine ev_aload_n (i := 1) dX2_gather_10 rfl rfl ?_
    refine ev_getf dX2_gather_11 flX2_25 (by first | rfl | exact (fl_out (by omega)).trans hG | exact (fl_out (by omega)).trans hA | exact (fl_out (by omega)).trans hT | exact (fl_out (by omega)).trans hV | exact (fl_out (by omega)).trans hSk | exact (fl_out (by omega)).trans hW) (by rfl) ?_
    refine ev_icmp_ge (tgt := 162) dX2_gather_14 (by decide) (fun h14 => False.elim (nI_ge (a := k) (b := c0) (by omega) (by omega) h14)) (fun h14 => ?_)
    refine ev_iload dX2_gather_17 rfl ?_
    refine ev_aload_n (i := 0) dX2_gather_19 rfl rfl ?_
    refine ev_getf dX2_gather_20 flX2_18 (by first | rfl | exact (fl_out (by omega)).trans hG | exact (fl_out (by omega)).trans hA | exact (fl_out (by omega)).trans hT | exact (fl_out (by omega)).trans hV | exact (fl_out (by omega)).trans hSk | exact (fl_out (by omega)).trans hW) (by rfl) ?_
    refine ev_alen (v := 12) dX2_gather_23 (fun _ => rfl) (by first | rfl | exact (fl_out (by omega)).trans hG | exact (fl_out (by omega)).trans hA | exact (fl_out (by omega)).trans hT | exact (fl_out (by omega)).trans hV | exact (fl_out (by omega)).trans hSk | exact (fl_out (by omega)).trans hW) (by rfl) ?_
    refine ev_icmp_ge (tgt := 162) dX2_gather_24 (by decide) (fun h24 => False.elim (nI_ge (a := k) (b := 12) (by omega) (by decide) h24)) (fun h24 => ?_)
    refine ev_aload_n (i := 1) dX2_gather_27 rfl rfl ?_
    refine ev_getf dX2_gather_28 flX2_30 (by first | rfl | exact (fl_out (by omega)).trans hG | exact (fl_out (by omega)).trans hA | exact (fl_out (by omega)).trans hT | exact (fl_out (by omega)).trans hV | exact (fl_out (by omega)).trans hSk | exact (fl_out (by omega)).trans hW) (by rfl) ?_
    refine ev_iload dX2_gather_31 rfl ?_
    refine ev_aald (j := k) dX2_gather_33 (fun _ => rfl) (by first | rfl | exact (fl_out (by omega)).trans hG | exact (fl_out (by omega)).trans hA | exact (fl_out (by omega)).trans hT | exact (fl_out (by omega)).trans hV | exact (fl_out (by omega)).trans hSk | exact (fl_out (by omega)).trans hW) (ev_ix_nI (by omega)) (by omega) (hfa k (by omega)) ?_
    refine ev_astore dX2_gather_34 (Nat.le_of_ble_eq_true rfl) rfl ?_
    refine ev_iload dX2_gather_36 rfl ?_
    refine ev_if_eq (tgt := 45) dX2_gather_38 (by decide) (fun h38 => False.elim (absurd h38 (by decide))) (fun h38 => ?_)
    refine ev_iconst (v := 0) dX2_gather_41 cni_0 ?_
    refine ev_goto (tgt := 50) dX2_gather_42 (by decide) ?_
    refine ev_istore dX2_gather_50 (Nat.le_of_ble_eq_true rfl) rfl ?_
    refine ev_iload dX2_gather_52 rfl ?_
    refine ev_if_eq (tgt := 61) dX2_gather_54 (by decide) (fun h54 => False.elim (absurd h54 (by decide))) (fun h54 => ?_)
    refine ev_iconst (v := 1) dX2_gather_57 cni_1 ?_
    refine ev_goto (tgt := 66) dX2_gather_58 (by decide) ?_
    refine ev_istore dX2_gather_66 (Nat.le_of_ble_eq_true rfl) rfl ?_
    refine ev_aload_n (i := 0) dX2_gather_68 rfl rfl ?_
    refine ev_getf dX2_gather_69 flX2_9 (by first | rfl | exact (fl_out (by omega)).trans hG | exact (fl_out (by omega)).trans hA | exact (fl_out (by omega)).trans hT | exact (fl_out (by omega)).trans hV | exact (fl_out (by omega)).trans hSk | exact (fl_out (by omega)).trans hW) (by rfl) ?_
    refine ev_iload dX2_gather_72 rfl ?_
    refine ev_aload_n (i := 3) dX2_gather_74 rfl rfl ?_
    refine ev_aload dX2_gather_75 rfl ?_
    refine ev_aload dX2_gather_77 rfl ?_
    refine ev_iload dX2_gather_79 rfl ?_
    refine ev_c2 kX2_gather_81 (c9_spineBy ((fl_out (by omega)).trans hSk)) (ev_rv_of (by first | rfl | exact (fl_out (by omega)).trans hG | exact (fl_out (by omega)).trans hA | exact (fl_out (by omega)).trans hT | exact (fl_out (by omega)).trans hV | exact (fl_out (by omega)).trans hSk | exact (fl_out (by omega)).trans hW) rfl rfl) (by decide) (by decide) (Nat.le_of_ble_eq_true rfl) ?_
    refine ev_aload_n (i := 2) dX2_gather_84 rfl rfl ?_
    refine ev_c1 kX2_gather_85 (c1_need ((fl_out (by omega)).trans hW)) (ev_rv_of (by first | rfl | exact (fl_out (by omega)).trans hG | exact (fl_out (by omega)).trans hA | exact (fl_out (by omega)).trans hT | exact (fl_out (by omega)).trans hV | exact (fl_out (by omega)).trans hSk | exact (fl_out (by omega)).trans hW) rfl rfl) (by decide) (by decide) (Nat.le_of_ble_eq_true rfl) ?_
    refine ev_isub dX2_gather_88 ?_
    refine ev_aload dX2_gather_89 rfl ?_
    refine ev_getf dX2_gather_91 flX2_49 (by first | rfl | exact (fl_out (by omega)).trans hG | exact (fl_out (by omega)).trans hA | exact (fl_out (by omega)).trans hT | exact (fl_out (by omega)).trans hV | exact (fl_out (by omega)).trans hSk | exact (fl_out (by omega)).trans hW) (by rfl) ?_
    refine ev_c4 kX2_gather_94 (c11_goesOf ((fl_out (by omega)).trans hT) ((fl_out (by omega)).trans hV) ((fl_out (by omega)).trans hSk)) (ev_rv_of (by first | rfl | exact (fl_out (by omega)).trans hG | exact (fl_out (by omega)).trans hA | exact (fl_out (by omega)).trans hT | exact (fl_out (by omega)).trans hV | exact (fl_out (by omega)).trans hSk | exact (fl_out (by omega)).trans hW) rfl rfl) (by decide) (by decide) (Nat.le_of_ble_eq_true rfl) ?_
    refine ev_iastP 1 (j := k) dX2_gather_97 (by rfl) (by rfl) (ev_ix_nI (by omega)) (by omega) (by rfl) (by rfl) ?_
    refine ev_aload_n (i := 0) dX2_gather_98 rfl rfl ?_
    refine ev_getf dX2_gather_99 flX2_15 (by first | rfl | exact (fl_out (by omega)).trans hG | exact (fl_out (by omega)).trans hA | exact (fl_out (by omega)).trans hT | exact (fl_out (by omega)).trans hV | exact (fl_out (by omega)).trans hSk | exact (fl_out (by omega)).trans hW) (by rfl) ?_
    refine ev_iload dX2_gather_102 rfl ?_
    refine ev_aload_n (i := 3) dX2_gather_104 rfl rfl ?_
    refine ev_aload dX2_gather_105 rfl ?_
    refine ev_aload dX2_gather_107 rfl ?_
    refine ev_iload dX2_gather_109 rfl ?_
    refine ev_c2 kX2_gather_111 (c9_spineBy ((fl_out (by omega)).trans hSk)) (ev_rv_of (by first | rfl | exact (fl_out (by omega)).trans hG | exact (fl_out (by omega)).trans hA | exact (fl_out (by omega)).trans hT | exact (fl_out (by omega)).trans hV | exact (fl_out (by omega)).trans hSk | exact (fl_out (by omega)).trans hW) rfl rfl) (by decide) (by decide) (Nat.le_of_ble_eq_true rfl) ?_
    refine ev_aload_n (i := 2) dX2_gather_114 rfl rfl ?_
    refine ev_c1 kX2_gather_115 (c1_need ((fl_out (by omega)).trans hW)) (ev_rv_of (by first | rfl | exact (fl_out (by omega)).trans hG | exact (fl_out (by omega)).trans hA | exact (fl_out (by omega)).trans hT | exact (fl_out (by omega)).trans hV | exact (fl_out (by omega)).trans hSk | exact (fl_out (by omega)).trans hW) rfl rfl) (by decide) (by decide) (Nat.le_of_ble_eq_true rfl) ?_
    refine ev_isub dX2_gather_118 ?_
    refine ev_aload dX2_gather_119 rfl ?_
    refine ev_getf dX2_gather_121 flX2_49 (by first | rfl | exact (fl_out (by omega)).trans hG | exact (fl_out (by omega)).trans hA | exact (fl_out (by omega)).trans hT | exact (fl_out (by omega)).trans hV | exact (fl_out (by omega)).trans hSk | exact (fl_out (by omega)).trans hW) (by rfl) ?_
    refine ev_c4 kX2_gather_124 (c11_goesOf ((fl_out (by omega)).trans hT) ((fl_out (by omega)).trans hV) ((fl_out (by omega)).trans hSk)) (ev_rv_of (by first | rfl | exact (fl_out (by omega)).trans hG | exact (fl_out (by omega)).trans hA | exact (fl_out (by omega)).trans hT | exact (fl_out (by omega)).trans hV | exact (fl_out (by omega)).trans hSk | exact (fl_out (by omega)).trans hW) rfl rfl) (by decide) (by decide) (Nat.le_of_ble_eq_true rfl) ?_
    refine ev_iastP 2 (j := k) dX2_gather_127 (by rfl) (by rfl) (ev_ix_nI (by omega)) (by omega) (by rfl) (by rfl) ?_
    refine ev_aload_n (i := 0) dX2_gather_128 rfl rfl ?_
    refine ev_getf dX2_gather_129 flX2_18 (by first | rfl | exact (fl_out (by omega)).trans hG | exact (fl_out (by omega)).trans hA | exact (fl_out (by omega)).trans hT | exact (fl_out (by omega)).trans hV | exact (fl_out (by omega)).trans hSk | exact (fl_out (by omega)).trans hW) (by rfl) ?_
    refine ev_iload dX2_gather_132 rfl ?_
    refine ev_aload_n (i := 2) dX2_gather_134 rfl rfl ?_
    refine ev_aload dX2_gather_135 rfl ?_
    refine ev_aload dX2_gather_137 rfl ?_
    refine ev_getf dX2_gather_139 flX2_49 (by first | rfl | exact (fl_out (by omega)).trans hG | exact (fl_out (by omega)).trans hA | exact (fl_out (by omega)).trans hT | exact (fl_out (by omega)).trans hV | exact (fl_out (by omega)).trans hSk | exact (fl_out (by omega)).trans hW) (by rfl) ?_
    refine ev_c3 kX2_gather_142 (c1_dropOf ((fl_out (by omega)).trans hW) ((fl_out (by omega)).trans hSk)) (ev_rv_of (by first | rfl | exact (fl_out (by omega)).trans hG | exact (fl_out (by omega)).trans hA | exact (fl_out (by omega)).trans hT | exact (fl_out (by omega)).trans hV | exact (fl_out (by omega)).trans hSk | exact (fl_out (by omega)).trans hW) rfl rfl) (by decide) (by decide) (Nat.le_of_ble_eq_true rfl) ?_
    refine ev_iastP 3 (j := k) dX2_gather_145 (by rfl) (by rfl) (ev_ix_nI (by omega)) (by omega) (by rfl) (by rfl) ?_
    refine ev_aload_n (i := 0) dX2_gather_146 rfl rfl ?_
    refine ev_dup dX2_gather_147 rfl ?_
    refine ev_getf dX2_gather_148 flX2_21 (by first | rfl | exact (fl_out (by omega)).trans hG | exact (fl_out (by omega)).trans hA | exact (fl_out (by omega)).trans hT | exact (fl_out (by omega)).trans hV | exact (fl_out (by omega)).trans hSk | exact (fl_out (by omega)).trans hW) (by rfl) ?_
    refine ev_iconst (v := 1) dX2_gather_151 cni_1 ?_
    refine ev_iadd dX2_gather_152 ?_
    refine ev_topi (nI_1 k) ?_
    refine ev_putiP 0 dX2_gather_153 fpX2_21 (by rfl) (by rfl) (Nat.le_of_ble_eq_true rfl) (by rfl) (by rfl) ?_
    refine ev_iinc (v := nI (k + 1)) dX2_gather_156 rfl (nI_1 k) (Nat.le_of_ble_eq_true rfl) rfl ?_
    refine ev_goto (tgt := 8) dX2_gather_159 (by decide) ?_
    refine ev_mem ?_ (ih (k + 1) _ _ _ (by omega))
    rw [← fl_mix_S (k := k) (V := fl_W tu s dr wi 1 0) (q := q0), ← fl_mix_S (k := k) (V := fl_W tu s dr wi 1 1) (q := q1), ← fl_mix_S (k := k) (V := fl_D s dr) (q := q2)]
    rfl
theorem c2_gather_1 {G : ev_G} {n : Nat} {M : ev_M} {g c0 c1 c2 : Nat} (hG : M g = .inr (3, [.ref (g + 1), .ref (g + 2), .ref (g + 3), .int (nI c0), .int (nI c1), .int (nI c2)])) {fa : Nat → Option Nat} (hA : M (g + 1) = .inl (2, 12, ev_q fa)) (hfa : ∀ i, i < 12 → fa i = some (g + 4 + i)) {tu : Nat → Int32} (hT : M 25 = .inr (10, [.ref 26])) (hV : M 26 = .inl (0, 4, .inl tu)) (hc : c0 ≤ 12) {bb : Nat} {dr wi : Int32} (hW : M bb = .inr (1, [.int dr, .int wi])) {s : Nat → Int32} (hS : ∀ i, i < c0 → cl_stk M (g + 4 + i) (fun k => s (7 * i + k))) (hg : 40 < g) (hb4 : 40 < bb) {b0 b1 zz : Int32} {q0 q1 q2 : Nat → Int32} (h35 : M 35 = .inr (2, [.ref 36, .ref 37, .ref 38, .int (zz), .int (b0), .int (b1)])) (h36 : M 36 = .inl (0, 12, .inl q0)) (h37 : M 37 = .inl (0, 12, .inl q1)) (h38 : M 38 = .inl (0, 12, .inl q2))  : ev_Cal G mX2_gather 6 0 0 [.ref 35, .ref g, .ref bb, .ref 25, .int 1] n M (ev_is none (ev_ml M [(35, .inr (2, [.ref 36, .ref 37, .ref 38, .int (nI (c0)), .int (b0), .int (b1)])), (36, .inl (0, 12, .inl (fl_mix (c0) (fl_W tu s dr wi 1 0) q0))), (37, .inl (0, 12, .inl (fl_mix (c0) (fl_W tu s dr wi 1 1) q1))), (38, .inl (0, 12, .inl (fl_mix (c0) (fl_D s dr) q2)))])) := by
  refine ev_Cal_of (L := [some (.ref 35), some (.ref g), some (.ref bb), some (.ref 25), some (.int 1), none, none, none, none]) (by decide +kernel) (Nat.le_of_ble_eq_true rfl) rfl ?_
  refine ev_track (l := [(35, .inr (2, [.ref 36, .ref 37, .ref 38, .int (zz), .int (b0), .int (b1)])), (36, .inl (0, 12, .inl q0)), (37, .inl (0, 12, .inl q1)), (38, .inl (0, 12, .inl q2))]) (ev_fa1 h35 (ev_fa1 h36 (ev_fa1 h37 (ev_fa1 h38 ev_fa0)))) ?_
  refine ev_aload_n (i := 0) dX2_gather_0 rfl rfl ?_
  refine ev_iconst (v := 0) dX2_gather_1 cni_0 ?_
  refine ev_putiP 0 dX2_gather_2 fpX2_21 (by rfl) (by rfl) (Nat.le_of_ble_eq_true rfl) (by rfl) (by rfl) ?_
  refine ev_iconst (v := 0) dX2_gather_5 cni_0 ?_
  refine ev_istore dX2_gather_6 (Nat.le_of_ble_eq_true rfl) rfl ?_
  refine ev_mem ?_ (l2_gather_1 hG hA hfa hT hV hc hW hS hg hb4 h35 h36 h37 h38 c0 0 none none none (Nat.zero_add _))
  rw [fl_mix_0, fl_mix_0, fl_mix_0]
  rfl
theorem c12_alike_0 {G : ev_G} {n : Nat} {M : ev_M} {g g' c0 c1 c2 : Nat} {lot : Int32} (h20 : M 21 = .inr (11, [.ref 22, .ref 25, .ref 27, .ref 35, .ref 39, .ref 40, .ref 41, .ref 63, .ref g, .ref g', .int lot])) (hG : M g = .inr (3, [.ref (g + 1), .ref (g + 2), .ref (g + 3), .int (nI c0), .int (nI c1), .int (nI c2)])) {fa : Nat → Option Nat} (hA : M (g + 1) = .inl (2, 12, ev_q fa)) (hfa : ∀ i, i < 12 → fa i = some (g + 4 + i)) {fb : Nat → Option Nat} (hB : M (g + 2) = .inl (3, 3, ev_q fb)) (hfb : ∀ i, i < 3 → fb i = some (g + 16 + i)) {b : Nat} (hb : b < c1) (hc1 : c1 ≤ 3) {dr wi : Int32} (hW : M (g + 16 + b) = .inr (1, [.int dr, .int wi])) {tu : Nat → Int32} (hT : M 25 = .inr (10, [.ref 26])) (hV : M 26 = .inl (0, 4, .inl tu)) (hc : c0 ≤ 12) {s : Nat → Int32} (hS : ∀ i, i < c0 → cl_stk M (g + 4 + i) (fun k => s (7 * i + k))) (hg : 40 < g) {b0 b1 zz : Int32} {q0 q1 q2 : Nat → Int32} (h35 : M 35 = .inr (2, [.ref 36, .ref 37, .ref 38, .int (zz), .int (b0), .int (b1)])) (h36 : M 36 = .inl (0, 12, .inl q0)) (h37 : M 37 = .inl (0, 12, .inl q1)) (h38 : M 38 = .inl (0, 12, .inl q2)) {d e : Int32} (hd : sp_in d 0 999 = true) (he : sp_in e 0 999 = true) : ev_Cal G mX11_alike 7 0 0 [.ref 21, .int (nI b), .int d, .int e, .int 0] n M (ev_is (some (.int (fl_i (fl_mix c0 (fl_W tu s dr wi 0 0) q0) (fl_mix c0 (fl_W tu s dr wi 0 1) q1) (fl_mix c0 (fl_D s dr) q2) c0 d e c0 (0, 0)).1)) (ev_set (ev_ml M [(35, .inr (2, [.ref 36, .ref 37, .ref 38, .int (nI (c0)), .int (b0), .int (b1)])), (36, .inl (0, 12, .inl (fl_mix (c0) (fl_W tu s dr wi 0 0) q0))), (37, .inl (0, 12, .inl (fl_mix (c0) (fl_W tu s dr wi 0 1) q1))), (38, .inl (0, 12, .inl (fl_mix (c0) (fl_D s dr) q2)))]) 35 (.inr (2, [.ref 36, .ref 37, .ref 38, .int (nI c0), .int ((fl_i (fl_mix c0 (fl_W tu s dr wi 0 0) q0) (fl_mix c0 (fl_W tu s dr wi 0 1) q1) (fl_mix c0 (fl_D s dr) q2) c0 d e c0 (0, 0)).1), .int ((fl_i (fl_mix c0 (fl_W tu s dr wi 0 0) q0) (fl_mix c0 (fl_W tu s dr wi 0 1) q1) (fl_mix c0 (fl_D s dr) q2) c0 d e c0 (0, 0)).2)])))) := by
  refine ev_Cal_of (L := [some (.ref 21), some (.int (nI b)), some (.int d), some (.int e), some (.int 0), none]) (by decide +kernel) (Nat.le_of_ble_eq_true rfl) rfl ?_
  refine ev_aload_n (i := 0) dX11_alike_0 rfl rfl ?_
  refine ev_getf dX11_alike_1 flX11_64 (by first | exact ev_set_eq | assumption | exact (ev_set_ne (by decide)).trans ((fl_out (by omega)).trans h20) | exact (fl_out (by omega)).trans h20 | rfl) (by rfl) ?_
  refine ev_iload_n (i := 1) dX11_alike_4 rfl rfl ?_
  refine ev_c2 kX11_alike_5 (c3_bowAt_in hG hB hfb hb hc1) (ev_rv_of (by first | exact ev_set_eq | assumption | exact (ev_set_ne (by decide)).trans ((fl_out (by omega)).trans h20) | exact (fl_out (by omega)).trans h20 | rfl) rfl rfl) (by decide) (by decide) (Nat.le_of_ble_eq_true rfl) ?_
  refine ev_astore dX11_alike_8 (Nat.le_of_ble_eq_true rfl) rfl ?_
  refine ev_aload dX11_alike_10 rfl ?_
  refine ev_ifnull dX11_alike_12 ?_
  refine ev_iload_n (i := 2) dX11_alike_15 rfl rfl ?_
  refine ev_iconst (v := 0) dX11_alike_16 cni_0 ?_
  refine ev_sipush (v := 999) dX11_alike_17 cns_999 ?_
  refine ev_c3 kX11_alike_20 (c12_within) trivial (by decide) (by decide) (Nat.le_of_ble_eq_true rfl) ?_
  refine ev_if_eqb (tgt := 47) dX11_alike_23 (by decide) (fun h23 => False.elim (Bool.false_ne_true (h23.symm.trans (hd)))) (fun h23 => ?_)
  refine ev_iload_n (i := 3) dX11_alike_26 rfl rfl ?_
  refine ev_iconst (v := 0) dX11_alike_27 cni_0 ?_
  refine ev_sipush (v := 999) dX11_alike_28 cns_999 ?_
  refine ev_c3 kX11_alike_31 (c12_within) trivial (by decide) (by decide) (Nat.le_of_ble_eq_true rfl) ?_
  refine ev_if_eqb (tgt := 47) dX11_alike_34 (by decide) (fun h34 => False.elim (Bool.false_ne_true (h34.symm.trans (he)))) (fun h34 => ?_)
  refine ev_iload dX11_alike_37 rfl ?_
  refine ev_iconst (v := 0) dX11_alike_39 cni_0 ?_
  refine ev_iconst (v := 1) dX11_alike_40 cni_1 ?_
  refine ev_c3 kX11_alike_41 (c12_within) trivial (by decide) (by decide) (Nat.le_of_ble_eq_true rfl) ?_
  refine ev_if_neb (tgt := 49) dX11_alike_44 (by decide) (fun h44 => ?_) (fun h44 => False.elim (Bool.false_ne_true (h44.symm.trans (by decide))))
  refine ev_aload_n (i := 0) dX11_alike_49 rfl rfl ?_
  refine ev_getf dX11_alike_50 flX11_33 (by first | exact ev_set_eq | assumption | exact (ev_set_ne (by decide)).trans ((fl_out (by omega)).trans h20) | exact (fl_out (by omega)).trans h20 | rfl) (by rfl) ?_
  refine ev_aload_n (i := 0) dX11_alike_53 rfl rfl ?_
  refine ev_getf dX11_alike_54 flX11_64 (by first | exact ev_set_eq | assumption | exact (ev_set_ne (by decide)).trans ((fl_out (by omega)).trans h20) | exact (fl_out (by omega)).trans h20 | rfl) (by rfl) ?_
  refine ev_aload dX11_alike_57 rfl ?_
  refine ev_aload_n (i := 0) dX11_alike_59 rfl rfl ?_
  refine ev_getf dX11_alike_60 flX11_19 (by first | exact ev_set_eq | assumption | exact (ev_set_ne (by decide)).trans ((fl_out (by omega)).trans h20) | exact (fl_out (by omega)).trans h20 | rfl) (by rfl) ?_
  refine ev_iconst (v := 0) dX11_alike_63 cni_0 ?_
  refine ev_w5 kX11_alike_64 (c2_gather_0 hG hA hfa hT hV hc hW hS hg (by omega) h35 h36 h37 h38) (ev_rv_of (by first | exact ev_set_eq | assumption | exact (ev_set_ne (by decide)).trans ((fl_out (by omega)).trans h20) | exact (fl_out (by omega)).trans h20 | rfl) rfl rfl) (by decide) (by decide) (Nat.le_of_ble_eq_true rfl) ?_
  refine ev_aload_n (i := 0) dX11_alike_67 rfl rfl ?_
  refine ev_getf dX11_alike_68 flX11_33 (by first | exact ev_set_eq | assumption | exact (ev_set_ne (by decide)).trans ((fl_out (by omega)).trans h20) | exact (fl_out (by omega)).trans h20 | rfl) (by rfl) ?_
  refine ev_iload_n (i := 2) dX11_alike_71 rfl rfl ?_
  refine ev_iload_n (i := 3) dX11_alike_72 rfl rfl ?_
  refine ev_w3 kX11_alike_73 (c2_find (sz := c0) (q0 := (fl_mix c0 (fl_W tu s dr wi 0 0) q0)) (q1 := (fl_mix c0 (fl_W tu s dr wi 0 1) q1)) (q2 := (fl_mix c0 (fl_D s dr) q2)) rfl rfl rfl rfl hc) (ev_rv_of (by first | exact ev_set_eq | assumption | exact (ev_set_ne (by decide)).trans ((fl_out (by omega)).trans h20) | exact (fl_out (by omega)).trans h20 | rfl) rfl rfl) (by decide) (by decide) (Nat.le_of_ble_eq_true rfl) ?_
  refine ev_iload dX11_alike_76 rfl ?_
  refine ev_if_ne (tgt := 91) dX11_alike_78 (by decide) (fun h78 => False.elim (absurd rfl h78)) (fun h78 => ?_)
  refine ev_aload_n (i := 0) dX11_alike_81 rfl rfl ?_
  refine ev_getf dX11_alike_82 flX11_33 (by first | exact ev_set_eq | assumption | exact (ev_set_ne (by decide)).trans ((fl_out (by omega)).trans h20) | exact (fl_out (by omega)).trans h20 | rfl) (by rfl) ?_
  refine ev_getf dX11_alike_85 flX11_210 (by first | exact ev_set_eq | assumption | exact (ev_set_ne (by decide)).trans ((fl_out (by omega)).trans h20) | exact (fl_out (by omega)).trans h20 | rfl) (by rfl) ?_
  refine ev_goto (tgt := 98) dX11_alike_88 (by decide) ?_
  exact ev_reti dX11_alike_98 rfl rfl (⟨rfl, rfl⟩)
theorem c12_alike_1 {G : ev_G} {n : Nat} {M : ev_M} {g g' c0 c1 c2 : Nat} {lot : Int32} (h20 : M 21 = .inr (11, [.ref 22, .ref 25, .ref 27, .ref 35, .ref 39, .ref 40, .ref 41, .ref 63, .ref g, .ref g', .int lot])) (hG : M g = .inr (3, [.ref (g + 1), .ref (g + 2), .ref (g + 3), .int (nI c0), .int (nI c1), .int (nI c2)])) {fa : Nat → Option Nat} (hA : M (g + 1) = .inl (2, 12, ev_q fa)) (hfa : ∀ i, i < 12 → fa i = some (g + 4 + i)) {fb : Nat → Option Nat} (hB : M (g + 2) = .inl (3, 3, ev_q fb)) (hfb : ∀ i, i < 3 → fb i = some (g + 16 + i)) {b : Nat} (hb : b < c1) (hc1 : c1 ≤ 3) {dr wi : Int32} (hW : M (g + 16 + b) = .inr (1, [.int dr, .int wi])) {tu : Nat → Int32} (hT : M 25 = .inr (10, [.ref 26])) (hV : M 26 = .inl (0, 4, .inl tu)) (hc : c0 ≤ 12) {s : Nat → Int32} (hS : ∀ i, i < c0 → cl_stk M (g + 4 + i) (fun k => s (7 * i + k))) (hg : 40 < g) {b0 b1 zz : Int32} {q0 q1 q2 : Nat → Int32} (h35 : M 35 = .inr (2, [.ref 36, .ref 37, .ref 38, .int (zz), .int (b0), .int (b1)])) (h36 : M 36 = .inl (0, 12, .inl q0)) (h37 : M 37 = .inl (0, 12, .inl q1)) (h38 : M 38 = .inl (0, 12, .inl q2)) {d e : Int32} (hd : sp_in d 0 999 = true) (he : sp_in e 0 999 = true) : ev_Cal G mX11_alike 7 0 0 [.ref 21, .int (nI b), .int d, .int e, .int 1] n M (ev_is (some (.int (fl_i (fl_mix c0 (fl_W tu s dr wi 0 0) q0) (fl_mix c0 (fl_W tu s dr wi 0 1) q1) (fl_mix c0 (fl_D s dr) q2) c0 d e c0 (0, 0)).2)) (ev_set (ev_ml M [(35, .inr (2, [.ref 36, .ref 37, .ref 38, .int (nI (c0)), .int (b0), .int (b1)])), (36, .inl (0, 12, .inl (fl_mix (c0) (fl_W tu s dr wi 0 0) q0))), (37, .inl (0, 12, .inl (fl_mix (c0) (fl_W tu s dr wi 0 1) q1))), (38, .inl (0, 12, .inl (fl_mix (c0) (fl_D s dr) q2)))]) 35 (.inr (2, [.ref 36, .ref 37, .ref 38, .int (nI c0), .int ((fl_i (fl_mix c0 (fl_W tu s dr wi 0 0) q0) (fl_mix c0 (fl_W tu s dr wi 0 1) q1) (fl_mix c0 (fl_D s dr) q2) c0 d e c0 (0, 0)).1), .int ((fl_i (fl_mix c0 (fl_W tu s dr wi 0 0) q0) (fl_mix c0 (fl_W tu s dr wi 0 1) q1) (fl_mix c0 (fl_D s dr) q2) c0 d e c0 (0, 0)).2)])))) := by
  refine ev_Cal_of (L := [some (.ref 21), some (.int (nI b)), some (.int d), some (.int e), some (.int 1), none]) (by decide +kernel) (Nat.le_of_ble_eq_true rfl) rfl ?_
  refine ev_aload_n (i := 0) dX11_alike_0 rfl rfl ?_
  refine ev_getf dX11_alike_1 flX11_64 (by first | exact ev_set_eq | assumption | exact (ev_set_ne (by decide)).trans ((fl_out (by omega)).trans h20) | exact (fl_out (by omega)).trans h20 | rfl) (by rfl) ?_
  refine ev_iload_n (i := 1) dX11_alike_4 rfl rfl ?_
  refine ev_c2 kX11_alike_5 (c3_bowAt_in hG hB hfb hb hc1) (ev_rv_of (by first | exact ev_set_eq | assumption | exact (ev_set_ne (by decide)).trans ((fl_out (by omega)).trans h20) | exact (fl_out (by omega)).trans h20 | rfl) rfl rfl) (by decide) (by decide) (Nat.le_of_ble_eq_true rfl) ?_
  refine ev_astore dX11_alike_8 (Nat.le_of_ble_eq_true rfl) rfl ?_
  refine ev_aload dX11_alike_10 rfl ?_
  refine ev_ifnull dX11_alike_12 ?_
  refine ev_iload_n (i := 2) dX11_alike_15 rfl rfl ?_
  refine ev_iconst (v := 0) dX11_alike_16 cni_0 ?_
  refine ev_sipush (v := 999) dX11_alike_17 cns_999 ?_
  refine ev_c3 kX11_alike_20 (c12_within) trivial (by decide) (by decide) (Nat.le_of_ble_eq_true rfl) ?_
  refine ev_if_eqb (tgt := 47) dX11_alike_23 (by decide) (fun h23 => False.elim (Bool.false_ne_true (h23.symm.trans (hd)))) (fun h23 => ?_)
  refine ev_iload_n (i := 3) dX11_alike_26 rfl rfl ?_
  refine ev_iconst (v := 0) dX11_alike_27 cni_0 ?_
  refine ev_sipush (v := 999) dX11_alike_28 cns_999 ?_
  refine ev_c3 kX11_alike_31 (c12_within) trivial (by decide) (by decide) (Nat.le_of_ble_eq_true rfl) ?_
  refine ev_if_eqb (tgt := 47) dX11_alike_34 (by decide) (fun h34 => False.elim (Bool.false_ne_true (h34.symm.trans (he)))) (fun h34 => ?_)
  refine ev_iload dX11_alike_37 rfl ?_
  refine ev_iconst (v := 0) dX11_alike_39 cni_0 ?_
  refine ev_iconst (v := 1) dX11_alike_40 cni_1 ?_
  refine ev_c3 kX11_alike_41 (c12_within) trivial (by decide) (by decide) (Nat.le_of_ble_eq_true rfl) ?_
  refine ev_if_neb (tgt := 49) dX11_alike_44 (by decide) (fun h44 => ?_) (fun h44 => False.elim (Bool.false_ne_true (h44.symm.trans (by decide))))
  refine ev_aload_n (i := 0) dX11_alike_49 rfl rfl ?_
  refine ev_getf dX11_alike_50 flX11_33 (by first | exact ev_set_eq | assumption | exact (ev_set_ne (by decide)).trans ((fl_out (by omega)).trans h20) | exact (fl_out (by omega)).trans h20 | rfl) (by rfl) ?_
  refine ev_aload_n (i := 0) dX11_alike_53 rfl rfl ?_
  refine ev_getf dX11_alike_54 flX11_64 (by first | exact ev_set_eq | assumption | exact (ev_set_ne (by decide)).trans ((fl_out (by omega)).trans h20) | exact (fl_out (by omega)).trans h20 | rfl) (by rfl) ?_
  refine ev_aload dX11_alike_57 rfl ?_
  refine ev_aload_n (i := 0) dX11_alike_59 rfl rfl ?_
  refine ev_getf dX11_alike_60 flX11_19 (by first | exact ev_set_eq | assumption | exact (ev_set_ne (by decide)).trans ((fl_out (by omega)).trans h20) | exact (fl_out (by omega)).trans h20 | rfl) (by rfl) ?_
  refine ev_iconst (v := 0) dX11_alike_63 cni_0 ?_
  refine ev_w5 kX11_alike_64 (c2_gather_0 hG hA hfa hT hV hc hW hS hg (by omega) h35 h36 h37 h38) (ev_rv_of (by first | exact ev_set_eq | assumption | exact (ev_set_ne (by decide)).trans ((fl_out (by omega)).trans h20) | exact (fl_out (by omega)).trans h20 | rfl) rfl rfl) (by decide) (by decide) (Nat.le_of_ble_eq_true rfl) ?_
  refine ev_aload_n (i := 0) dX11_alike_67 rfl rfl ?_
  refine ev_getf dX11_alike_68 flX11_33 (by first | exact ev_set_eq | assumption | exact (ev_set_ne (by decide)).trans ((fl_out (by omega)).trans h20) | exact (fl_out (by omega)).trans h20 | rfl) (by rfl) ?_
  refine ev_iload_n (i := 2) dX11_alike_71 rfl rfl ?_
  refine ev_iload_n (i := 3) dX11_alike_72 rfl rfl ?_
  refine ev_w3 kX11_alike_73 (c2_find (sz := c0) (q0 := (fl_mix c0 (fl_W tu s dr wi 0 0) q0)) (q1 := (fl_mix c0 (fl_W tu s dr wi 0 1) q1)) (q2 := (fl_mix c0 (fl_D s dr) q2)) rfl rfl rfl rfl hc) (ev_rv_of (by first | exact ev_set_eq | assumption | exact (ev_set_ne (by decide)).trans ((fl_out (by omega)).trans h20) | exact (fl_out (by omega)).trans h20 | rfl) rfl rfl) (by decide) (by decide) (Nat.le_of_ble_eq_true rfl) ?_
  refine ev_iload dX11_alike_76 rfl ?_
  refine ev_if_ne (tgt := 91) dX11_alike_78 (by decide) (fun h78 => ?_) (fun h78 => False.elim (absurd h78 (by decide)))
  refine ev_aload_n (i := 0) dX11_alike_91 rfl rfl ?_
  refine ev_getf dX11_alike_92 flX11_33 (by first | exact ev_set_eq | assumption | exact (ev_set_ne (by decide)).trans ((fl_out (by omega)).trans h20) | exact (fl_out (by omega)).trans h20 | rfl) (by rfl) ?_
  refine ev_getf dX11_alike_95 flX11_213 (by first | exact ev_set_eq | assumption | exact (ev_set_ne (by decide)).trans ((fl_out (by omega)).trans h20) | exact (fl_out (by omega)).trans h20 | rfl) (by rfl) ?_
  exact ev_reti dX11_alike_98 rfl rfl (⟨rfl, rfl⟩)
theorem c12_turned {G : ev_G} {n : Nat} {M : ev_M} {g g' c0 c1 c2 : Nat} {lot : Int32} (h20 : M 21 = .inr (11, [.ref 22, .ref 25, .ref 27, .ref 35, .ref 39, .ref 40, .ref 41, .ref 63, .ref g, .ref g', .int lot])) (hG : M g = .inr (3, [.ref (g + 1), .ref (g + 2), .ref (g + 3), .int (nI c0), .int (nI c1), .int (nI c2)])) {fa : Nat → Option Nat} (hA : M (g + 1) = .inl (2, 12, ev_q fa)) (hfa : ∀ i, i < 12 → fa i = some (g + 4 + i)) {fb : Nat → Option Nat} (hB : M (g + 2) = .inl (3, 3, ev_q fb)) (hfb : ∀ i, i < 3 → fb i = some (g + 16 + i)) {b : Nat} (hb : b < c1) (hc1 : c1 ≤ 3) {dr wi : Int32} (hW : M (g + 16 + b) = .inr (1, [.int dr, .int wi])) {tu : Nat → Int32} (hT : M 25 = .inr (10, [.ref 26])) (hV : M 26 = .inl (0, 4, .inl tu)) (hc : c0 ≤ 12) {s : Nat → Int32} (hS : ∀ i, i < c0 → cl_stk M (g + 4 + i) (fun k => s (7 * i + k))) (hg : 40 < g) {b0 b1 zz : Int32} {q0 q1 q2 : Nat → Int32} (h35 : M 35 = .inr (2, [.ref 36, .ref 37, .ref 38, .int (zz), .int (b0), .int (b1)])) (h36 : M 36 = .inl (0, 12, .inl q0)) (h37 : M 37 = .inl (0, 12, .inl q1)) (h38 : M 38 = .inl (0, 12, .inl q2)) {d e : Int32} (hd : sp_in d 0 999 = true) (he : sp_in e 0 999 = true) : ev_Cal G mX11_turned 7 0 0 [.ref 21, .int (nI b), .int d, .int e] n M (ev_is (some (.int (fl_i (fl_mix c0 (fl_W tu s dr wi 1 0) q0) (fl_mix c0 (fl_W tu s dr wi 1 1) q1) (fl_mix c0 (fl_D s dr) q2) c0 d e c0 (0, 0)).2)) (ev_set (ev_ml M [(35, .inr (2, [.ref 36, .ref 37, .ref 38, .int (nI (c0)), .int (b0), .int (b1)])), (36, .inl (0, 12, .inl (fl_mix (c0) (fl_W tu s dr wi 1 0) q0))), (37, .inl (0, 12, .inl (fl_mix (c0) (fl_W tu s dr wi 1 1) q1))), (38, .inl (0, 12, .inl (fl_mix (c0) (fl_D s dr) q2)))]) 35 (.inr (2, [.ref 36, .ref 37, .ref 38, .int (nI c0), .int ((fl_i (fl_mix c0 (fl_W tu s dr wi 1 0) q0) (fl_mix c0 (fl_W tu s dr wi 1 1) q1) (fl_mix c0 (fl_D s dr) q2) c0 d e c0 (0, 0)).1), .int ((fl_i (fl_mix c0 (fl_W tu s dr wi 1 0) q0) (fl_mix c0 (fl_W tu s dr wi 1 1) q1) (fl_mix c0 (fl_D s dr) q2) c0 d e c0 (0, 0)).2)])))) := by
  refine ev_Cal_of (L := [some (.ref 21), some (.int (nI b)), some (.int d), some (.int e), none]) (by decide +kernel) (Nat.le_of_ble_eq_true rfl) rfl ?_
  refine ev_aload_n (i := 0) dX11_turned_0 rfl rfl ?_
  refine ev_getf dX11_turned_1 flX11_64 (by first | exact ev_set_eq | assumption | exact (ev_set_ne (by decide)).trans ((fl_out (by omega)).trans h20) | exact (fl_out (by omega)).trans h20 | rfl) (by rfl) ?_
  refine ev_iload_n (i := 1) dX11_turned_4 rfl rfl ?_
  refine ev_c2 kX11_turned_5 (c3_bowAt_in hG hB hfb hb hc1) (ev_rv_of (by first | exact ev_set_eq | assumption | exact (ev_set_ne (by decide)).trans ((fl_out (by omega)).trans h20) | exact (fl_out (by omega)).trans h20 | rfl) rfl rfl) (by decide) (by decide) (Nat.le_of_ble_eq_true rfl) ?_
  refine ev_astore dX11_turned_8 (Nat.le_of_ble_eq_true rfl) rfl ?_
  refine ev_aload dX11_turned_10 rfl ?_
  refine ev_ifnull dX11_turned_12 ?_
  refine ev_iload_n (i := 2) dX11_turned_15 rfl rfl ?_
  refine ev_iconst (v := 0) dX11_turned_16 cni_0 ?_
  refine ev_sipush (v := 999) dX11_turned_17 cns_999 ?_
  refine ev_c3 kX11_turned_20 (c12_within) trivial (by decide) (by decide) (Nat.le_of_ble_eq_true rfl) ?_
  refine ev_if_eqb (tgt := 37) dX11_turned_23 (by decide) (fun h23 => False.elim (Bool.false_ne_true (h23.symm.trans (hd)))) (fun h23 => ?_)
  refine ev_iload_n (i := 3) dX11_turned_26 rfl rfl ?_
  refine ev_iconst (v := 0) dX11_turned_27 cni_0 ?_
  refine ev_sipush (v := 999) dX11_turned_28 cns_999 ?_
  refine ev_c3 kX11_turned_31 (c12_within) trivial (by decide) (by decide) (Nat.le_of_ble_eq_true rfl) ?_
  refine ev_if_neb (tgt := 39) dX11_turned_34 (by decide) (fun h34 => ?_) (fun h34 => False.elim (Bool.false_ne_true (h34.symm.trans (he))))
  refine ev_aload_n (i := 0) dX11_turned_39 rfl rfl ?_
  refine ev_getf dX11_turned_40 flX11_33 (by first | exact ev_set_eq | assumption | exact (ev_set_ne (by decide)).trans ((fl_out (by omega)).trans h20) | exact (fl_out (by omega)).trans h20 | rfl) (by rfl) ?_
  refine ev_aload_n (i := 0) dX11_turned_43 rfl rfl ?_
  refine ev_getf dX11_turned_44 flX11_64 (by first | exact ev_set_eq | assumption | exact (ev_set_ne (by decide)).trans ((fl_out (by omega)).trans h20) | exact (fl_out (by omega)).trans h20 | rfl) (by rfl) ?_
  refine ev_aload dX11_turned_47 rfl ?_
  refine ev_aload_n (i := 0) dX11_turned_49 rfl rfl ?_
  refine ev_getf dX11_turned_50 flX11_19 (by first | exact ev_set_eq | assumption | exact (ev_set_ne (by decide)).trans ((fl_out (by omega)).trans h20) | exact (fl_out (by omega)).trans h20 | rfl) (by rfl) ?_
  refine ev_iconst (v := 1) dX11_turned_53 cni_1 ?_
  refine ev_w5 kX11_turned_54 (c2_gather_1 hG hA hfa hT hV hc hW hS hg (by omega) h35 h36 h37 h38) (ev_rv_of (by first | exact ev_set_eq | assumption | exact (ev_set_ne (by decide)).trans ((fl_out (by omega)).trans h20) | exact (fl_out (by omega)).trans h20 | rfl) rfl rfl) (by decide) (by decide) (Nat.le_of_ble_eq_true rfl) ?_
  refine ev_aload_n (i := 0) dX11_turned_57 rfl rfl ?_
  refine ev_getf dX11_turned_58 flX11_33 (by first | exact ev_set_eq | assumption | exact (ev_set_ne (by decide)).trans ((fl_out (by omega)).trans h20) | exact (fl_out (by omega)).trans h20 | rfl) (by rfl) ?_
  refine ev_iload_n (i := 2) dX11_turned_61 rfl rfl ?_
  refine ev_iload_n (i := 3) dX11_turned_62 rfl rfl ?_
  refine ev_w3 kX11_turned_63 (c2_find (sz := c0) (q0 := (fl_mix c0 (fl_W tu s dr wi 1 0) q0)) (q1 := (fl_mix c0 (fl_W tu s dr wi 1 1) q1)) (q2 := (fl_mix c0 (fl_D s dr) q2)) rfl rfl rfl rfl hc) (ev_rv_of (by first | exact ev_set_eq | assumption | exact (ev_set_ne (by decide)).trans ((fl_out (by omega)).trans h20) | exact (fl_out (by omega)).trans h20 | rfl) rfl rfl) (by decide) (by decide) (Nat.le_of_ble_eq_true rfl) ?_
  refine ev_aload_n (i := 0) dX11_turned_66 rfl rfl ?_
  refine ev_getf dX11_turned_67 flX11_33 (by first | exact ev_set_eq | assumption | exact (ev_set_ne (by decide)).trans ((fl_out (by omega)).trans h20) | exact (fl_out (by omega)).trans h20 | rfl) (by rfl) ?_
  refine ev_getf dX11_turned_70 flX11_213 (by first | exact ev_set_eq | assumption | exact (ev_set_ne (by decide)).trans ((fl_out (by omega)).trans h20) | exact (fl_out (by omega)).trans h20 | rfl) (by rfl) ?_
  exact ev_reti dX11_turned_73 rfl rfl (⟨rfl, rfl⟩)
theorem c12_alike_no {G : ev_G} {n : Nat} {M : ev_M} {g g' c0 c1 c2 : Nat} {lot : Int32} (h20 : M 21 = .inr (11, [.ref 22, .ref 25, .ref 27, .ref 35, .ref 39, .ref 40, .ref 41, .ref 63, .ref g, .ref g', .int lot])) (hG : M g = .inr (3, [.ref (g + 1), .ref (g + 2), .ref (g + 3), .int (nI c0), .int (nI c1), .int (nI c2)])) {fb : Nat → Option Nat} (hB : M (g + 2) = .inl (3, 3, ev_q fb)) (hfb : ∀ i, i < 3 → fb i = some (g + 16 + i)) {b : Nat} (hb : b < c1) (hc1 : c1 ≤ 3) {d e w : Int32} (hr : (sp_in d 0 999 && (sp_in e 0 999 && sp_in w 0 1)) = false) : ev_Cal G mX11_alike 7 0 0 [.ref 21, .int (nI b), .int d, .int e, .int w] n M (ev_is (some (.int (-1))) M) := by
  refine ev_Cal_of (L := [some (.ref 21), some (.int (nI b)), some (.int d), some (.int e), some (.int w), none]) (by decide +kernel) (Nat.le_of_ble_eq_true rfl) rfl ?_
  refine ev_aload_n (i := 0) dX11_alike_0 rfl rfl ?_
  refine ev_getf dX11_alike_1 flX11_64 (by first | assumption | rfl) (by rfl) ?_
  refine ev_iload_n (i := 1) dX11_alike_4 rfl rfl ?_
  refine ev_c2 kX11_alike_5 (c3_bowAt_in hG hB hfb hb hc1) (ev_rv_of (by first | assumption | rfl) rfl rfl) (by decide) (by decide) (Nat.le_of_ble_eq_true rfl) ?_
  refine ev_astore dX11_alike_8 (Nat.le_of_ble_eq_true rfl) rfl ?_
  refine ev_aload dX11_alike_10 rfl ?_
  refine ev_ifnull dX11_alike_12 ?_
  refine ev_iload_n (i := 2) dX11_alike_15 rfl rfl ?_
  refine ev_iconst (v := 0) dX11_alike_16 cni_0 ?_
  refine ev_sipush (v := 999) dX11_alike_17 cns_999 ?_
  refine ev_c3 kX11_alike_20 (c12_within) trivial (by decide) (by decide) (Nat.le_of_ble_eq_true rfl) ?_
  refine ev_if_eqb (tgt := 47) dX11_alike_23 (by decide) (fun h23 => ?_) (fun h23 => ?_)
  · skip
    refine ev_iconst (v := (-1)) dX11_alike_47 cni_m1 ?_
    exact ev_reti dX11_alike_48 rfl rfl (⟨by first | rfl | simp [*], rfl⟩)
  · skip
    refine ev_iload_n (i := 3) dX11_alike_26 rfl rfl ?_
    refine ev_iconst (v := 0) dX11_alike_27 cni_0 ?_
    refine ev_sipush (v := 999) dX11_alike_28 cns_999 ?_
    refine ev_c3 kX11_alike_31 (c12_within) trivial (by decide) (by decide) (Nat.le_of_ble_eq_true rfl) ?_
    refine ev_if_eqb (tgt := 47) dX11_alike_34 (by decide) (fun h34 => ?_) (fun h34 => ?_)
    · skip
      refine ev_iconst (v := (-1)) dX11_alike_47 cni_m1 ?_
      exact ev_reti dX11_alike_48 rfl rfl (⟨by first | rfl | simp [*], rfl⟩)
    · skip
      refine ev_iload dX11_alike_37 rfl ?_
      refine ev_iconst (v := 0) dX11_alike_39 cni_0 ?_
      refine ev_iconst (v := 1) dX11_alike_40 cni_1 ?_
      refine ev_c3 kX11_alike_41 (c12_within) trivial (by decide) (by decide) (Nat.le_of_ble_eq_true rfl) ?_
      refine ev_if_neb (tgt := 49) dX11_alike_44 (by decide) (fun h44 => ?_) (fun h44 => ?_)
      · skip
        exact absurd hr (by rw [h23, h34, h44]; decide)
      · skip
        refine ev_iconst (v := (-1)) dX11_alike_47 cni_m1 ?_
        exact ev_reti dX11_alike_48 rfl rfl (⟨by first | rfl | simp [*], rfl⟩)
theorem c12_turned_no {G : ev_G} {n : Nat} {M : ev_M} {g g' c0 c1 c2 : Nat} {lot : Int32} (h20 : M 21 = .inr (11, [.ref 22, .ref 25, .ref 27, .ref 35, .ref 39, .ref 40, .ref 41, .ref 63, .ref g, .ref g', .int lot])) (hG : M g = .inr (3, [.ref (g + 1), .ref (g + 2), .ref (g + 3), .int (nI c0), .int (nI c1), .int (nI c2)])) {fb : Nat → Option Nat} (hB : M (g + 2) = .inl (3, 3, ev_q fb)) (hfb : ∀ i, i < 3 → fb i = some (g + 16 + i)) {b : Nat} (hb : b < c1) (hc1 : c1 ≤ 3) {d e : Int32} (hr : (sp_in d 0 999 && sp_in e 0 999) = false) : ev_Cal G mX11_turned 7 0 0 [.ref 21, .int (nI b), .int d, .int e] n M (ev_is (some (.int (-1))) M) := by
  refine ev_Cal_of (L := [some (.ref 21), some (.int (nI b)), some (.int d), some (.int e), none]) (by decide +kernel) (Nat.le_of_ble_eq_true rfl) rfl ?_
  refine ev_aload_n (i := 0) dX11_turned_0 rfl rfl ?_
  refine ev_getf dX11_turned_1 flX11_64 (by first | assumption | rfl) (by rfl) ?_
  refine ev_iload_n (i := 1) dX11_turned_4 rfl rfl ?_
  refine ev_c2 kX11_turned_5 (c3_bowAt_in hG hB hfb hb hc1) (ev_rv_of (by first | assumption | rfl) rfl rfl) (by decide) (by decide) (Nat.le_of_ble_eq_true rfl) ?_
  refine ev_astore dX11_turned_8 (Nat.le_of_ble_eq_true rfl) rfl ?_
  refine ev_aload dX11_turned_10 rfl ?_
  refine ev_ifnull dX11_turned_12 ?_
  refine ev_iload_n (i := 2) dX11_turned_15 rfl rfl ?_
  refine ev_iconst (v := 0) dX11_turned_16 cni_0 ?_
  refine ev_sipush (v := 999) dX11_turned_17 cns_999 ?_
  refine ev_c3 kX11_turned_20 (c12_within) trivial (by decide) (by decide) (Nat.le_of_ble_eq_true rfl) ?_
  refine ev_if_eqb (tgt := 37) dX11_turned_23 (by decide) (fun h23 => ?_) (fun h23 => ?_)
  · skip
    refine ev_iconst (v := (-1)) dX11_turned_37 cni_m1 ?_
    exact ev_reti dX11_turned_38 rfl rfl (⟨by first | rfl | simp [*], rfl⟩)
  · skip
    refine ev_iload_n (i := 3) dX11_turned_26 rfl rfl ?_
    refine ev_iconst (v := 0) dX11_turned_27 cni_0 ?_
    refine ev_sipush (v := 999) dX11_turned_28 cns_999 ?_
    refine ev_c3 kX11_turned_31 (c12_within) trivial (by decide) (by decide) (Nat.le_of_ble_eq_true rfl) ?_
    refine ev_if_neb (tgt := 39) dX11_turned_34 (by decide) (fun h34 => ?_) (fun h34 => ?_)
    · skip
      exact absurd hr (by rw [h23, h34]; decide)
    · skip
      refine ev_iconst (v := (-1)) dX11_turned_37 cni_m1 ?_
      exact ev_reti dX11_turned_38 rfl rfl (⟨by first | rfl | simp [*], rfl⟩)
theorem c12_alike_b {G : ev_G} {n : Nat} {M : ev_M} {g g' c0 c1 c2 : Nat} {lot : Int32} (h20 : M 21 = .inr (11, [.ref 22, .ref 25, .ref 27, .ref 35, .ref 39, .ref 40, .ref 41, .ref 63, .ref g, .ref g', .int lot])) (hG : M g = .inr (3, [.ref (g + 1), .ref (g + 2), .ref (g + 3), .int (nI c0), .int (nI c1), .int (nI c2)])) {x : Int32} (hx : x < 0 ∨ nI c1 ≤ x) {d e w : Int32} : ev_Cal G mX11_alike 7 0 0 [.ref 21, .int x, .int d, .int e, .int w] n M (ev_is (some (.int (-1))) M) := by
  refine ev_Cal_of (L := [some (.ref 21), some (.int x), some (.int d), some (.int e), some (.int w), none]) (by decide +kernel) (Nat.le_of_ble_eq_true rfl) rfl ?_
  refine ev_aload_n (i := 0) dX11_alike_0 rfl rfl ?_
  refine ev_getf dX11_alike_1 flX11_64 (by first | assumption | rfl) (by rfl) ?_
  refine ev_iload_n (i := 1) dX11_alike_4 rfl rfl ?_
  refine ev_c2 kX11_alike_5 (c3_bowAt_out hG hx) (ev_rv_of (by first | assumption | rfl) rfl rfl) (by decide) (by decide) (Nat.le_of_ble_eq_true rfl) ?_
  refine ev_astoreN dX11_alike_8 (Nat.le_of_ble_eq_true rfl) rfl ?_
  refine ev_aloadN dX11_alike_10 rfl ?_
  refine ev_ifnullN (tgt := 47) dX11_alike_12 (by decide) ?_
  refine ev_iconst (v := (-1)) dX11_alike_47 cni_m1 ?_
  exact ev_reti dX11_alike_48 rfl rfl (⟨by first | rfl | simp [*], rfl⟩)
theorem c12_turned_b {G : ev_G} {n : Nat} {M : ev_M} {g g' c0 c1 c2 : Nat} {lot : Int32} (h20 : M 21 = .inr (11, [.ref 22, .ref 25, .ref 27, .ref 35, .ref 39, .ref 40, .ref 41, .ref 63, .ref g, .ref g', .int lot])) (hG : M g = .inr (3, [.ref (g + 1), .ref (g + 2), .ref (g + 3), .int (nI c0), .int (nI c1), .int (nI c2)])) {x : Int32} (hx : x < 0 ∨ nI c1 ≤ x) {d e : Int32} : ev_Cal G mX11_turned 7 0 0 [.ref 21, .int x, .int d, .int e] n M (ev_is (some (.int (-1))) M) := by
  refine ev_Cal_of (L := [some (.ref 21), some (.int x), some (.int d), some (.int e), none]) (by decide +kernel) (Nat.le_of_ble_eq_true rfl) rfl ?_
  refine ev_aload_n (i := 0) dX11_turned_0 rfl rfl ?_
  refine ev_getf dX11_turned_1 flX11_64 (by first | assumption | rfl) (by rfl) ?_
  refine ev_iload_n (i := 1) dX11_turned_4 rfl rfl ?_
  refine ev_c2 kX11_turned_5 (c3_bowAt_out hG hx) (ev_rv_of (by first | assumption | rfl) rfl rfl) (by decide) (by decide) (Nat.le_of_ble_eq_true rfl) ?_
  refine ev_astoreN dX11_turned_8 (Nat.le_of_ble_eq_true rfl) rfl ?_
  refine ev_aloadN dX11_turned_10 rfl ?_
  refine ev_ifnullN (tgt := 37) dX11_turned_12 (by decide) ?_
  refine ev_iconst (v := (-1)) dX11_turned_37 cni_m1 ?_
  exact ev_reti dX11_turned_38 rfl rfl (⟨by first | rfl | simp [*], rfl⟩)
