/-! ===== contracts: the class: parted, out, copy ===== -/
theorem l8_weigh {G : ev_G} {n : Nat} {M : ev_M} {sz : Nat} {a5 a6 : Nat → Int32} {bA : Nat} {WW : Int64 × Int64} (hE : sh_w a5 a6 12 = WW) : ∀ (m k : Nat), k + m = 12 → ev_E G mX8_weigh 3 0 0 n (ev_ml M [(27, .inr (8, [.ref (27 + 1), .ref (27 + 2), .ref (27 + 3), .ref (27 + 4), .ref (27 + 5), .ref (27 + 6), .ref (27 + 7), .long (sh_w a5 a6 (k)).1, .long (sh_w a5 a6 (k)).2, .int (nI sz)])), (27 + 6, .inl (0, 12, .inl a5)), (27 + 7, .inl (0, 12, .inl a6))]) 17 [some (.ref 27), some (.ref bA), some (.int (nI k))] [] (ev_is none (ev_ml M [(27, .inr (8, [.ref (27 + 1), .ref (27 + 2), .ref (27 + 3), .ref (27 + 4), .ref (27 + 5), .ref (27 + 6), .ref (27 + 7), .long WW.1, .long WW.2, .int (nI sz)])), (27 + 6, .inl (0, 12, .inl a5)), (27 + 7, .inl (0, 12, .inl a6))])) := by
  intro m
  induction m with
  | zero =>
    intro k hk
    refine ev_iload_n (i := 2) dX8_weigh_17 rfl rfl ?_
    refine ev_aload_n (i := 0) dX8_weigh_18 rfl rfl ?_
    refine ev_getf dX8_weigh_19 flX8_30 (by first | rfl | assumption) (by rfl) ?_
    refine ev_alen (v := 12) dX8_weigh_22 (fun _ => rfl) (by first | rfl | assumption) (by rfl) ?_
    refine ev_icmp_ge (tgt := 67) dX8_weigh_23 (by decide) (fun h23 => ?_) (fun h23 => False.elim (nI_nlt (a := k) (b := 12) (by omega) (by omega) h23))
    obtain rfl : k = 12 := by omega
    subst hE
    exact ev_retv dX8_weigh_67 rfl (⟨rfl, rfl⟩)
  | succ m ih =>
    intro k hk
    refine ev_iload_n (i := 2) dX8_weigh_17 rfl rfl ?_
    refine ev_aload_n (i := 0) dX8_weigh_18 rfl rfl ?_
    refine ev_getf dX8_weigh_19 flX8_30 (by first | rfl | assumption) (by rfl) ?_
    refine ev_alen (v := 12) dX8_weigh_22 (fun _ => rfl) (by first | rfl | assumption) (by rfl) ?_
    refine ev_icmp_ge (tgt := 67) dX8_weigh_23 (by decide) (fun h23 => False.elim (nI_ge (a := k) (b := 12) (by omega) (by decide) h23)) (fun h23 => ?_)
    refine ev_aload_n (i := 0) dX8_weigh_26 rfl rfl ?_
    refine ev_getf dX8_weigh_27 flX8_30 (by first | rfl | assumption) (by rfl) ?_
    refine ev_iload_n (i := 2) dX8_weigh_30 rfl rfl ?_
    refine ev_iald (j := k) dX8_weigh_31 (by first | rfl | assumption) (ev_ix_nI (by omega)) (by omega) ?_
    refine ev_if_le (tgt := 61) dX8_weigh_32 (by decide) (fun h32 => ?_) (fun h32 => ?_)
    · skip
      refine ev_iinc (v := nI (k + 1)) dX8_weigh_61 rfl (nI_1 k) (Nat.le_of_ble_eq_true rfl) rfl ?_
      refine ev_goto (tgt := 17) dX8_weigh_64 (by decide) ?_
      refine ev_mem ?_ (ih (k + 1) (by omega))
      rw [sh_w_0 (S := a5) (C := a6) (k := k) h32]
    · skip
      refine ev_aload_n (i := 0) dX8_weigh_35 rfl rfl ?_
      refine ev_aload_n (i := 0) dX8_weigh_36 rfl rfl ?_
      refine ev_getf dX8_weigh_37 flX8_27 (by first | rfl | assumption) (by rfl) ?_
      refine ev_iload_n (i := 2) dX8_weigh_40 rfl rfl ?_
      refine ev_iald (j := k) dX8_weigh_41 (by first | rfl | assumption) (ev_ix_nI (by omega)) (by omega) ?_
      refine ev_i2l dX8_weigh_42 ?_
      refine ev_aload_n (i := 0) dX8_weigh_43 rfl rfl ?_
      refine ev_getf dX8_weigh_44 flX8_27 (by first | rfl | assumption) (by rfl) ?_
      refine ev_iload_n (i := 2) dX8_weigh_47 rfl rfl ?_
      refine ev_iald (j := k) dX8_weigh_48 (by first | rfl | assumption) (ev_ix_nI (by omega)) (by omega) ?_
      refine ev_i2l dX8_weigh_49 ?_
      refine ev_lmul dX8_weigh_50 ?_
      refine ev_aload_n (i := 0) dX8_weigh_51 rfl rfl ?_
      refine ev_getf dX8_weigh_52 flX8_30 (by first | rfl | assumption) (by rfl) ?_
      refine ev_iload_n (i := 2) dX8_weigh_55 rfl rfl ?_
      refine ev_iald (j := k) dX8_weigh_56 (by first | rfl | assumption) (ev_ix_nI (by omega)) (by omega) ?_
      refine ev_i2l dX8_weigh_57 ?_
      refine ev_w3 kX8_weigh_58 (c8_addFraction rfl) (ev_rv_of (by first | rfl | assumption) rfl rfl) (by decide) (by decide) (Nat.le_of_ble_eq_true rfl) ?_
      refine ev_iinc (v := nI (k + 1)) dX8_weigh_61 rfl (nI_1 k) (Nat.le_of_ble_eq_true rfl) rfl ?_
      refine ev_goto (tgt := 17) dX8_weigh_64 (by decide) ?_
      refine ev_mem ?_ (ih (k + 1) (by omega))
      rw [sh_w_1 (S := a5) (C := a6) (k := k) h32]
      exact ev_set_set
theorem c8_weigh {G : ev_G} {n : Nat} {M : ev_M} {up dn : Int64} {f0 f1 f2 f3 f4 f5 f6 : Nat → Int32} {sz : Nat} (hz : M (27) = .inr (8, [.ref (27 + 1), .ref (27 + 2), .ref (27 + 3), .ref (27 + 4), .ref (27 + 5), .ref (27 + 6), .ref (27 + 7), .long up, .long dn, .int (nI sz)])) (z0 : M (27 + 1) = .inl (0, 60, .inl f0)) (z1 : M (27 + 2) = .inl (0, 60, .inl f1)) (z2 : M (27 + 3) = .inl (0, 60, .inl f2)) (z3 : M (27 + 4) = .inl (0, 60, .inl f3)) (z4 : M (27 + 5) = .inl (0, 60, .inl f4)) (z5 : M (27 + 6) = .inl (0, 12, .inl f5)) (z6 : M (27 + 7) = .inl (0, 12, .inl f6)) {bA : Nat} {kf : Nat → Int32} (hb : M bA = .inl (0, 60, .inl kf)) (hb6 : ¬ bA = 33 ∧ ¬ bA = 34) (hsz : sz ≤ 60)  : ev_Cal G mX8_weigh 3 0 0 [.ref 27, .ref bA] n M (ev_is none (ev_ml M [(27, .inr (8, [.ref (27 + 1), .ref (27 + 2), .ref (27 + 3), .ref (27 + 4), .ref (27 + 5), .ref (27 + 6), .ref (27 + 7), .long (sh_W kf f3 sz).1, .long (sh_W kf f3 sz).2, .int (nI sz)])), (27 + 6, .inl (0, 12, .inl (sh_F (sh_sum kf f3) f5 sz))), (27 + 7, .inl (0, 12, .inl (sh_F (sh_cnt kf) f6 sz)))])) := by
  refine ev_Cal_of (L := [some (.ref 27), some (.ref bA), none]) (by decide +kernel) (Nat.le_of_ble_eq_true rfl) rfl ?_
  refine ev_aload_n (i := 0) dX8_weigh_0 rfl rfl ?_
  refine ev_aload_n (i := 1) dX8_weigh_1 rfl rfl ?_
  refine ev_w2 kX8_weigh_2 (c8_addUp hz z0 z1 z2 z3 z4 z5 z6 hb hb6 hsz) (ev_rv_of (by first | rfl | assumption) rfl rfl) (by decide) (by decide) (Nat.le_of_ble_eq_true rfl) ?_
  refine ev_mem (M2 := (ev_ml M [(27, .inr (8, [.ref (27 + 1), .ref (27 + 2), .ref (27 + 3), .ref (27 + 4), .ref (27 + 5), .ref (27 + 6), .ref (27 + 7), .long up, .long dn, .int (nI sz)])), (27 + 6, .inl (0, 12, .inl (sh_F (sh_sum kf f3) f5 sz))), (27 + 7, .inl (0, 12, .inl (sh_F (sh_cnt kf) f6 sz)))])) (ev_set_self ((sh_out (by decide)).trans hz)).symm ?_
  refine ev_aload_n (i := 0) dX8_weigh_5 rfl rfl ?_
  refine ev_lconst (v := 0) dX8_weigh_6 rfl ?_
  refine ev_putlP 0 dX8_weigh_7 fpX8_42 (by rfl) (by rfl) (Nat.le_of_ble_eq_true rfl) (by rfl) (by rfl) ?_
  refine ev_aload_n (i := 0) dX8_weigh_10 rfl rfl ?_
  refine ev_lconst (v := 1) dX8_weigh_11 rfl ?_
  refine ev_putlP 0 dX8_weigh_12 fpX8_46 (by rfl) (by rfl) (Nat.le_of_ble_eq_true rfl) (by rfl) (by rfl) ?_
  refine ev_iconst (v := 0) dX8_weigh_15 cni_0 ?_
  refine ev_istore_n (i := 2) dX8_weigh_16 rfl (Nat.le_of_ble_eq_true rfl) rfl ?_
  exact l8_weigh sh_W_eq 12 0 (Nat.zero_add _)
theorem sh_eq0 {k : Nat} (hk : k < 3) (h : nI k = 0) : k = 0 := sh_nI_inj (by omega) (by decide) (h.trans nI_0.symm)
theorem sh_eq1 {k : Nat} (hk : k < 3) (h : nI k = 1) : k = 1 := sh_nI_inj (by omega) (by decide) (h.trans (by decide : (1 : Int32) = nI 1))
theorem sh_eq2 {k : Nat} (hk : k < 3) (h : ¬ nI k = 0) (h1 : ¬ nI k = 1) : k = 2 := by
  have q0 : k ≠ 0 := fun e => h (by rw [e]; decide)
  have q1 : k ≠ 1 := fun e => h1 (by rw [e]; decide)
  omega
theorem sh_ml3 {M : ev_M} {x0 x1 x2 y0 y1 y2 z0 z1 z2 : ev_MC} (h : (y0, y1, y2) = (z0, z1, z2)) : ev_ml (ev_ml M [(27, x0), (27 + 6, x1), (27 + 7, x2)]) [(27, y0), (27 + 6, y1), (27 + 7, y2)] = ev_ml M [(27, z0), (27 + 6, z1), (27 + 7, z2)] := by
  cases h
  funext k
  simp only [ev_ml, ev_set]
  by_cases a : k = 27 <;> by_cases b : k = 27 + 6 <;> by_cases c : k = 27 + 7 <;> simp only [a, b, c, if_true, if_false, if_pos, if_neg, not_false_eq_true]
theorem l8_partedBy {G : ev_G} {n : Nat} {M : ev_M} {up dn : Int64} {f0 f1 f2 f3 f4 f5 f6 : Nat → Int32} {sz : Nat} (hz : M (27) = .inr (8, [.ref (27 + 1), .ref (27 + 2), .ref (27 + 3), .ref (27 + 4), .ref (27 + 5), .ref (27 + 6), .ref (27 + 7), .long up, .long dn, .int (nI sz)])) (z0 : M (27 + 1) = .inl (0, 60, .inl f0)) (z1 : M (27 + 2) = .inl (0, 60, .inl f1)) (z2 : M (27 + 3) = .inl (0, 60, .inl f2)) (z3 : M (27 + 4) = .inl (0, 60, .inl f3)) (z4 : M (27 + 5) = .inl (0, 60, .inl f4)) (z5 : M (27 + 6) = .inl (0, 12, .inl f5)) (z6 : M (27 + 7) = .inl (0, 12, .inl f6)) (hsz : sz ≤ 60) (hsz0 : 0 < sz) : ∀ (m k : Nat) (u v : Int64) (g5 g6 : Nat → Int32), k + m = 3 → ev_E G mX8_partedBy 4 0 0 n (ev_ml M [(27, .inr (8, [.ref (27 + 1), .ref (27 + 2), .ref (27 + 3), .ref (27 + 4), .ref (27 + 5), .ref (27 + 6), .ref (27 + 7), .long u, .long v, .int (nI sz)])), (27 + 6, .inl (0, 12, .inl g5)), (27 + 7, .inl (0, 12, .inl g6))]) 20 [some (.ref 27), some (.int (sh_best (fun k => sh_W (sh_kf f0 f1 f2 k) f3 sz) (k)).1), some (.long (sh_best (fun k => sh_W (sh_kf f0 f1 f2 k) f3 sz) (k)).2.1), none, some (.long (sh_best (fun k => sh_W (sh_kf f0 f1 f2 k) f3 sz) (k)).2.2), none, some (.int (nI k))] [] (fun r M' => r = some (.int (sh_best (fun k => sh_W (sh_kf f0 f1 f2 k) f3 sz) (3)).1) ∧ ∃ (u v : Int64) (g5 g6 : Nat → Int32), M' = (ev_ml M [(27, .inr (8, [.ref (27 + 1), .ref (27 + 2), .ref (27 + 3), .ref (27 + 4), .ref (27 + 5), .ref (27 + 6), .ref (27 + 7), .long u, .long v, .int (nI sz)])), (27 + 6, .inl (0, 12, .inl g5)), (27 + 7, .inl (0, 12, .inl g6))])) := by
  intro m
  induction m with
  | zero =>
    intro k u v g5 g6 hk
    refine ev_iload dX8_partedBy_20 rfl ?_
    refine ev_iconst (v := 2) dX8_partedBy_22 cni_2 ?_
    refine ev_icmp_gt (tgt := 99) dX8_partedBy_23 (by decide) (fun h23 => ?_) (fun h23 => False.elim (Int32.not_lt.mpr h23 (nI_lt (a := 2) (b := k) (by omega) (by omega))))
    obtain rfl : k = 3 := by omega
    refine ev_iload_n (i := 1) dX8_partedBy_99 rfl rfl ?_
    exact ev_reti dX8_partedBy_100 rfl rfl (⟨rfl, _, _, _, _, rfl⟩)
  | succ m ih =>
    intro k u v g5 g6 hk
    refine ev_iload dX8_partedBy_20 rfl ?_
    refine ev_iconst (v := 2) dX8_partedBy_22 cni_2 ?_
    refine ev_icmp_gt (tgt := 99) dX8_partedBy_23 (by decide) (fun h23 => False.elim (Int32.not_lt.mpr (nI_le (a := k) (b := 2) (by omega) (by decide)) h23)) (fun h23 => ?_)
    refine ev_aload_n (i := 0) dX8_partedBy_26 rfl rfl ?_
    refine ev_iload dX8_partedBy_27 rfl ?_
    refine ev_if_ne (tgt := 39) dX8_partedBy_29 (by decide) (fun h29 => ?_) (fun h29 => ?_)
    · skip
      refine ev_iload dX8_partedBy_39 rfl ?_
      refine ev_iconst (v := 1) dX8_partedBy_41 cni_1 ?_
      refine ev_icmp_ne (tgt := 52) dX8_partedBy_42 (by decide) (fun h42 => ?_) (fun h42 => ?_)
      · skip
        refine ev_aload_n (i := 0) dX8_partedBy_52 rfl rfl ?_
        refine ev_getf dX8_partedBy_53 flX8_15 (by first | rfl | exact ((sh_out3 (by decide)).trans z0)) (by rfl) ?_
        obtain rfl : k = 2 := sh_eq2 (by omega) h29 h42
        refine ev_w2 kX8_partedBy_56 (c8_weigh rfl ((sh_out3 (by decide)).trans z0) ((sh_out3 (by decide)).trans z1) ((sh_out3 (by decide)).trans z2) ((sh_out3 (by decide)).trans z3) ((sh_out3 (by decide)).trans z4) rfl rfl ((sh_out3 (by decide)).trans z1) (by decide) hsz) (ev_rv_of (by rfl) rfl rfl) (by decide) (by decide) (Nat.le_of_ble_eq_true rfl) ?_
        refine ev_aload_n (i := 0) dX8_partedBy_59 rfl rfl ?_
        refine ev_getf dX8_partedBy_60 flX8_42 (by rfl) (by rfl) ?_
        refine ev_lload dX8_partedBy_63 rfl ?_
        refine ev_lmul dX8_partedBy_65 ?_
        refine ev_lload_n (i := 2) dX8_partedBy_66 rfl rfl ?_
        refine ev_aload_n (i := 0) dX8_partedBy_67 rfl rfl ?_
        refine ev_getf dX8_partedBy_68 flX8_46 (by rfl) (by rfl) ?_
        refine ev_lmul dX8_partedBy_71 ?_
        refine ev_lcmp dX8_partedBy_72 ?_
        refine ev_if_gt (tgt := 79) dX8_partedBy_73 (by decide) (fun h73 => ?_) (fun h73 => ?_)
        · skip
          refine ev_iload dX8_partedBy_79 rfl ?_
          refine ev_istore_n (i := 1) dX8_partedBy_81 rfl (Nat.le_of_ble_eq_true rfl) rfl ?_
          refine ev_aload_n (i := 0) dX8_partedBy_82 rfl rfl ?_
          refine ev_getf dX8_partedBy_83 flX8_42 (by rfl) (by rfl) ?_
          refine ev_lstore_n (i := 2) dX8_partedBy_86 rfl (Nat.le_of_ble_eq_true rfl) rfl ?_
          refine ev_aload_n (i := 0) dX8_partedBy_87 rfl rfl ?_
          refine ev_getf dX8_partedBy_88 flX8_46 (by rfl) (by rfl) ?_
          refine ev_lstore dX8_partedBy_91 (Nat.le_of_ble_eq_true rfl) rfl ?_
          -- leaf 1
          refine ev_mem (M2 := (ev_ml M [(27, .inr (8, [.ref (27 + 1), .ref (27 + 2), .ref (27 + 3), .ref (27 + 4), .ref (27 + 5), .ref (27 + 6), .ref (27 + 7), .long (sh_W (sh_kf f0 f1 f2 2) f3 sz).1, .long (sh_W (sh_kf f0 f1 f2 2) f3 sz).2, .int (nI sz)])), (27 + 6, .inl (0, 12, .inl _)), (27 + 7, .inl (0, 12, .inl _))])) (sh_ml3 (by rfl)) ?_
          refine ev_iinc (v := nI (2 + 1)) dX8_partedBy_93 rfl (nI_1 2) (Nat.le_of_ble_eq_true rfl) rfl ?_
          refine ev_goto (tgt := 20) dX8_partedBy_96 (by decide) ?_
          exact ev_loc (L2 := [some (.ref 27), some (.int (sh_best (fun k => sh_W (sh_kf f0 f1 f2 k) f3 sz) (2 + 1)).1), some (.long (sh_best (fun k => sh_W (sh_kf f0 f1 f2 k) f3 sz) (2 + 1)).2.1), none, some (.long (sh_best (fun k => sh_W (sh_kf f0 f1 f2 k) f3 sz) (2 + 1)).2.2), none, some (.int (nI (2 + 1)))]) (by rw [sh_best_1 (W := (fun k => sh_W (sh_kf f0 f1 f2 k) f3 sz)) (k := 2) ((lg_cmp_gt _ _).mp h73)]; rfl) (ih (2 + 1) _ _ _ _ (by omega))
        · skip
          refine ev_goto (tgt := 93) dX8_partedBy_76 (by decide) ?_
          -- leaf 2
          refine ev_mem (M2 := (ev_ml M [(27, .inr (8, [.ref (27 + 1), .ref (27 + 2), .ref (27 + 3), .ref (27 + 4), .ref (27 + 5), .ref (27 + 6), .ref (27 + 7), .long (sh_W (sh_kf f0 f1 f2 2) f3 sz).1, .long (sh_W (sh_kf f0 f1 f2 2) f3 sz).2, .int (nI sz)])), (27 + 6, .inl (0, 12, .inl _)), (27 + 7, .inl (0, 12, .inl _))])) (sh_ml3 (by rfl)) ?_
          refine ev_iinc (v := nI (2 + 1)) dX8_partedBy_93 rfl (nI_1 2) (Nat.le_of_ble_eq_true rfl) rfl ?_
          refine ev_goto (tgt := 20) dX8_partedBy_96 (by decide) ?_
          exact ev_loc (L2 := [some (.ref 27), some (.int (sh_best (fun k => sh_W (sh_kf f0 f1 f2 k) f3 sz) (2 + 1)).1), some (.long (sh_best (fun k => sh_W (sh_kf f0 f1 f2 k) f3 sz) (2 + 1)).2.1), none, some (.long (sh_best (fun k => sh_W (sh_kf f0 f1 f2 k) f3 sz) (2 + 1)).2.2), none, some (.int (nI (2 + 1)))]) (by rw [sh_best_0 (W := (fun k => sh_W (sh_kf f0 f1 f2 k) f3 sz)) (k := 2) (fun q => Int32.not_lt.mpr h73 ((lg_cmp_gt _ _).mpr q))]; rfl) (ih (2 + 1) _ _ _ _ (by omega))
      · skip
        refine ev_aload_n (i := 0) dX8_partedBy_45 rfl rfl ?_
        refine ev_getf dX8_partedBy_46 flX8_18 (by first | rfl | exact ((sh_out3 (by decide)).trans z0)) (by rfl) ?_
        refine ev_goto (tgt := 56) dX8_partedBy_49 (by decide) ?_
        obtain rfl : k = 1 := sh_eq1 (by omega) h42
        refine ev_w2 kX8_partedBy_56 (c8_weigh rfl ((sh_out3 (by decide)).trans z0) ((sh_out3 (by decide)).trans z1) ((sh_out3 (by decide)).trans z2) ((sh_out3 (by decide)).trans z3) ((sh_out3 (by decide)).trans z4) rfl rfl ((sh_out3 (by decide)).trans z2) (by decide) hsz) (ev_rv_of (by rfl) rfl rfl) (by decide) (by decide) (Nat.le_of_ble_eq_true rfl) ?_
        refine ev_aload_n (i := 0) dX8_partedBy_59 rfl rfl ?_
        refine ev_getf dX8_partedBy_60 flX8_42 (by rfl) (by rfl) ?_
        refine ev_lload dX8_partedBy_63 rfl ?_
        refine ev_lmul dX8_partedBy_65 ?_
        refine ev_lload_n (i := 2) dX8_partedBy_66 rfl rfl ?_
        refine ev_aload_n (i := 0) dX8_partedBy_67 rfl rfl ?_
        refine ev_getf dX8_partedBy_68 flX8_46 (by rfl) (by rfl) ?_
        refine ev_lmul dX8_partedBy_71 ?_
        refine ev_lcmp dX8_partedBy_72 ?_
        refine ev_if_gt (tgt := 79) dX8_partedBy_73 (by decide) (fun h73 => ?_) (fun h73 => ?_)
        · skip
          refine ev_iload dX8_partedBy_79 rfl ?_
          refine ev_istore_n (i := 1) dX8_partedBy_81 rfl (Nat.le_of_ble_eq_true rfl) rfl ?_
          refine ev_aload_n (i := 0) dX8_partedBy_82 rfl rfl ?_
          refine ev_getf dX8_partedBy_83 flX8_42 (by rfl) (by rfl) ?_
          refine ev_lstore_n (i := 2) dX8_partedBy_86 rfl (Nat.le_of_ble_eq_true rfl) rfl ?_
          refine ev_aload_n (i := 0) dX8_partedBy_87 rfl rfl ?_
          refine ev_getf dX8_partedBy_88 flX8_46 (by rfl) (by rfl) ?_
          refine ev_lstore dX8_partedBy_91 (Nat.le_of_ble_eq_true rfl) rfl ?_
          -- leaf 1
          refine ev_mem (M2 := (ev_ml M [(27, .inr (8, [.ref (27 + 1), .ref (27 + 2), .ref (27 + 3), .ref (27 + 4), .ref (27 + 5), .ref (27 + 6), .ref (27 + 7), .long (sh_W (sh_kf f0 f1 f2 1) f3 sz).1, .long (sh_W (sh_kf f0 f1 f2 1) f3 sz).2, .int (nI sz)])), (27 + 6, .inl (0, 12, .inl _)), (27 + 7, .inl (0, 12, .inl _))])) (sh_ml3 (by rfl)) ?_
          refine ev_iinc (v := nI (1 + 1)) dX8_partedBy_93 rfl (nI_1 1) (Nat.le_of_ble_eq_true rfl) rfl ?_
          refine ev_goto (tgt := 20) dX8_partedBy_96 (by decide) ?_
          exact ev_loc (L2 := [some (.ref 27), some (.int (sh_best (fun k => sh_W (sh_kf f0 f1 f2 k) f3 sz) (1 + 1)).1), some (.long (sh_best (fun k => sh_W (sh_kf f0 f1 f2 k) f3 sz) (1 + 1)).2.1), none, some (.long (sh_best (fun k => sh_W (sh_kf f0 f1 f2 k) f3 sz) (1 + 1)).2.2), none, some (.int (nI (1 + 1)))]) (by rw [sh_best_1 (W := (fun k => sh_W (sh_kf f0 f1 f2 k) f3 sz)) (k := 1) ((lg_cmp_gt _ _).mp h73)]; rfl) (ih (1 + 1) _ _ _ _ (by omega))
        · skip
          refine ev_goto (tgt := 93) dX8_partedBy_76 (by decide) ?_
          -- leaf 2
          refine ev_mem (M2 := (ev_ml M [(27, .inr (8, [.ref (27 + 1), .ref (27 + 2), .ref (27 + 3), .ref (27 + 4), .ref (27 + 5), .ref (27 + 6), .ref (27 + 7), .long (sh_W (sh_kf f0 f1 f2 1) f3 sz).1, .long (sh_W (sh_kf f0 f1 f2 1) f3 sz).2, .int (nI sz)])), (27 + 6, .inl (0, 12, .inl _)), (27 + 7, .inl (0, 12, .inl _))])) (sh_ml3 (by rfl)) ?_
          refine ev_iinc (v := nI (1 + 1)) dX8_partedBy_93 rfl (nI_1 1) (Nat.le_of_ble_eq_true rfl) rfl ?_
          refine ev_goto (tgt := 20) dX8_partedBy_96 (by decide) ?_
          exact ev_loc (L2 := [some (.ref 27), some (.int (sh_best (fun k => sh_W (sh_kf f0 f1 f2 k) f3 sz) (1 + 1)).1), some (.long (sh_best (fun k => sh_W (sh_kf f0 f1 f2 k) f3 sz) (1 + 1)).2.1), none, some (.long (sh_best (fun k => sh_W (sh_kf f0 f1 f2 k) f3 sz) (1 + 1)).2.2), none, some (.int (nI (1 + 1)))]) (by rw [sh_best_0 (W := (fun k => sh_W (sh_kf f0 f1 f2 k) f3 sz)) (k := 1) (fun q => Int32.not_lt.mpr h73 ((lg_cmp_gt _ _).mpr q))]; rfl) (ih (1 + 1) _ _ _ _ (by omega))
    · skip
      refine ev_aload_n (i := 0) dX8_partedBy_32 rfl rfl ?_
      refine ev_getf dX8_partedBy_33 flX8_9 (by first | rfl | exact ((sh_out3 (by decide)).trans z0)) (by rfl) ?_
      refine ev_goto (tgt := 56) dX8_partedBy_36 (by decide) ?_
      obtain rfl : k = 0 := sh_eq0 (by omega) h29
      refine ev_w2 kX8_partedBy_56 (c8_weigh rfl ((sh_out3 (by decide)).trans z0) ((sh_out3 (by decide)).trans z1) ((sh_out3 (by decide)).trans z2) ((sh_out3 (by decide)).trans z3) ((sh_out3 (by decide)).trans z4) rfl rfl ((sh_out3 (by decide)).trans z0) (by decide) hsz) (ev_rv_of (by rfl) rfl rfl) (by decide) (by decide) (Nat.le_of_ble_eq_true rfl) ?_
      refine ev_aload_n (i := 0) dX8_partedBy_59 rfl rfl ?_
      refine ev_getf dX8_partedBy_60 flX8_42 (by rfl) (by rfl) ?_
      refine ev_lload dX8_partedBy_63 rfl ?_
      refine ev_lmul dX8_partedBy_65 ?_
      refine ev_lload_n (i := 2) dX8_partedBy_66 rfl rfl ?_
      refine ev_aload_n (i := 0) dX8_partedBy_67 rfl rfl ?_
      refine ev_getf dX8_partedBy_68 flX8_46 (by rfl) (by rfl) ?_
      refine ev_lmul dX8_partedBy_71 ?_
      refine ev_lcmp dX8_partedBy_72 ?_
      refine ev_if_gt (tgt := 79) dX8_partedBy_73 (by decide) (fun h73 => ?_) (fun h73 => ?_)
      · skip
        refine ev_iload dX8_partedBy_79 rfl ?_
        refine ev_istore_n (i := 1) dX8_partedBy_81 rfl (Nat.le_of_ble_eq_true rfl) rfl ?_
        refine ev_aload_n (i := 0) dX8_partedBy_82 rfl rfl ?_
        refine ev_getf dX8_partedBy_83 flX8_42 (by rfl) (by rfl) ?_
        refine ev_lstore_n (i := 2) dX8_partedBy_86 rfl (Nat.le_of_ble_eq_true rfl) rfl ?_
        refine ev_aload_n (i := 0) dX8_partedBy_87 rfl rfl ?_
        refine ev_getf dX8_partedBy_88 flX8_46 (by rfl) (by rfl) ?_
        refine ev_lstore dX8_partedBy_91 (Nat.le_of_ble_eq_true rfl) rfl ?_
        -- leaf 1
        refine ev_mem (M2 := (ev_ml M [(27, .inr (8, [.ref (27 + 1), .ref (27 + 2), .ref (27 + 3), .ref (27 + 4), .ref (27 + 5), .ref (27 + 6), .ref (27 + 7), .long (sh_W (sh_kf f0 f1 f2 0) f3 sz).1, .long (sh_W (sh_kf f0 f1 f2 0) f3 sz).2, .int (nI sz)])), (27 + 6, .inl (0, 12, .inl _)), (27 + 7, .inl (0, 12, .inl _))])) (sh_ml3 (by rfl)) ?_
        refine ev_iinc (v := nI (0 + 1)) dX8_partedBy_93 rfl (nI_1 0) (Nat.le_of_ble_eq_true rfl) rfl ?_
        refine ev_goto (tgt := 20) dX8_partedBy_96 (by decide) ?_
        exact ev_loc (L2 := [some (.ref 27), some (.int (sh_best (fun k => sh_W (sh_kf f0 f1 f2 k) f3 sz) (0 + 1)).1), some (.long (sh_best (fun k => sh_W (sh_kf f0 f1 f2 k) f3 sz) (0 + 1)).2.1), none, some (.long (sh_best (fun k => sh_W (sh_kf f0 f1 f2 k) f3 sz) (0 + 1)).2.2), none, some (.int (nI (0 + 1)))]) (by rw [sh_best_1 (W := (fun k => sh_W (sh_kf f0 f1 f2 k) f3 sz)) (k := 0) ((lg_cmp_gt _ _).mp h73)]; rfl) (ih (0 + 1) _ _ _ _ (by omega))
      · skip
        refine ev_goto (tgt := 93) dX8_partedBy_76 (by decide) ?_
        -- leaf 2
        refine ev_mem (M2 := (ev_ml M [(27, .inr (8, [.ref (27 + 1), .ref (27 + 2), .ref (27 + 3), .ref (27 + 4), .ref (27 + 5), .ref (27 + 6), .ref (27 + 7), .long (sh_W (sh_kf f0 f1 f2 0) f3 sz).1, .long (sh_W (sh_kf f0 f1 f2 0) f3 sz).2, .int (nI sz)])), (27 + 6, .inl (0, 12, .inl _)), (27 + 7, .inl (0, 12, .inl _))])) (sh_ml3 (by rfl)) ?_
        refine ev_iinc (v := nI (0 + 1)) dX8_partedBy_93 rfl (nI_1 0) (Nat.le_of_ble_eq_true rfl) rfl ?_
        refine ev_goto (tgt := 20) dX8_partedBy_96 (by decide) ?_
        exact ev_loc (L2 := [some (.ref 27), some (.int (sh_best (fun k => sh_W (sh_kf f0 f1 f2 k) f3 sz) (0 + 1)).1), some (.long (sh_best (fun k => sh_W (sh_kf f0 f1 f2 k) f3 sz) (0 + 1)).2.1), none, some (.long (sh_best (fun k => sh_W (sh_kf f0 f1 f2 k) f3 sz) (0 + 1)).2.2), none, some (.int (nI (0 + 1)))]) (by rw [sh_best_0 (W := (fun k => sh_W (sh_kf f0 f1 f2 k) f3 sz)) (k := 0) (fun q => Int32.not_lt.mpr h73 ((lg_cmp_gt _ _).mpr q))]; rfl) (ih (0 + 1) _ _ _ _ (by omega))
theorem sh_nz {k : Nat} (h : 0 < k) (hk : k ≤ 60) (e : nI k = 0) : False := by
  have := sh_nI_inj (i := k) (j := 0) (by omega) (by decide) (e.trans nI_0.symm)
  omega
theorem c8_partedBy_1 {G : ev_G} {n : Nat} {M : ev_M} {up dn : Int64} {f0 f1 f2 f3 f4 f5 f6 : Nat → Int32} {sz : Nat} (hz : M (27) = .inr (8, [.ref (27 + 1), .ref (27 + 2), .ref (27 + 3), .ref (27 + 4), .ref (27 + 5), .ref (27 + 6), .ref (27 + 7), .long up, .long dn, .int (nI sz)])) (z0 : M (27 + 1) = .inl (0, 60, .inl f0)) (z1 : M (27 + 2) = .inl (0, 60, .inl f1)) (z2 : M (27 + 3) = .inl (0, 60, .inl f2)) (z3 : M (27 + 4) = .inl (0, 60, .inl f3)) (z4 : M (27 + 5) = .inl (0, 60, .inl f4)) (z5 : M (27 + 6) = .inl (0, 12, .inl f5)) (z6 : M (27 + 7) = .inl (0, 12, .inl f6)) (hsz : sz ≤ 60) (hsz0 : 0 < sz)  : ev_Cal G mX8_partedBy 4 0 0 [.ref 27] n M (fun r M' => r = some (.int (sh_best (fun k => sh_W (sh_kf f0 f1 f2 k) f3 sz) (3)).1) ∧ ∃ (u v : Int64) (g5 g6 : Nat → Int32), M' = (ev_ml M [(27, .inr (8, [.ref (27 + 1), .ref (27 + 2), .ref (27 + 3), .ref (27 + 4), .ref (27 + 5), .ref (27 + 6), .ref (27 + 7), .long u, .long v, .int (nI sz)])), (27 + 6, .inl (0, 12, .inl g5)), (27 + 7, .inl (0, 12, .inl g6))])) := by
  refine ev_Cal_of (L := [some (.ref 27), none, none, none, none, none, none]) (by decide +kernel) (Nat.le_of_ble_eq_true rfl) rfl ?_
  refine ev_aload_n (i := 0) dX8_partedBy_0 rfl rfl ?_
  refine ev_getf dX8_partedBy_1 flX8_33 (by first | assumption | rfl) (by rfl) ?_
  refine ev_if_ne (tgt := 10) dX8_partedBy_4 (by decide) (fun h4 => ?_) (fun h4 => False.elim (sh_nz hsz0 hsz h4))
  refine ev_iconst (v := 0) dX8_partedBy_10 cni_0 ?_
  refine ev_istore_n (i := 1) dX8_partedBy_11 rfl (Nat.le_of_ble_eq_true rfl) rfl ?_
  refine ev_lconst (v := 0) dX8_partedBy_12 rfl ?_
  refine ev_lstore_n (i := 2) dX8_partedBy_13 rfl (Nat.le_of_ble_eq_true rfl) rfl ?_
  refine ev_lconst (v := 1) dX8_partedBy_14 rfl ?_
  refine ev_lstore dX8_partedBy_15 (Nat.le_of_ble_eq_true rfl) rfl ?_
  refine ev_iconst (v := 0) dX8_partedBy_17 cni_0 ?_
  refine ev_istore dX8_partedBy_18 (Nat.le_of_ble_eq_true rfl) rfl ?_
  refine ev_mem ?_ (l8_partedBy hz z0 z1 z2 z3 z4 z5 z6 hsz hsz0 3 0 up dn f5 f6 (Nat.zero_add _))
  exact (ev_ml_self _ (ev_fa1 hz (ev_fa1 z5 (ev_fa1 z6 ev_fa0)))).symm
theorem c8_partedBy_0 {G : ev_G} {n : Nat} {M : ev_M} {up dn : Int64} (hz : M 27 = .inr (8, [.ref (27 + 1), .ref (27 + 2), .ref (27 + 3), .ref (27 + 4), .ref (27 + 5), .ref (27 + 6), .ref (27 + 7), .long up, .long dn, .int (0)])) : ev_Cal G mX8_partedBy 4 0 0 [.ref 27] n M (ev_is (some (.int (-9))) M) := by
  refine ev_Cal_of (L := [some (.ref 27), none, none, none, none, none, none]) (by decide +kernel) (Nat.le_of_ble_eq_true rfl) rfl ?_
  refine ev_aload_n (i := 0) dX8_partedBy_0 rfl rfl ?_
  refine ev_getf dX8_partedBy_1 flX8_33 (by first | assumption | rfl) (by rfl) ?_
  refine ev_if_ne (tgt := 10) dX8_partedBy_4 (by decide) (fun h4 => False.elim (absurd rfl h4)) (fun h4 => ?_)
  refine ev_bipush (v := (-9)) dX8_partedBy_7 cnb_m9 ?_
  exact ev_reti dX8_partedBy_9 rfl rfl (⟨by first | rfl | simp [*], rfl⟩)
