/-! ===== contracts: the class: out, parted, images ===== -/
theorem l8_mayLeave {G : ev_G} {n : Nat} {M : ev_M} {up dn : Int64} {f0 f1 f2 f3 f4 f5 f6 : Nat → Int32} {sz : Nat} (hz : M (27) = .inr (8, [.ref (27 + 1), .ref (27 + 2), .ref (27 + 3), .ref (27 + 4), .ref (27 + 5), .ref (27 + 6), .ref (27 + 7), .long up, .long dn, .int (nI sz)])) (z0 : M (27 + 1) = .inl (0, 60, .inl f0)) (z1 : M (27 + 2) = .inl (0, 60, .inl f1)) (z2 : M (27 + 3) = .inl (0, 60, .inl f2)) (z3 : M (27 + 4) = .inl (0, 60, .inl f3)) (z4 : M (27 + 5) = .inl (0, 60, .inl f4)) (z5 : M (27 + 6) = .inl (0, 12, .inl f5)) (z6 : M (27 + 7) = .inl (0, 12, .inl f6)) (hsz : sz ≤ 60) {i t : Int32} : ∀ (m k : Nat), k + m = sz → ev_E G mX8_mayLeave 1 0 0 n M 14 [some (.ref 27), some (.int i), some (.int t), some (.long (sh_lv f0 f3 i (k)).1), none, some (.long (sh_lv f0 f3 i (k)).2.1), none, some (.long (sh_lv f0 f3 i (k)).2.2.1), none, some (.long (sh_lv f0 f3 i (k)).2.2.2), none, some (.int (nI (k)))] [] (ev_is (some (.int (sh_may (sh_lv f0 f3 i (sz)) t))) M) := by
  intro m
  induction m with
  | zero =>
    intro k hk
    refine ev_iload dX8_mayLeave_14 rfl ?_
    refine ev_aload_n (i := 0) dX8_mayLeave_16 rfl rfl ?_
    refine ev_getf dX8_mayLeave_17 flX8_33 (by first | assumption | rfl) (by rfl) ?_
    refine ev_icmp_ge (tgt := 79) dX8_mayLeave_20 (by decide) (fun h20 => ?_) (fun h20 => False.elim (nI_nlt (a := k) (b := sz) (by omega) (by omega) h20))
    obtain rfl : k = sz := by omega
    refine ev_lload dX8_mayLeave_79 rfl ?_
    refine ev_lconst (v := 0) dX8_mayLeave_81 rfl ?_
    refine ev_lcmp dX8_mayLeave_82 ?_
    refine ev_if_eq (tgt := 93) dX8_mayLeave_83 (by decide) (fun h83 => ?_) (fun h83 => ?_)
    · skip
      refine ev_bipush (v := (-2)) dX8_mayLeave_93 cnb_m2 ?_
      exact ev_reti dX8_mayLeave_95 rfl rfl (by first | exact ⟨by rw [sh_may_z (A := sh_lv f0 f3 i k) (t := t) (Or.inr ((lg_cmp_eq _ _).mp h90))], rfl⟩ | exact ⟨by rw [sh_may_z (A := sh_lv f0 f3 i k) (t := t) (Or.inl ((lg_cmp_eq _ _).mp h83))], rfl⟩)
    · skip
      refine ev_lload dX8_mayLeave_86 rfl ?_
      refine ev_lconst (v := 0) dX8_mayLeave_88 rfl ?_
      refine ev_lcmp dX8_mayLeave_89 ?_
      refine ev_if_ne (tgt := 96) dX8_mayLeave_90 (by decide) (fun h90 => ?_) (fun h90 => ?_)
      · skip
        refine ev_lload_n (i := 3) dX8_mayLeave_96 rfl rfl ?_
        refine ev_lload dX8_mayLeave_97 rfl ?_
        refine ev_lmul dX8_mayLeave_99 ?_
        refine ev_lload dX8_mayLeave_100 rfl ?_
        refine ev_lload dX8_mayLeave_102 rfl ?_
        refine ev_lmul dX8_mayLeave_104 ?_
        refine ev_lsub dX8_mayLeave_105 ?_
        refine ev_absl dX8_mayLeave_106 maX8_69 (by decide) (Nat.le_of_ble_eq_true rfl) ?_
        refine ev_iload_n (i := 2) dX8_mayLeave_109 rfl rfl ?_
        refine ev_i2l dX8_mayLeave_110 ?_
        refine ev_lload dX8_mayLeave_111 rfl ?_
        refine ev_lmul dX8_mayLeave_113 ?_
        refine ev_lload dX8_mayLeave_114 rfl ?_
        refine ev_lmul dX8_mayLeave_116 ?_
        refine ev_lcmp dX8_mayLeave_117 ?_
        refine ev_if_le (tgt := 125) dX8_mayLeave_118 (by decide) (fun h118 => ?_) (fun h118 => ?_)
        · skip
          have hng : ¬ (t.toInt64 * (sh_lv f0 f3 i k).2.1 * (sh_lv f0 f3 i k).2.2.2 < sh_labs ((sh_lv f0 f3 i k).1 * (sh_lv f0 f3 i k).2.2.2 - (sh_lv f0 f3 i k).2.2.1 * (sh_lv f0 f3 i k).2.1) ∧ 3 ≤ (sh_lv f0 f3 i k).2.1) := fun q => Int32.not_lt.mpr h118 ((lg_cmp_gt _ _).mpr q.1)
          refine ev_iconst (v := 0) dX8_mayLeave_125 cni_0 ?_
          refine ev_istore dX8_mayLeave_126 (Nat.le_of_ble_eq_true rfl) rfl ?_
          refine ev_iload dX8_mayLeave_128 rfl ?_
          refine ev_if_eq (tgt := 146) dX8_mayLeave_130 (by decide) (fun h130 => ?_) (fun h130 => ?_)
          · skip
            refine ev_iconst (v := 0) dX8_mayLeave_146 cni_0 ?_
            exact ev_reti dX8_mayLeave_147 rfl rfl (by first | exact absurd h130 (by decide) | exact absurd rfl h130 | exact ⟨by rw [sh_may_1 (A := sh_lv f0 f3 i k) (t := t) (fun q => h83 ((lg_cmp_eq _ _).mpr q)) (fun q => h90 ((lg_cmp_eq _ _).mpr q)) hgt hge], rfl⟩ | exact ⟨by rw [sh_may_0 (A := sh_lv f0 f3 i k) (t := t) (fun q => h83 ((lg_cmp_eq _ _).mpr q)) (fun q => h90 ((lg_cmp_eq _ _).mpr q)) hng], rfl⟩ | exact ⟨by rw [sh_may_0 (A := sh_lv f0 f3 i k) (t := t) (fun q => h83 ((lg_cmp_eq _ _).mpr q)) (fun q => h90 ((lg_cmp_eq _ _).mpr q)) (fun q => Int64.not_lt.mpr q.2 ((lg_cmp_lt _ _).mp h139))], rfl⟩)
          · skip
            refine ev_lload dX8_mayLeave_133 rfl ?_
            refine ev_ldc2 dX8_mayLeave_135 coX8_73 ?_
            refine ev_lcmp dX8_mayLeave_138 ?_
            refine ev_if_lt (tgt := 146) dX8_mayLeave_139 (by decide) (fun h139 => ?_) (fun h139 => ?_)
            · skip
              refine ev_iconst (v := 0) dX8_mayLeave_146 cni_0 ?_
              exact ev_reti dX8_mayLeave_147 rfl rfl (by first | exact absurd h130 (by decide) | exact absurd rfl h130 | exact ⟨by rw [sh_may_1 (A := sh_lv f0 f3 i k) (t := t) (fun q => h83 ((lg_cmp_eq _ _).mpr q)) (fun q => h90 ((lg_cmp_eq _ _).mpr q)) hgt hge], rfl⟩ | exact ⟨by rw [sh_may_0 (A := sh_lv f0 f3 i k) (t := t) (fun q => h83 ((lg_cmp_eq _ _).mpr q)) (fun q => h90 ((lg_cmp_eq _ _).mpr q)) hng], rfl⟩ | exact ⟨by rw [sh_may_0 (A := sh_lv f0 f3 i k) (t := t) (fun q => h83 ((lg_cmp_eq _ _).mpr q)) (fun q => h90 ((lg_cmp_eq _ _).mpr q)) (fun q => Int64.not_lt.mpr q.2 ((lg_cmp_lt _ _).mp h139))], rfl⟩)
            · skip
              have hge := (lg_cmp_ge _ _).mp h139
              refine ev_iconst (v := 1) dX8_mayLeave_142 cni_1 ?_
              refine ev_goto (tgt := 147) dX8_mayLeave_143 (by decide) ?_
              exact ev_reti dX8_mayLeave_147 rfl rfl (by first | exact absurd h130 (by decide) | exact absurd rfl h130 | exact ⟨by rw [sh_may_1 (A := sh_lv f0 f3 i k) (t := t) (fun q => h83 ((lg_cmp_eq _ _).mpr q)) (fun q => h90 ((lg_cmp_eq _ _).mpr q)) hgt hge], rfl⟩ | exact ⟨by rw [sh_may_0 (A := sh_lv f0 f3 i k) (t := t) (fun q => h83 ((lg_cmp_eq _ _).mpr q)) (fun q => h90 ((lg_cmp_eq _ _).mpr q)) hng], rfl⟩ | exact ⟨by rw [sh_may_0 (A := sh_lv f0 f3 i k) (t := t) (fun q => h83 ((lg_cmp_eq _ _).mpr q)) (fun q => h90 ((lg_cmp_eq _ _).mpr q)) (fun q => Int64.not_lt.mpr q.2 ((lg_cmp_lt _ _).mp h139))], rfl⟩)
        · skip
          have hgt := (lg_cmp_gt _ _).mp h118
          refine ev_iconst (v := 1) dX8_mayLeave_121 cni_1 ?_
          refine ev_goto (tgt := 126) dX8_mayLeave_122 (by decide) ?_
          refine ev_istore dX8_mayLeave_126 (Nat.le_of_ble_eq_true rfl) rfl ?_
          refine ev_iload dX8_mayLeave_128 rfl ?_
          refine ev_if_eq (tgt := 146) dX8_mayLeave_130 (by decide) (fun h130 => ?_) (fun h130 => ?_)
          · skip
            refine ev_iconst (v := 0) dX8_mayLeave_146 cni_0 ?_
            exact ev_reti dX8_mayLeave_147 rfl rfl (by first | exact absurd h130 (by decide) | exact absurd rfl h130 | exact ⟨by rw [sh_may_1 (A := sh_lv f0 f3 i k) (t := t) (fun q => h83 ((lg_cmp_eq _ _).mpr q)) (fun q => h90 ((lg_cmp_eq _ _).mpr q)) hgt hge], rfl⟩ | exact ⟨by rw [sh_may_0 (A := sh_lv f0 f3 i k) (t := t) (fun q => h83 ((lg_cmp_eq _ _).mpr q)) (fun q => h90 ((lg_cmp_eq _ _).mpr q)) hng], rfl⟩ | exact ⟨by rw [sh_may_0 (A := sh_lv f0 f3 i k) (t := t) (fun q => h83 ((lg_cmp_eq _ _).mpr q)) (fun q => h90 ((lg_cmp_eq _ _).mpr q)) (fun q => Int64.not_lt.mpr q.2 ((lg_cmp_lt _ _).mp h139))], rfl⟩)
          · skip
            refine ev_lload dX8_mayLeave_133 rfl ?_
            refine ev_ldc2 dX8_mayLeave_135 coX8_73 ?_
            refine ev_lcmp dX8_mayLeave_138 ?_
            refine ev_if_lt (tgt := 146) dX8_mayLeave_139 (by decide) (fun h139 => ?_) (fun h139 => ?_)
            · skip
              refine ev_iconst (v := 0) dX8_mayLeave_146 cni_0 ?_
              exact ev_reti dX8_mayLeave_147 rfl rfl (by first | exact absurd h130 (by decide) | exact absurd rfl h130 | exact ⟨by rw [sh_may_1 (A := sh_lv f0 f3 i k) (t := t) (fun q => h83 ((lg_cmp_eq _ _).mpr q)) (fun q => h90 ((lg_cmp_eq _ _).mpr q)) hgt hge], rfl⟩ | exact ⟨by rw [sh_may_0 (A := sh_lv f0 f3 i k) (t := t) (fun q => h83 ((lg_cmp_eq _ _).mpr q)) (fun q => h90 ((lg_cmp_eq _ _).mpr q)) hng], rfl⟩ | exact ⟨by rw [sh_may_0 (A := sh_lv f0 f3 i k) (t := t) (fun q => h83 ((lg_cmp_eq _ _).mpr q)) (fun q => h90 ((lg_cmp_eq _ _).mpr q)) (fun q => Int64.not_lt.mpr q.2 ((lg_cmp_lt _ _).mp h139))], rfl⟩)
            · skip
              have hge := (lg_cmp_ge _ _).mp h139
              refine ev_iconst (v := 1) dX8_mayLeave_142 cni_1 ?_
              refine ev_goto (tgt := 147) dX8_mayLeave_143 (by decide) ?_
              exact ev_reti dX8_mayLeave_147 rfl rfl (by first | exact absurd h130 (by decide) | exact absurd rfl h130 | exact ⟨by rw [sh_may_1 (A := sh_lv f0 f3 i k) (t := t) (fun q => h83 ((lg_cmp_eq _ _).mpr q)) (fun q => h90 ((lg_cmp_eq _ _).mpr q)) hgt hge], rfl⟩ | exact ⟨by rw [sh_may_0 (A := sh_lv f0 f3 i k) (t := t) (fun q => h83 ((lg_cmp_eq _ _).mpr q)) (fun q => h90 ((lg_cmp_eq _ _).mpr q)) hng], rfl⟩ | exact ⟨by rw [sh_may_0 (A := sh_lv f0 f3 i k) (t := t) (fun q => h83 ((lg_cmp_eq _ _).mpr q)) (fun q => h90 ((lg_cmp_eq _ _).mpr q)) (fun q => Int64.not_lt.mpr q.2 ((lg_cmp_lt _ _).mp h139))], rfl⟩)
      · skip
        refine ev_bipush (v := (-2)) dX8_mayLeave_93 cnb_m2 ?_
        exact ev_reti dX8_mayLeave_95 rfl rfl (by first | exact ⟨by rw [sh_may_z (A := sh_lv f0 f3 i k) (t := t) (Or.inr ((lg_cmp_eq _ _).mp h90))], rfl⟩ | exact ⟨by rw [sh_may_z (A := sh_lv f0 f3 i k) (t := t) (Or.inl ((lg_cmp_eq _ _).mp h83))], rfl⟩)
  | succ m ih =>
    intro k hk
    refine ev_iload dX8_mayLeave_14 rfl ?_
    refine ev_aload_n (i := 0) dX8_mayLeave_16 rfl rfl ?_
    refine ev_getf dX8_mayLeave_17 flX8_33 (by first | assumption | rfl) (by rfl) ?_
    refine ev_icmp_ge (tgt := 79) dX8_mayLeave_20 (by decide) (fun h20 => False.elim (nI_ge (a := k) (b := sz) (by omega) (by omega) h20)) (fun h20 => ?_)
    refine ev_aload_n (i := 0) dX8_mayLeave_23 rfl rfl ?_
    refine ev_getf dX8_mayLeave_24 flX8_9 (by first | assumption | rfl) (by rfl) ?_
    refine ev_iload dX8_mayLeave_27 rfl ?_
    refine ev_iald (j := k) dX8_mayLeave_29 (by first | assumption | rfl) (ev_ix_nI (by omega)) (by omega) ?_
    refine ev_iload_n (i := 1) dX8_mayLeave_30 rfl rfl ?_
    refine ev_icmp_ne (tgt := 54) dX8_mayLeave_31 (by decide) (fun h31 => ?_) (fun h31 => ?_)
    · skip
      refine ev_lload dX8_mayLeave_54 rfl ?_
      refine ev_aload_n (i := 0) dX8_mayLeave_56 rfl rfl ?_
      refine ev_getf dX8_mayLeave_57 flX8_21 (by first | assumption | rfl) (by rfl) ?_
      refine ev_iload dX8_mayLeave_60 rfl ?_
      refine ev_iald (j := k) dX8_mayLeave_62 (by first | assumption | rfl) (ev_ix_nI (by omega)) (by omega) ?_
      refine ev_i2l dX8_mayLeave_63 ?_
      refine ev_ladd dX8_mayLeave_64 ?_
      refine ev_lstore dX8_mayLeave_65 (Nat.le_of_ble_eq_true rfl) rfl ?_
      refine ev_lload dX8_mayLeave_67 rfl ?_
      refine ev_lconst (v := 1) dX8_mayLeave_69 rfl ?_
      refine ev_ladd dX8_mayLeave_70 ?_
      refine ev_lstore dX8_mayLeave_71 (Nat.le_of_ble_eq_true rfl) rfl ?_
      refine ev_iinc (v := nI (k + 1)) dX8_mayLeave_73 rfl (nI_1 k) (Nat.le_of_ble_eq_true rfl) rfl ?_
      refine ev_goto (tgt := 14) dX8_mayLeave_76 (by decide) ?_
      exact ev_loc (L2 := [some (.ref 27), some (.int i), some (.int t), some (.long (sh_lv f0 f3 i (k + 1)).1), none, some (.long (sh_lv f0 f3 i (k + 1)).2.1), none, some (.long (sh_lv f0 f3 i (k + 1)).2.2.1), none, some (.long (sh_lv f0 f3 i (k + 1)).2.2.2), none, some (.int (nI (k + 1)))]) (by first | (rw [sh_lv_1 (kf := f0) (xs := f3) (i := i) (k := k) h31]; rfl) | (rw [sh_lv_0 (kf := f0) (xs := f3) (i := i) (k := k) h31]; rfl)) (ih (k + 1) (by omega))
    · skip
      refine ev_lload_n (i := 3) dX8_mayLeave_34 rfl rfl ?_
      refine ev_aload_n (i := 0) dX8_mayLeave_35 rfl rfl ?_
      refine ev_getf dX8_mayLeave_36 flX8_21 (by first | assumption | rfl) (by rfl) ?_
      refine ev_iload dX8_mayLeave_39 rfl ?_
      refine ev_iald (j := k) dX8_mayLeave_41 (by first | assumption | rfl) (ev_ix_nI (by omega)) (by omega) ?_
      refine ev_i2l dX8_mayLeave_42 ?_
      refine ev_ladd dX8_mayLeave_43 ?_
      refine ev_lstore_n (i := 3) dX8_mayLeave_44 rfl (Nat.le_of_ble_eq_true rfl) rfl ?_
      refine ev_lload dX8_mayLeave_45 rfl ?_
      refine ev_lconst (v := 1) dX8_mayLeave_47 rfl ?_
      refine ev_ladd dX8_mayLeave_48 ?_
      refine ev_lstore dX8_mayLeave_49 (Nat.le_of_ble_eq_true rfl) rfl ?_
      refine ev_goto (tgt := 73) dX8_mayLeave_51 (by decide) ?_
      refine ev_iinc (v := nI (k + 1)) dX8_mayLeave_73 rfl (nI_1 k) (Nat.le_of_ble_eq_true rfl) rfl ?_
      refine ev_goto (tgt := 14) dX8_mayLeave_76 (by decide) ?_
      exact ev_loc (L2 := [some (.ref 27), some (.int i), some (.int t), some (.long (sh_lv f0 f3 i (k + 1)).1), none, some (.long (sh_lv f0 f3 i (k + 1)).2.1), none, some (.long (sh_lv f0 f3 i (k + 1)).2.2.1), none, some (.long (sh_lv f0 f3 i (k + 1)).2.2.2), none, some (.int (nI (k + 1)))]) (by first | (rw [sh_lv_1 (kf := f0) (xs := f3) (i := i) (k := k) h31]; rfl) | (rw [sh_lv_0 (kf := f0) (xs := f3) (i := i) (k := k) h31]; rfl)) (ih (k + 1) (by omega))
theorem c8_mayLeave {G : ev_G} {n : Nat} {M : ev_M} {up dn : Int64} {f0 f1 f2 f3 f4 f5 f6 : Nat → Int32} {sz : Nat} (hz : M (27) = .inr (8, [.ref (27 + 1), .ref (27 + 2), .ref (27 + 3), .ref (27 + 4), .ref (27 + 5), .ref (27 + 6), .ref (27 + 7), .long up, .long dn, .int (nI sz)])) (z0 : M (27 + 1) = .inl (0, 60, .inl f0)) (z1 : M (27 + 2) = .inl (0, 60, .inl f1)) (z2 : M (27 + 3) = .inl (0, 60, .inl f2)) (z3 : M (27 + 4) = .inl (0, 60, .inl f3)) (z4 : M (27 + 5) = .inl (0, 60, .inl f4)) (z5 : M (27 + 6) = .inl (0, 12, .inl f5)) (z6 : M (27 + 7) = .inl (0, 12, .inl f6)) (hsz : sz ≤ 60) {i t : Int32} : ev_Cal G mX8_mayLeave 1 0 0 [.ref 27, .int i, .int t] n M (ev_is (some (.int (sh_may (sh_lv f0 f3 i (sz)) t))) M) := by
  refine ev_Cal_of (L := [some (.ref 27), some (.int i), some (.int t), none, none, none, none, none, none, none, none, none]) (by decide +kernel) (Nat.le_of_ble_eq_true rfl) rfl ?_
  refine ev_lconst (v := 0) dX8_mayLeave_0 rfl ?_
  refine ev_lstore_n (i := 3) dX8_mayLeave_1 rfl (Nat.le_of_ble_eq_true rfl) rfl ?_
  refine ev_lconst (v := 0) dX8_mayLeave_2 rfl ?_
  refine ev_lstore dX8_mayLeave_3 (Nat.le_of_ble_eq_true rfl) rfl ?_
  refine ev_lconst (v := 0) dX8_mayLeave_5 rfl ?_
  refine ev_lstore dX8_mayLeave_6 (Nat.le_of_ble_eq_true rfl) rfl ?_
  refine ev_lconst (v := 0) dX8_mayLeave_8 rfl ?_
  refine ev_lstore dX8_mayLeave_9 (Nat.le_of_ble_eq_true rfl) rfl ?_
  refine ev_iconst (v := 0) dX8_mayLeave_11 cni_0 ?_
  refine ev_istore dX8_mayLeave_12 (Nat.le_of_ble_eq_true rfl) rfl ?_
  exact l8_mayLeave hz z0 z1 z2 z3 z4 z5 z6 hsz sz 0 (Nat.zero_add _)
theorem c12_out_ok {G : ev_G} {n : Nat} {M : ev_M} {g g' c0 c1 c2 : Nat} {lot : Int32} (h20 : M 21 = .inr (11, [.ref 22, .ref 25, .ref 27, .ref 35, .ref 39, .ref 40, .ref 41, .ref 63, .ref g, .ref g', .int lot])) (hG : M g = .inr (3, [.ref (g + 1), .ref (g + 2), .ref (g + 3), .int (nI c0), .int (nI c1), .int (nI c2)])) {fa : Nat → Option Nat} (hA : M (g + 1) = .inl (2, 12, ev_q fa)) (hfa : ∀ i, i < 12 → fa i = some (g + 4 + i)) {j : Nat} (hj : j < c0) (hc : c0 ≤ 12) {up dn : Int64} {f0 f1 f2 f3 f4 f5 f6 : Nat → Int32} {sz : Nat} (hz : M (27) = .inr (8, [.ref (27 + 1), .ref (27 + 2), .ref (27 + 3), .ref (27 + 4), .ref (27 + 5), .ref (27 + 6), .ref (27 + 7), .long up, .long dn, .int (nI sz)])) (z0 : M (27 + 1) = .inl (0, 60, .inl f0)) (z1 : M (27 + 2) = .inl (0, 60, .inl f1)) (z2 : M (27 + 3) = .inl (0, 60, .inl f2)) (z3 : M (27 + 4) = .inl (0, 60, .inl f3)) (z4 : M (27 + 5) = .inl (0, 60, .inl f4)) (z5 : M (27 + 6) = .inl (0, 12, .inl f5)) (z6 : M (27 + 7) = .inl (0, 12, .inl f6)) (hsz : sz ≤ 60) {t : Int32} (ht : sp_in t 0 99 = true) : ev_Cal G mX11_out 2 0 0 [.ref 21, .int (nI j), .int t] n M (ev_is (some (.int (sh_may (sh_lv f0 f3 (nI j) sz) t))) M) := by
  refine ev_Cal_of (L := [some (.ref 21), some (.int (nI j)), some (.int t)]) (by decide +kernel) (Nat.le_of_ble_eq_true rfl) rfl ?_
  refine ev_aload_n (i := 0) dX11_out_0 rfl rfl ?_
  refine ev_getf dX11_out_1 flX11_64 (by first | assumption | rfl) (by rfl) ?_
  refine ev_iload_n (i := 1) dX11_out_4 rfl rfl ?_
  refine ev_c2 kX11_out_5 (c3_stickAt_in hG hA hfa hj hc) (ev_rv_of (by first | assumption | rfl) rfl rfl) (by decide) (by decide) (Nat.le_of_ble_eq_true rfl) ?_
  refine ev_ifnull dX11_out_8 ?_
  refine ev_iload_n (i := 2) dX11_out_11 rfl rfl ?_
  refine ev_iconst (v := 0) dX11_out_12 cni_0 ?_
  refine ev_bipush (v := 99) dX11_out_13 cnb_99 ?_
  refine ev_c3 kX11_out_15 (c12_within) trivial (by decide) (by decide) (Nat.le_of_ble_eq_true rfl) ?_
  refine ev_if_neb (tgt := 23) dX11_out_18 (by decide) (fun h18 => ?_) (fun h18 => False.elim (Bool.false_ne_true (h18.symm.trans (ht))))
  refine ev_aload_n (i := 0) dX11_out_23 rfl rfl ?_
  refine ev_getf dX11_out_24 flX11_26 (by first | assumption | rfl) (by rfl) ?_
  refine ev_iload_n (i := 1) dX11_out_27 rfl rfl ?_
  refine ev_iload_n (i := 2) dX11_out_28 rfl rfl ?_
  refine ev_c3 kX11_out_29 (c8_mayLeave hz z0 z1 z2 z3 z4 z5 z6 hsz) (ev_rv_of (by first | assumption | rfl) rfl rfl) (by decide) (by decide) (Nat.le_of_ble_eq_true rfl) ?_
  exact ev_reti dX11_out_32 rfl rfl (⟨by first | rfl | simp [*], rfl⟩)
theorem c12_out_t {G : ev_G} {n : Nat} {M : ev_M} {g g' c0 c1 c2 : Nat} {lot : Int32} (h20 : M 21 = .inr (11, [.ref 22, .ref 25, .ref 27, .ref 35, .ref 39, .ref 40, .ref 41, .ref 63, .ref g, .ref g', .int lot])) (hG : M g = .inr (3, [.ref (g + 1), .ref (g + 2), .ref (g + 3), .int (nI c0), .int (nI c1), .int (nI c2)])) {fa : Nat → Option Nat} (hA : M (g + 1) = .inl (2, 12, ev_q fa)) (hfa : ∀ i, i < 12 → fa i = some (g + 4 + i)) {j : Nat} (hj : j < c0) (hc : c0 ≤ 12) {t : Int32} (ht : sp_in t 0 99 = false) : ev_Cal G mX11_out 2 0 0 [.ref 21, .int (nI j), .int t] n M (ev_is (some (.int (-1))) M) := by
  refine ev_Cal_of (L := [some (.ref 21), some (.int (nI j)), some (.int t)]) (by decide +kernel) (Nat.le_of_ble_eq_true rfl) rfl ?_
  refine ev_aload_n (i := 0) dX11_out_0 rfl rfl ?_
  refine ev_getf dX11_out_1 flX11_64 (by first | assumption | rfl) (by rfl) ?_
  refine ev_iload_n (i := 1) dX11_out_4 rfl rfl ?_
  refine ev_c2 kX11_out_5 (c3_stickAt_in hG hA hfa hj hc) (ev_rv_of (by first | assumption | rfl) rfl rfl) (by decide) (by decide) (Nat.le_of_ble_eq_true rfl) ?_
  refine ev_ifnull dX11_out_8 ?_
  refine ev_iload_n (i := 2) dX11_out_11 rfl rfl ?_
  refine ev_iconst (v := 0) dX11_out_12 cni_0 ?_
  refine ev_bipush (v := 99) dX11_out_13 cnb_99 ?_
  refine ev_c3 kX11_out_15 (c12_within) trivial (by decide) (by decide) (Nat.le_of_ble_eq_true rfl) ?_
  refine ev_if_neb (tgt := 23) dX11_out_18 (by decide) (fun h18 => False.elim (Bool.false_ne_true ((ht).symm.trans h18))) (fun h18 => ?_)
  refine ev_iconst (v := (-1)) dX11_out_21 cni_m1 ?_
  exact ev_reti dX11_out_22 rfl rfl (⟨by first | rfl | simp [*], rfl⟩)
theorem c12_out_i {G : ev_G} {n : Nat} {M : ev_M} {g g' c0 c1 c2 : Nat} {lot : Int32} (h20 : M 21 = .inr (11, [.ref 22, .ref 25, .ref 27, .ref 35, .ref 39, .ref 40, .ref 41, .ref 63, .ref g, .ref g', .int lot])) (hG : M g = .inr (3, [.ref (g + 1), .ref (g + 2), .ref (g + 3), .int (nI c0), .int (nI c1), .int (nI c2)])) {x : Int32} (hx : x < 0 ∨ nI c0 ≤ x) {t : Int32} : ev_Cal G mX11_out 2 0 0 [.ref 21, .int x, .int t] n M (ev_is (some (.int (-1))) M) := by
  refine ev_Cal_of (L := [some (.ref 21), some (.int x), some (.int t)]) (by decide +kernel) (Nat.le_of_ble_eq_true rfl) rfl ?_
  refine ev_aload_n (i := 0) dX11_out_0 rfl rfl ?_
  refine ev_getf dX11_out_1 flX11_64 (by first | assumption | rfl) (by rfl) ?_
  refine ev_iload_n (i := 1) dX11_out_4 rfl rfl ?_
  refine ev_c2 kX11_out_5 (c3_stickAt_out hG hx) (ev_rv_of (by first | assumption | rfl) rfl rfl) (by decide) (by decide) (Nat.le_of_ble_eq_true rfl) ?_
  refine ev_ifnullN (tgt := 21) dX11_out_8 (by decide) ?_
  refine ev_iconst (v := (-1)) dX11_out_21 cni_m1 ?_
  exact ev_reti dX11_out_22 rfl rfl (⟨by first | rfl | simp [*], rfl⟩)
theorem c12_parted_1 {G : ev_G} {n : Nat} {M : ev_M} {g g' : Nat} {lot : Int32} (h20 : M 21 = .inr (11, [.ref 22, .ref 25, .ref 27, .ref 35, .ref 39, .ref 40, .ref 41, .ref 63, .ref g, .ref g', .int lot])) {up dn : Int64} {f0 f1 f2 f3 f4 f5 f6 : Nat → Int32} {sz : Nat} (hz : M (27) = .inr (8, [.ref (27 + 1), .ref (27 + 2), .ref (27 + 3), .ref (27 + 4), .ref (27 + 5), .ref (27 + 6), .ref (27 + 7), .long up, .long dn, .int (nI sz)])) (z0 : M (27 + 1) = .inl (0, 60, .inl f0)) (z1 : M (27 + 2) = .inl (0, 60, .inl f1)) (z2 : M (27 + 3) = .inl (0, 60, .inl f2)) (z3 : M (27 + 4) = .inl (0, 60, .inl f3)) (z4 : M (27 + 5) = .inl (0, 60, .inl f4)) (z5 : M (27 + 6) = .inl (0, 12, .inl f5)) (z6 : M (27 + 7) = .inl (0, 12, .inl f6)) (hsz : sz ≤ 60) (hsz0 : 0 < sz) : ev_Cal G mX11_parted 5 0 0 [.ref 21] n M (fun r M' => r = some (.int (sh_best (fun k => sh_W (sh_kf f0 f1 f2 k) f3 sz) 3).1) ∧ ∃ (u v : Int64) (g5 g6 : Nat → Int32), M' = (ev_ml M [(27, .inr (8, [.ref (27 + 1), .ref (27 + 2), .ref (27 + 3), .ref (27 + 4), .ref (27 + 5), .ref (27 + 6), .ref (27 + 7), .long u, .long v, .int (nI sz)])), (27 + 6, .inl (0, 12, .inl g5)), (27 + 7, .inl (0, 12, .inl g6))])) := by
  refine ev_Cal_of (L := [some (.ref 21)]) (by decide +kernel) (Nat.le_of_ble_eq_true rfl) rfl ?_
  refine ev_aload_n (i := 0) dX11_parted_0 rfl rfl ?_
  refine ev_getf dX11_parted_1 flX11_26 (by first | assumption | rfl) (by rfl) ?_
  refine ev_d1 kX11_parted_4 (c8_partedBy_1 hz z0 z1 z2 z3 z4 z5 z6 hsz hsz0) (ev_rv_of (by first | assumption | rfl) rfl rfl) (by decide) (by decide) (Nat.le_of_ble_eq_true rfl) ?_
  intro r M1 hr
  obtain ⟨rfl, u, v, g5, g6, rfl⟩ := hr
  exact ev_reti dX11_parted_7 rfl rfl (⟨rfl, u, v, g5, g6, rfl⟩)
theorem c12_parted_0 {G : ev_G} {n : Nat} {M : ev_M} {g g' : Nat} {lot : Int32} (h20 : M 21 = .inr (11, [.ref 22, .ref 25, .ref 27, .ref 35, .ref 39, .ref 40, .ref 41, .ref 63, .ref g, .ref g', .int lot])) {up dn : Int64} (hz : M 27 = .inr (8, [.ref (27 + 1), .ref (27 + 2), .ref (27 + 3), .ref (27 + 4), .ref (27 + 5), .ref (27 + 6), .ref (27 + 7), .long up, .long dn, .int (0)])) : ev_Cal G mX11_parted 5 0 0 [.ref 21] n M (ev_is (some (.int (-9))) M) := by
  refine ev_Cal_of (L := [some (.ref 21)]) (by decide +kernel) (Nat.le_of_ble_eq_true rfl) rfl ?_
  refine ev_aload_n (i := 0) dX11_parted_0 rfl rfl ?_
  refine ev_getf dX11_parted_1 flX11_26 (by first | assumption | rfl) (by rfl) ?_
  refine ev_c1 kX11_parted_4 (c8_partedBy_0 hz) (ev_rv_of (by first | assumption | rfl) rfl rfl) (by decide) (by decide) (Nat.le_of_ble_eq_true rfl) ?_
  exact ev_reti dX11_parted_7 rfl rfl (⟨by first | rfl | simp [*], rfl⟩)
theorem cp_out_43_27 {M : ev_M} {a : Nat} {x0 x1 x2 x3 x4 x5 : ev_MC} (h : a < 43 ∨ 48 < a) : ev_ml M [(43, x0), (43 + 1, x1), (43 + 2, x2), (43 + 3, x3), (43 + 4, x4), (43 + 5, x5)] a = M a := ev_ml_out _ (by simp only [List.map_cons, List.map_nil, List.mem_cons, List.not_mem_nil, or_false, not_or]; omega)
theorem l8_copy_43_27 {G : ev_G} {n : Nat} {M : ev_M} {up dn : Int64} {f0 f1 f2 f3 f4 f5 f6 : Nat → Int32} {sz : Nat} (hz : M (27) = .inr (8, [.ref (27 + 1), .ref (27 + 2), .ref (27 + 3), .ref (27 + 4), .ref (27 + 5), .ref (27 + 6), .ref (27 + 7), .long up, .long dn, .int (nI sz)])) (z0 : M (27 + 1) = .inl (0, 60, .inl f0)) (z1 : M (27 + 2) = .inl (0, 60, .inl f1)) (z2 : M (27 + 3) = .inl (0, 60, .inl f2)) (z3 : M (27 + 4) = .inl (0, 60, .inl f3)) (z4 : M (27 + 5) = .inl (0, 60, .inl f4)) (z5 : M (27 + 6) = .inl (0, 12, .inl f5)) (z6 : M (27 + 7) = .inl (0, 12, .inl f6)) {up2 dn2 : Int64} {x : Int32} {g0 g1 g2 g3 g4 : Nat → Int32} (hy : M 43 = .inr (8, [.ref (43 + 1), .ref (43 + 2), .ref (43 + 3), .ref (43 + 4), .ref (43 + 5), .ref (43 + 6), .ref (43 + 7), .long up2, .long dn2, .int (x)])) (y0 : M (43 + 1) = .inl (0, 60, .inl g0)) (y1 : M (43 + 2) = .inl (0, 60, .inl g1)) (y2 : M (43 + 3) = .inl (0, 60, .inl g2)) (y3 : M (43 + 4) = .inl (0, 60, .inl g3)) (y4 : M (43 + 5) = .inl (0, 60, .inl g4)) (hsz : sz ≤ 60) : ∀ (m k : Nat), k + m = sz → ev_E G mX8_copy 1 0 0 n (ev_ml M [(43, .inr (8, [.ref (43 + 1), .ref (43 + 2), .ref (43 + 3), .ref (43 + 4), .ref (43 + 5), .ref (43 + 6), .ref (43 + 7), .long up2, .long dn2, .int (nI sz)])), (43 + 1, .inl (0, 60, .inl (fl_mix (k) f0 g0))), (43 + 2, .inl (0, 60, .inl (fl_mix (k) f1 g1))), (43 + 3, .inl (0, 60, .inl (fl_mix (k) f2 g2))), (43 + 4, .inl (0, 60, .inl (fl_mix (k) f3 g3))), (43 + 5, .inl (0, 60, .inl (fl_mix (k) f4 g4)))]) 10 [some (.ref 43), some (.ref 27), some (.int (nI k))] [] (ev_is none (ev_ml M [(43, .inr (8, [.ref (43 + 1), .ref (43 + 2), .ref (43 + 3), .ref (43 + 4), .ref (43 + 5), .ref (43 + 6), .ref (43 + 7), .long up2, .long dn2, .int (nI sz)])), (43 + 1, .inl (0, 60, .inl (fl_mix (sz) f0 g0))), (43 + 2, .inl (0, 60, .inl (fl_mix (sz) f1 g1))), (43 + 3, .inl (0, 60, .inl (fl_mix (sz) f2 g2))), (43 + 4, .inl (0, 60, .inl (fl_mix (sz) f3 g3))), (43 + 5, .inl (0, 60, .inl (fl_mix (sz) f4 g4)))])) := by
  intro m
  induction m with
  | zero =>
    intro k hk
    refine ev_iload_n (i := 2) dX8_copy_10 rfl rfl ?_
    refine ev_aload_n (i := 0) dX8_copy_11 rfl rfl ?_
    refine ev_getf dX8_copy_12 flX8_33 (by first | rfl | exact (cp_out_43_27 (by decide)).trans hz | exact (cp_out_43_27 (by decide)).trans z0 | exact (cp_out_43_27 (by decide)).trans z1 | exact (cp_out_43_27 (by decide)).trans z2 | exact (cp_out_43_27 (by decide)).trans z3 | exact (cp_out_43_27 (by decide)).trans z4) (by rfl) ?_
    refine ev_icmp_ge (tgt := 84) dX8_copy_15 (by decide) (fun h15 => ?_) (fun h15 => False.elim (nI_nlt (a := k) (b := sz) (by omega) (by omega) h15))
    obtain rfl : k = sz := by omega
    exact ev_retv dX8_copy_84 rfl (⟨rfl, rfl⟩)
  | succ m ih =>
    intro k hk
    refine ev_iload_n (i := 2) dX8_copy_10 rfl rfl ?_
    refine ev_aload_n (i := 0) dX8_copy_11 rfl rfl ?_
    refine ev_getf dX8_copy_12 flX8_33 (by first | rfl | exact (cp_out_43_27 (by decide)).trans hz | exact (cp_out_43_27 (by decide)).trans z0 | exact (cp_out_43_27 (by decide)).trans z1 | exact (cp_out_43_27 (by decide)).trans z2 | exact (cp_out_43_27 (by decide)).trans z3 | exact (cp_out_43_27 (by decide)).trans z4) (by rfl) ?_
    refine ev_icmp_ge (tgt := 84) dX8_copy_15 (by decide) (fun h15 => False.elim (nI_ge (a := k) (b := sz) (by omega) (by omega) h15)) (fun h15 => ?_)
    refine ev_aload_n (i := 0) dX8_copy_18 rfl rfl ?_
    refine ev_getf dX8_copy_19 flX8_9 (by first | rfl | exact (cp_out_43_27 (by decide)).trans hz | exact (cp_out_43_27 (by decide)).trans z0 | exact (cp_out_43_27 (by decide)).trans z1 | exact (cp_out_43_27 (by decide)).trans z2 | exact (cp_out_43_27 (by decide)).trans z3 | exact (cp_out_43_27 (by decide)).trans z4) (by rfl) ?_
    refine ev_iload_n (i := 2) dX8_copy_22 rfl rfl ?_
    refine ev_aload_n (i := 1) dX8_copy_23 rfl rfl ?_
    refine ev_getf dX8_copy_24 flX8_9 (by first | rfl | exact (cp_out_43_27 (by decide)).trans hz | exact (cp_out_43_27 (by decide)).trans z0 | exact (cp_out_43_27 (by decide)).trans z1 | exact (cp_out_43_27 (by decide)).trans z2 | exact (cp_out_43_27 (by decide)).trans z3 | exact (cp_out_43_27 (by decide)).trans z4) (by rfl) ?_
    refine ev_iload_n (i := 2) dX8_copy_27 rfl rfl ?_
    refine ev_iald (j := k) dX8_copy_28 (by first | rfl | exact (cp_out_43_27 (by decide)).trans hz | exact (cp_out_43_27 (by decide)).trans z0 | exact (cp_out_43_27 (by decide)).trans z1 | exact (cp_out_43_27 (by decide)).trans z2 | exact (cp_out_43_27 (by decide)).trans z3 | exact (cp_out_43_27 (by decide)).trans z4) (ev_ix_nI (by omega)) (by omega) ?_
    refine ev_iastP 1 (j := k) dX8_copy_29 (by rfl) (by rfl) (ev_ix_nI (by omega)) (by omega) (by rfl) (by rfl) ?_
    refine ev_aload_n (i := 0) dX8_copy_30 rfl rfl ?_
    refine ev_getf dX8_copy_31 flX8_15 (by first | rfl | exact (cp_out_43_27 (by decide)).trans hz | exact (cp_out_43_27 (by decide)).trans z0 | exact (cp_out_43_27 (by decide)).trans z1 | exact (cp_out_43_27 (by decide)).trans z2 | exact (cp_out_43_27 (by decide)).trans z3 | exact (cp_out_43_27 (by decide)).trans z4) (by rfl) ?_
    refine ev_iload_n (i := 2) dX8_copy_34 rfl rfl ?_
    refine ev_aload_n (i := 1) dX8_copy_35 rfl rfl ?_
    refine ev_getf dX8_copy_36 flX8_15 (by first | rfl | exact (cp_out_43_27 (by decide)).trans hz | exact (cp_out_43_27 (by decide)).trans z0 | exact (cp_out_43_27 (by decide)).trans z1 | exact (cp_out_43_27 (by decide)).trans z2 | exact (cp_out_43_27 (by decide)).trans z3 | exact (cp_out_43_27 (by decide)).trans z4) (by rfl) ?_
    refine ev_iload_n (i := 2) dX8_copy_39 rfl rfl ?_
    refine ev_iald (j := k) dX8_copy_40 (by first | rfl | exact (cp_out_43_27 (by decide)).trans hz | exact (cp_out_43_27 (by decide)).trans z0 | exact (cp_out_43_27 (by decide)).trans z1 | exact (cp_out_43_27 (by decide)).trans z2 | exact (cp_out_43_27 (by decide)).trans z3 | exact (cp_out_43_27 (by decide)).trans z4) (ev_ix_nI (by omega)) (by omega) ?_
    refine ev_iastP 2 (j := k) dX8_copy_41 (by rfl) (by rfl) (ev_ix_nI (by omega)) (by omega) (by rfl) (by rfl) ?_
    refine ev_aload_n (i := 0) dX8_copy_42 rfl rfl ?_
    refine ev_getf dX8_copy_43 flX8_18 (by first | rfl | exact (cp_out_43_27 (by decide)).trans hz | exact (cp_out_43_27 (by decide)).trans z0 | exact (cp_out_43_27 (by decide)).trans z1 | exact (cp_out_43_27 (by decide)).trans z2 | exact (cp_out_43_27 (by decide)).trans z3 | exact (cp_out_43_27 (by decide)).trans z4) (by rfl) ?_
    refine ev_iload_n (i := 2) dX8_copy_46 rfl rfl ?_
    refine ev_aload_n (i := 1) dX8_copy_47 rfl rfl ?_
    refine ev_getf dX8_copy_48 flX8_18 (by first | rfl | exact (cp_out_43_27 (by decide)).trans hz | exact (cp_out_43_27 (by decide)).trans z0 | exact (cp_out_43_27 (by decide)).trans z1 | exact (cp_out_43_27 (by decide)).trans z2 | exact (cp_out_43_27 (by decide)).trans z3 | exact (cp_out_43_27 (by decide)).trans z4) (by rfl) ?_
    refine ev_iload_n (i := 2) dX8_copy_51 rfl rfl ?_
    refine ev_iald (j := k) dX8_copy_52 (by first | rfl | exact (cp_out_43_27 (by decide)).trans hz | exact (cp_out_43_27 (by decide)).trans z0 | exact (cp_out_43_27 (by decide)).trans z1 | exact (cp_out_43_27 (by decide)).trans z2 | exact (cp_out_43_27 (by decide)).trans z3 | exact (cp_out_43_27 (by decide)).trans z4) (ev_ix_nI (by omega)) (by omega) ?_
    refine ev_iastP 3 (j := k) dX8_copy_53 (by rfl) (by rfl) (ev_ix_nI (by omega)) (by omega) (by rfl) (by rfl) ?_
    refine ev_aload_n (i := 0) dX8_copy_54 rfl rfl ?_
    refine ev_getf dX8_copy_55 flX8_21 (by first | rfl | exact (cp_out_43_27 (by decide)).trans hz | exact (cp_out_43_27 (by decide)).trans z0 | exact (cp_out_43_27 (by decide)).trans z1 | exact (cp_out_43_27 (by decide)).trans z2 | exact (cp_out_43_27 (by decide)).trans z3 | exact (cp_out_43_27 (by decide)).trans z4) (by rfl) ?_
    refine ev_iload_n (i := 2) dX8_copy_58 rfl rfl ?_
    refine ev_aload_n (i := 1) dX8_copy_59 rfl rfl ?_
    refine ev_getf dX8_copy_60 flX8_21 (by first | rfl | exact (cp_out_43_27 (by decide)).trans hz | exact (cp_out_43_27 (by decide)).trans z0 | exact (cp_out_43_27 (by decide)).trans z1 | exact (cp_out_43_27 (by decide)).trans z2 | exact (cp_out_43_27 (by decide)).trans z3 | exact (cp_out_43_27 (by decide)).trans z4) (by rfl) ?_
    refine ev_iload_n (i := 2) dX8_copy_63 rfl rfl ?_
    refine ev_iald (j := k) dX8_copy_64 (by first | rfl | exact (cp_out_43_27 (by decide)).trans hz | exact (cp_out_43_27 (by decide)).trans z0 | exact (cp_out_43_27 (by decide)).trans z1 | exact (cp_out_43_27 (by decide)).trans z2 | exact (cp_out_43_27 (by decide)).trans z3 | exact (cp_out_43_27 (by decide)).trans z4) (ev_ix_nI (by omega)) (by omega) ?_
    refine ev_iastP 4 (j := k) dX8_copy_65 (by rfl) (by rfl) (ev_ix_nI (by omega)) (by omega) (by rfl) (by rfl) ?_
    refine ev_aload_n (i := 0) dX8_copy_66 rfl rfl ?_
    refine ev_getf dX8_copy_67 flX8_24 (by first | rfl | exact (cp_out_43_27 (by decide)).trans hz | exact (cp_out_43_27 (by decide)).trans z0 | exact (cp_out_43_27 (by decide)).trans z1 | exact (cp_out_43_27 (by decide)).trans z2 | exact (cp_out_43_27 (by decide)).trans z3 | exact (cp_out_43_27 (by decide)).trans z4) (by rfl) ?_
    refine ev_iload_n (i := 2) dX8_copy_70 rfl rfl ?_
    refine ev_aload_n (i := 1) dX8_copy_71 rfl rfl ?_
    refine ev_getf dX8_copy_72 flX8_24 (by first | rfl | exact (cp_out_43_27 (by decide)).trans hz | exact (cp_out_43_27 (by decide)).trans z0 | exact (cp_out_43_27 (by decide)).trans z1 | exact (cp_out_43_27 (by decide)).trans z2 | exact (cp_out_43_27 (by decide)).trans z3 | exact (cp_out_43_27 (by decide)).trans z4) (by rfl) ?_
    refine ev_iload_n (i := 2) dX8_copy_75 rfl rfl ?_
    refine ev_iald (j := k) dX8_copy_76 (by first | rfl | exact (cp_out_43_27 (by decide)).trans hz | exact (cp_out_43_27 (by decide)).trans z0 | exact (cp_out_43_27 (by decide)).trans z1 | exact (cp_out_43_27 (by decide)).trans z2 | exact (cp_out_43_27 (by decide)).trans z3 | exact (cp_out_43_27 (by decide)).trans z4) (ev_ix_nI (by omega)) (by omega) ?_
    refine ev_iastP 5 (j := k) dX8_copy_77 (by rfl) (by rfl) (ev_ix_nI (by omega)) (by omega) (by rfl) (by rfl) ?_
    refine ev_iinc (v := nI (k + 1)) dX8_copy_78 rfl (nI_1 k) (Nat.le_of_ble_eq_true rfl) rfl ?_
    refine ev_goto (tgt := 10) dX8_copy_81 (by decide) ?_
    refine ev_mem ?_ (ih (k + 1) (by omega))
    rw [← fl_mix_S (k := k) (V := f0) (q := g0), ← fl_mix_S (k := k) (V := f1) (q := g1), ← fl_mix_S (k := k) (V := f2) (q := g2), ← fl_mix_S (k := k) (V := f3) (q := g3), ← fl_mix_S (k := k) (V := f4) (q := g4)]
    rfl
theorem c8_copy_43_27 {G : ev_G} {n : Nat} {M : ev_M} {up dn : Int64} {f0 f1 f2 f3 f4 f5 f6 : Nat → Int32} {sz : Nat} (hz : M (27) = .inr (8, [.ref (27 + 1), .ref (27 + 2), .ref (27 + 3), .ref (27 + 4), .ref (27 + 5), .ref (27 + 6), .ref (27 + 7), .long up, .long dn, .int (nI sz)])) (z0 : M (27 + 1) = .inl (0, 60, .inl f0)) (z1 : M (27 + 2) = .inl (0, 60, .inl f1)) (z2 : M (27 + 3) = .inl (0, 60, .inl f2)) (z3 : M (27 + 4) = .inl (0, 60, .inl f3)) (z4 : M (27 + 5) = .inl (0, 60, .inl f4)) (z5 : M (27 + 6) = .inl (0, 12, .inl f5)) (z6 : M (27 + 7) = .inl (0, 12, .inl f6)) {up2 dn2 : Int64} {x : Int32} {g0 g1 g2 g3 g4 : Nat → Int32} (hy : M 43 = .inr (8, [.ref (43 + 1), .ref (43 + 2), .ref (43 + 3), .ref (43 + 4), .ref (43 + 5), .ref (43 + 6), .ref (43 + 7), .long up2, .long dn2, .int (x)])) (y0 : M (43 + 1) = .inl (0, 60, .inl g0)) (y1 : M (43 + 2) = .inl (0, 60, .inl g1)) (y2 : M (43 + 3) = .inl (0, 60, .inl g2)) (y3 : M (43 + 4) = .inl (0, 60, .inl g3)) (y4 : M (43 + 5) = .inl (0, 60, .inl g4)) (hsz : sz ≤ 60)  : ev_Cal G mX8_copy 1 0 0 [.ref 43, .ref 27] n M (ev_is none (ev_ml M [(43, .inr (8, [.ref (43 + 1), .ref (43 + 2), .ref (43 + 3), .ref (43 + 4), .ref (43 + 5), .ref (43 + 6), .ref (43 + 7), .long up2, .long dn2, .int (nI sz)])), (43 + 1, .inl (0, 60, .inl (fl_mix (sz) f0 g0))), (43 + 2, .inl (0, 60, .inl (fl_mix (sz) f1 g1))), (43 + 3, .inl (0, 60, .inl (fl_mix (sz) f2 g2))), (43 + 4, .inl (0, 60, .inl (fl_mix (sz) f3 g3))), (43 + 5, .inl (0, 60, .inl (fl_mix (sz) f4 g4)))])) := by
  refine ev_Cal_of (L := [some (.ref 43), some (.ref 27), none]) (by decide +kernel) (Nat.le_of_ble_eq_true rfl) rfl ?_
  refine ev_track (l := [(43, .inr (8, [.ref (43 + 1), .ref (43 + 2), .ref (43 + 3), .ref (43 + 4), .ref (43 + 5), .ref (43 + 6), .ref (43 + 7), .long up2, .long dn2, .int (x)])), (43 + 1, .inl (0, 60, .inl g0)), (43 + 2, .inl (0, 60, .inl g1)), (43 + 3, .inl (0, 60, .inl g2)), (43 + 4, .inl (0, 60, .inl g3)), (43 + 5, .inl (0, 60, .inl g4))]) (ev_fa1 hy (ev_fa1 y0 (ev_fa1 y1 (ev_fa1 y2 (ev_fa1 y3 (ev_fa1 y4 ev_fa0)))))) ?_
  refine ev_aload_n (i := 0) dX8_copy_0 rfl rfl ?_
  refine ev_aload_n (i := 1) dX8_copy_1 rfl rfl ?_
  refine ev_getf dX8_copy_2 flX8_33 (by first | rfl | exact (cp_out_43_27 (by decide)).trans hz | exact (cp_out_43_27 (by decide)).trans z0 | exact (cp_out_43_27 (by decide)).trans z1 | exact (cp_out_43_27 (by decide)).trans z2 | exact (cp_out_43_27 (by decide)).trans z3 | exact (cp_out_43_27 (by decide)).trans z4) (by rfl) ?_
  refine ev_putiP 0 dX8_copy_5 fpX8_33 (by rfl) (by rfl) (Nat.le_of_ble_eq_true rfl) (by rfl) (by rfl) ?_
  refine ev_iconst (v := 0) dX8_copy_8 cni_0 ?_
  refine ev_istore_n (i := 2) dX8_copy_9 rfl (Nat.le_of_ble_eq_true rfl) rfl ?_
  refine ev_mem ?_ (l8_copy_43_27 hz z0 z1 z2 z3 z4 z5 z6 hy y0 y1 y2 y3 y4 hsz sz 0 (Nat.zero_add _))
  rw [fl_mix_0, fl_mix_0, fl_mix_0, fl_mix_0, fl_mix_0]
  rfl
theorem cp_out_65_27 {M : ev_M} {a : Nat} {x0 x1 x2 x3 x4 x5 : ev_MC} (h : a < 65 ∨ 70 < a) : ev_ml M [(65, x0), (65 + 1, x1), (65 + 2, x2), (65 + 3, x3), (65 + 4, x4), (65 + 5, x5)] a = M a := ev_ml_out _ (by simp only [List.map_cons, List.map_nil, List.mem_cons, List.not_mem_nil, or_false, not_or]; omega)
theorem l8_copy_65_27 {G : ev_G} {n : Nat} {M : ev_M} {up dn : Int64} {f0 f1 f2 f3 f4 f5 f6 : Nat → Int32} {sz : Nat} (hz : M (27) = .inr (8, [.ref (27 + 1), .ref (27 + 2), .ref (27 + 3), .ref (27 + 4), .ref (27 + 5), .ref (27 + 6), .ref (27 + 7), .long up, .long dn, .int (nI sz)])) (z0 : M (27 + 1) = .inl (0, 60, .inl f0)) (z1 : M (27 + 2) = .inl (0, 60, .inl f1)) (z2 : M (27 + 3) = .inl (0, 60, .inl f2)) (z3 : M (27 + 4) = .inl (0, 60, .inl f3)) (z4 : M (27 + 5) = .inl (0, 60, .inl f4)) (z5 : M (27 + 6) = .inl (0, 12, .inl f5)) (z6 : M (27 + 7) = .inl (0, 12, .inl f6)) {up2 dn2 : Int64} {x : Int32} {g0 g1 g2 g3 g4 : Nat → Int32} (hy : M 65 = .inr (8, [.ref (65 + 1), .ref (65 + 2), .ref (65 + 3), .ref (65 + 4), .ref (65 + 5), .ref (65 + 6), .ref (65 + 7), .long up2, .long dn2, .int (x)])) (y0 : M (65 + 1) = .inl (0, 60, .inl g0)) (y1 : M (65 + 2) = .inl (0, 60, .inl g1)) (y2 : M (65 + 3) = .inl (0, 60, .inl g2)) (y3 : M (65 + 4) = .inl (0, 60, .inl g3)) (y4 : M (65 + 5) = .inl (0, 60, .inl g4)) (hsz : sz ≤ 60) : ∀ (m k : Nat), k + m = sz → ev_E G mX8_copy 1 0 0 n (ev_ml M [(65, .inr (8, [.ref (65 + 1), .ref (65 + 2), .ref (65 + 3), .ref (65 + 4), .ref (65 + 5), .ref (65 + 6), .ref (65 + 7), .long up2, .long dn2, .int (nI sz)])), (65 + 1, .inl (0, 60, .inl (fl_mix (k) f0 g0))), (65 + 2, .inl (0, 60, .inl (fl_mix (k) f1 g1))), (65 + 3, .inl (0, 60, .inl (fl_mix (k) f2 g2))), (65 + 4, .inl (0, 60, .inl (fl_mix (k) f3 g3))), (65 + 5, .inl (0, 60, .inl (fl_mix (k) f4 g4)))]) 10 [some (.ref 65), some (.ref 27), some (.int (nI k))] [] (ev_is none (ev_ml M [(65, .inr (8, [.ref (65 + 1), .ref (65 + 2), .ref (65 + 3), .ref (65 + 4), .ref (65 + 5), .ref (65 + 6), .ref (65 + 7), .long up2, .long dn2, .int (nI sz)])), (65 + 1, .inl (0, 60, .inl (fl_mix (sz) f0 g0))), (65 + 2, .inl (0, 60, .inl (fl_mix (sz) f1 g1))), (65 + 3, .inl (0, 60, .inl (fl_mix (sz) f2 g2))), (65 + 4, .inl (0, 60, .inl (fl_mix (sz) f3 g3))), (65 + 5, .inl (0, 60, .inl (fl_mix (sz) f4 g4)))])) := by
  intro m
  induction m with
  | zero =>
    intro k hk
    refine ev_iload_n (i := 2) dX8_copy_10 rfl rfl ?_
    refine ev_aload_n (i := 0) dX8_copy_11 rfl rfl ?_
    refine ev_getf dX8_copy_12 flX8_33 (by first | rfl | exact (cp_out_65_27 (by decide)).trans hz | exact (cp_out_65_27 (by decide)).trans z0 | exact (cp_out_65_27 (by decide)).trans z1 | exact (cp_out_65_27 (by decide)).trans z2 | exact (cp_out_65_27 (by decide)).trans z3 | exact (cp_out_65_27 (by decide)).trans z4) (by rfl) ?_
    refine ev_icmp_ge (tgt := 84) dX8_copy_15 (by decide) (fun h15 => ?_) (fun h15 => False.elim (nI_nlt (a := k) (b := sz) (by omega) (by omega) h15))
    obtain rfl : k = sz := by omega
    exact ev_retv dX8_copy_84 rfl (⟨rfl, rfl⟩)
  | succ m ih =>
    intro k hk
    refine ev_iload_n (i := 2) dX8_copy_10 rfl rfl ?_
    refine ev_aload_n (i := 0) dX8_copy_11 rfl rfl ?_
    refine ev_getf dX8_copy_12 flX8_33 (by first | rfl | exact (cp_out_65_27 (by decide)).trans hz | exact (cp_out_65_27 (by decide)).trans z0 | exact (cp_out_65_27 (by decide)).trans z1 | exact (cp_out_65_27 (by decide)).trans z2 | exact (cp_out_65_27 (by decide)).trans z3 | exact (cp_out_65_27 (by decide)).trans z4) (by rfl) ?_
    refine ev_icmp_ge (tgt := 84) dX8_copy_15 (by decide) (fun h15 => False.elim (nI_ge (a := k) (b := sz) (by omega) (by omega) h15)) (fun h15 => ?_)
    refine ev_aload_n (i := 0) dX8_copy_18 rfl rfl ?_
    refine ev_getf dX8_copy_19 flX8_9 (by first | rfl | exact (cp_out_65_27 (by decide)).trans hz | exact (cp_out_65_27 (by decide)).trans z0 | exact (cp_out_65_27 (by decide)).trans z1 | exact (cp_out_65_27 (by decide)).trans z2 | exact (cp_out_65_27 (by decide)).trans z3 | exact (cp_out_65_27 (by decide)).trans z4) (by rfl) ?_
    refine ev_iload_n (i := 2) dX8_copy_22 rfl rfl ?_
    refine ev_aload_n (i := 1) dX8_copy_23 rfl rfl ?_
    refine ev_getf dX8_copy_24 flX8_9 (by first | rfl | exact (cp_out_65_27 (by decide)).trans hz | exact (cp_out_65_27 (by decide)).trans z0 | exact (cp_out_65_27 (by decide)).trans z1 | exact (cp_out_65_27 (by decide)).trans z2 | exact (cp_out_65_27 (by decide)).trans z3 | exact (cp_out_65_27 (by decide)).trans z4) (by rfl) ?_
    refine ev_iload_n (i := 2) dX8_copy_27 rfl rfl ?_
    refine ev_iald (j := k) dX8_copy_28 (by first | rfl | exact (cp_out_65_27 (by decide)).trans hz | exact (cp_out_65_27 (by decide)).trans z0 | exact (cp_out_65_27 (by decide)).trans z1 | exact (cp_out_65_27 (by decide)).trans z2 | exact (cp_out_65_27 (by decide)).trans z3 | exact (cp_out_65_27 (by decide)).trans z4) (ev_ix_nI (by omega)) (by omega) ?_
    refine ev_iastP 1 (j := k) dX8_copy_29 (by rfl) (by rfl) (ev_ix_nI (by omega)) (by omega) (by rfl) (by rfl) ?_
    refine ev_aload_n (i := 0) dX8_copy_30 rfl rfl ?_
    refine ev_getf dX8_copy_31 flX8_15 (by first | rfl | exact (cp_out_65_27 (by decide)).trans hz | exact (cp_out_65_27 (by decide)).trans z0 | exact (cp_out_65_27 (by decide)).trans z1 | exact (cp_out_65_27 (by decide)).trans z2 | exact (cp_out_65_27 (by decide)).trans z3 | exact (cp_out_65_27 (by decide)).trans z4) (by rfl) ?_
    refine ev_iload_n (i := 2) dX8_copy_34 rfl rfl ?_
    refine ev_aload_n (i := 1) dX8_copy_35 rfl rfl ?_
    refine ev_getf dX8_copy_36 flX8_15 (by first | rfl | exact (cp_out_65_27 (by decide)).trans hz | exact (cp_out_65_27 (by decide)).trans z0 | exact (cp_out_65_27 (by decide)).trans z1 | exact (cp_out_65_27 (by decide)).trans z2 | exact (cp_out_65_27 (by decide)).trans z3 | exact (cp_out_65_27 (by decide)).trans z4) (by rfl) ?_
    refine ev_iload_n (i := 2) dX8_copy_39 rfl rfl ?_
    refine ev_iald (j := k) dX8_copy_40 (by first | rfl | exact (cp_out_65_27 (by decide)).trans hz | exact (cp_out_65_27 (by decide)).trans z0 | exact (cp_out_65_27 (by decide)).trans z1 | exact (cp_out_65_27 (by decide)).trans z2 | exact (cp_out_65_27 (by decide)).trans z3 | exact (cp_out_65_27 (by decide)).trans z4) (ev_ix_nI (by omega)) (by omega) ?_
    refine ev_iastP 2 (j := k) dX8_copy_41 (by rfl) (by rfl) (ev_ix_nI (by omega)) (by omega) (by rfl) (by rfl) ?_
    refine ev_aload_n (i := 0) dX8_copy_42 rfl rfl ?_
    refine ev_getf dX8_copy_43 flX8_18 (by first | rfl | exact (cp_out_65_27 (by decide)).trans hz | exact (cp_out_65_27 (by decide)).trans z0 | exact (cp_out_65_27 (by decide)).trans z1 | exact (cp_out_65_27 (by decide)).trans z2 | exact (cp_out_65_27 (by decide)).trans z3 | exact (cp_out_65_27 (by decide)).trans z4) (by rfl) ?_
    refine ev_iload_n (i := 2) dX8_copy_46 rfl rfl ?_
    refine ev_aload_n (i := 1) dX8_copy_47 rfl rfl ?_
    refine ev_getf dX8_copy_48 flX8_18 (by first | rfl | exact (cp_out_65_27 (by decide)).trans hz | exact (cp_out_65_27 (by decide)).trans z0 | exact (cp_out_65_27 (by decide)).trans z1 | exact (cp_out_65_27 (by decide)).trans z2 | exact (cp_out_65_27 (by decide)).trans z3 | exact (cp_out_65_27 (by decide)).trans z4) (by rfl) ?_
    refine ev_iload_n (i := 2) dX8_copy_51 rfl rfl ?_
    refine ev_iald (j := k) dX8_copy_52 (by first | rfl | exact (cp_out_65_27 (by decide)).trans hz | exact (cp_out_65_27 (by decide)).trans z0 | exact (cp_out_65_27 (by decide)).trans z1 | exact (cp_out_65_27 (by decide)).trans z2 | exact (cp_out_65_27 (by decide)).trans z3 | exact (cp_out_65_27 (by decide)).trans z4) (ev_ix_nI (by omega)) (by omega) ?_
    refine ev_iastP 3 (j := k) dX8_copy_53 (by rfl) (by rfl) (ev_ix_nI (by omega)) (by omega) (by rfl) (by rfl) ?_
    refine ev_aload_n (i := 0) dX8_copy_54 rfl rfl ?_
    refine ev_getf dX8_copy_55 flX8_21 (by first | rfl | exact (cp_out_65_27 (by decide)).trans hz | exact (cp_out_65_27 (by decide)).trans z0 | exact (cp_out_65_27 (by decide)).trans z1 | exact (cp_out_65_27 (by decide)).trans z2 | exact (cp_out_65_27 (by decide)).trans z3 | exact (cp_out_65_27 (by decide)).trans z4) (by rfl) ?_
    refine ev_iload_n (i := 2) dX8_copy_58 rfl rfl ?_
    refine ev_aload_n (i := 1) dX8_copy_59 rfl rfl ?_
    refine ev_getf dX8_copy_60 flX8_21 (by first | rfl | exact (cp_out_65_27 (by decide)).trans hz | exact (cp_out_65_27 (by decide)).trans z0 | exact (cp_out_65_27 (by decide)).trans z1 | exact (cp_out_65_27 (by decide)).trans z2 | exact (cp_out_65_27 (by decide)).trans z3 | exact (cp_out_65_27 (by decide)).trans z4) (by rfl) ?_
    refine ev_iload_n (i := 2) dX8_copy_63 rfl rfl ?_
    refine ev_iald (j := k) dX8_copy_64 (by first | rfl | exact (cp_out_65_27 (by decide)).trans hz | exact (cp_out_65_27 (by decide)).trans z0 | exact (cp_out_65_27 (by decide)).trans z1 | exact (cp_out_65_27 (by decide)).trans z2 | exact (cp_out_65_27 (by decide)).trans z3 | exact (cp_out_65_27 (by decide)).trans z4) (ev_ix_nI (by omega)) (by omega) ?_
    refine ev_iastP 4 (j := k) dX8_copy_65 (by rfl) (by rfl) (ev_ix_nI (by omega)) (by omega) (by rfl) (by rfl) ?_
    refine ev_aload_n (i := 0) dX8_copy_66 rfl rfl ?_
    refine ev_getf dX8_copy_67 flX8_24 (by first | rfl | exact (cp_out_65_27 (by decide)).trans hz | exact (cp_out_65_27 (by decide)).trans z0 | exact (cp_out_65_27 (by decide)).trans z1 | exact (cp_out_65_27 (by decide)).trans z2 | exact (cp_out_65_27 (by decide)).trans z3 | exact (cp_out_65_27 (by decide)).trans z4) (by rfl) ?_
    refine ev_iload_n (i := 2) dX8_copy_70 rfl rfl ?_
    refine ev_aload_n (i := 1) dX8_copy_71 rfl rfl ?_
    refine ev_getf dX8_copy_72 flX8_24 (by first | rfl | exact (cp_out_65_27 (by decide)).trans hz | exact (cp_out_65_27 (by decide)).trans z0 | exact (cp_out_65_27 (by decide)).trans z1 | exact (cp_out_65_27 (by decide)).trans z2 | exact (cp_out_65_27 (by decide)).trans z3 | exact (cp_out_65_27 (by decide)).trans z4) (by rfl) ?_
    refine ev_iload_n (i := 2) dX8_copy_75 rfl rfl ?_
    refine ev_iald (j := k) dX8_copy_76 (by first | rfl | exact (cp_out_65_27 (by decide)).trans hz | exact (cp_out_65_27 (by decide)).trans z0 | exact (cp_out_65_27 (by decide)).trans z1 | exact (cp_out_65_27 (by decide)).trans z2 | exact (cp_out_65_27 (by decide)).trans z3 | exact (cp_out_65_27 (by decide)).trans z4) (ev_ix_nI (by omega)) (by omega) ?_
    refine ev_iastP 5 (j := k) dX8_copy_77 (by rfl) (by rfl) (ev_ix_nI (by omega)) (by omega) (by rfl) (by rfl) ?_
    refine ev_iinc (v := nI (k + 1)) dX8_copy_78 rfl (nI_1 k) (Nat.le_of_ble_eq_true rfl) rfl ?_
    refine ev_goto (tgt := 10) dX8_copy_81 (by decide) ?_
    refine ev_mem ?_ (ih (k + 1) (by omega))
    rw [← fl_mix_S (k := k) (V := f0) (q := g0), ← fl_mix_S (k := k) (V := f1) (q := g1), ← fl_mix_S (k := k) (V := f2) (q := g2), ← fl_mix_S (k := k) (V := f3) (q := g3), ← fl_mix_S (k := k) (V := f4) (q := g4)]
    rfl
theorem c8_copy_65_27 {G : ev_G} {n : Nat} {M : ev_M} {up dn : Int64} {f0 f1 f2 f3 f4 f5 f6 : Nat → Int32} {sz : Nat} (hz : M (27) = .inr (8, [.ref (27 + 1), .ref (27 + 2), .ref (27 + 3), .ref (27 + 4), .ref (27 + 5), .ref (27 + 6), .ref (27 + 7), .long up, .long dn, .int (nI sz)])) (z0 : M (27 + 1) = .inl (0, 60, .inl f0)) (z1 : M (27 + 2) = .inl (0, 60, .inl f1)) (z2 : M (27 + 3) = .inl (0, 60, .inl f2)) (z3 : M (27 + 4) = .inl (0, 60, .inl f3)) (z4 : M (27 + 5) = .inl (0, 60, .inl f4)) (z5 : M (27 + 6) = .inl (0, 12, .inl f5)) (z6 : M (27 + 7) = .inl (0, 12, .inl f6)) {up2 dn2 : Int64} {x : Int32} {g0 g1 g2 g3 g4 : Nat → Int32} (hy : M 65 = .inr (8, [.ref (65 + 1), .ref (65 + 2), .ref (65 + 3), .ref (65 + 4), .ref (65 + 5), .ref (65 + 6), .ref (65 + 7), .long up2, .long dn2, .int (x)])) (y0 : M (65 + 1) = .inl (0, 60, .inl g0)) (y1 : M (65 + 2) = .inl (0, 60, .inl g1)) (y2 : M (65 + 3) = .inl (0, 60, .inl g2)) (y3 : M (65 + 4) = .inl (0, 60, .inl g3)) (y4 : M (65 + 5) = .inl (0, 60, .inl g4)) (hsz : sz ≤ 60)  : ev_Cal G mX8_copy 1 0 0 [.ref 65, .ref 27] n M (ev_is none (ev_ml M [(65, .inr (8, [.ref (65 + 1), .ref (65 + 2), .ref (65 + 3), .ref (65 + 4), .ref (65 + 5), .ref (65 + 6), .ref (65 + 7), .long up2, .long dn2, .int (nI sz)])), (65 + 1, .inl (0, 60, .inl (fl_mix (sz) f0 g0))), (65 + 2, .inl (0, 60, .inl (fl_mix (sz) f1 g1))), (65 + 3, .inl (0, 60, .inl (fl_mix (sz) f2 g2))), (65 + 4, .inl (0, 60, .inl (fl_mix (sz) f3 g3))), (65 + 5, .inl (0, 60, .inl (fl_mix (sz) f4 g4)))])) := by
  refine ev_Cal_of (L := [some (.ref 65), some (.ref 27), none]) (by decide +kernel) (Nat.le_of_ble_eq_true rfl) rfl ?_
  refine ev_track (l := [(65, .inr (8, [.ref (65 + 1), .ref (65 + 2), .ref (65 + 3), .ref (65 + 4), .ref (65 + 5), .ref (65 + 6), .ref (65 + 7), .long up2, .long dn2, .int (x)])), (65 + 1, .inl (0, 60, .inl g0)), (65 + 2, .inl (0, 60, .inl g1)), (65 + 3, .inl (0, 60, .inl g2)), (65 + 4, .inl (0, 60, .inl g3)), (65 + 5, .inl (0, 60, .inl g4))]) (ev_fa1 hy (ev_fa1 y0 (ev_fa1 y1 (ev_fa1 y2 (ev_fa1 y3 (ev_fa1 y4 ev_fa0)))))) ?_
  refine ev_aload_n (i := 0) dX8_copy_0 rfl rfl ?_
  refine ev_aload_n (i := 1) dX8_copy_1 rfl rfl ?_
  refine ev_getf dX8_copy_2 flX8_33 (by first | rfl | exact (cp_out_65_27 (by decide)).trans hz | exact (cp_out_65_27 (by decide)).trans z0 | exact (cp_out_65_27 (by decide)).trans z1 | exact (cp_out_65_27 (by decide)).trans z2 | exact (cp_out_65_27 (by decide)).trans z3 | exact (cp_out_65_27 (by decide)).trans z4) (by rfl) ?_
  refine ev_putiP 0 dX8_copy_5 fpX8_33 (by rfl) (by rfl) (Nat.le_of_ble_eq_true rfl) (by rfl) (by rfl) ?_
  refine ev_iconst (v := 0) dX8_copy_8 cni_0 ?_
  refine ev_istore_n (i := 2) dX8_copy_9 rfl (Nat.le_of_ble_eq_true rfl) rfl ?_
  refine ev_mem ?_ (l8_copy_65_27 hz z0 z1 z2 z3 z4 z5 z6 hy y0 y1 y2 y3 y4 hsz sz 0 (Nat.zero_add _))
  rw [fl_mix_0, fl_mix_0, fl_mix_0, fl_mix_0, fl_mix_0]
  rfl
theorem cp_out_27_43 {M : ev_M} {a : Nat} {x0 x1 x2 x3 x4 x5 : ev_MC} (h : a < 27 ∨ 32 < a) : ev_ml M [(27, x0), (27 + 1, x1), (27 + 2, x2), (27 + 3, x3), (27 + 4, x4), (27 + 5, x5)] a = M a := ev_ml_out _ (by simp only [List.map_cons, List.map_nil, List.mem_cons, List.not_mem_nil, or_false, not_or]; omega)
theorem l8_copy_27_43 {G : ev_G} {n : Nat} {M : ev_M} {up dn : Int64} {f0 f1 f2 f3 f4 f5 f6 : Nat → Int32} {sz : Nat} (hz : M (43) = .inr (8, [.ref (43 + 1), .ref (43 + 2), .ref (43 + 3), .ref (43 + 4), .ref (43 + 5), .ref (43 + 6), .ref (43 + 7), .long up, .long dn, .int (nI sz)])) (z0 : M (43 + 1) = .inl (0, 60, .inl f0)) (z1 : M (43 + 2) = .inl (0, 60, .inl f1)) (z2 : M (43 + 3) = .inl (0, 60, .inl f2)) (z3 : M (43 + 4) = .inl (0, 60, .inl f3)) (z4 : M (43 + 5) = .inl (0, 60, .inl f4)) (z5 : M (43 + 6) = .inl (0, 12, .inl f5)) (z6 : M (43 + 7) = .inl (0, 12, .inl f6)) {up2 dn2 : Int64} {x : Int32} {g0 g1 g2 g3 g4 : Nat → Int32} (hy : M 27 = .inr (8, [.ref (27 + 1), .ref (27 + 2), .ref (27 + 3), .ref (27 + 4), .ref (27 + 5), .ref (27 + 6), .ref (27 + 7), .long up2, .long dn2, .int (x)])) (y0 : M (27 + 1) = .inl (0, 60, .inl g0)) (y1 : M (27 + 2) = .inl (0, 60, .inl g1)) (y2 : M (27 + 3) = .inl (0, 60, .inl g2)) (y3 : M (27 + 4) = .inl (0, 60, .inl g3)) (y4 : M (27 + 5) = .inl (0, 60, .inl g4)) (hsz : sz ≤ 60) : ∀ (m k : Nat), k + m = sz → ev_E G mX8_copy 1 0 0 n (ev_ml M [(27, .inr (8, [.ref (27 + 1), .ref (27 + 2), .ref (27 + 3), .ref (27 + 4), .ref (27 + 5), .ref (27 + 6), .ref (27 + 7), .long up2, .long dn2, .int (nI sz)])), (27 + 1, .inl (0, 60, .inl (fl_mix (k) f0 g0))), (27 + 2, .inl (0, 60, .inl (fl_mix (k) f1 g1))), (27 + 3, .inl (0, 60, .inl (fl_mix (k) f2 g2))), (27 + 4, .inl (0, 60, .inl (fl_mix (k) f3 g3))), (27 + 5, .inl (0, 60, .inl (fl_mix (k) f4 g4)))]) 10 [some (.ref 27), some (.ref 43), some (.int (nI k))] [] (ev_is none (ev_ml M [(27, .inr (8, [.ref (27 + 1), .ref (27 + 2), .ref (27 + 3), .ref (27 + 4), .ref (27 + 5), .ref (27 + 6), .ref (27 + 7), .long up2, .long dn2, .int (nI sz)])), (27 + 1, .inl (0, 60, .inl (fl_mix (sz) f0 g0))), (27 + 2, .inl (0, 60, .inl (fl_mix (sz) f1 g1))), (27 + 3, .inl (0, 60, .inl (fl_mix (sz) f2 g2))), (27 + 4, .inl (0, 60, .inl (fl_mix (sz) f3 g3))), (27 + 5, .inl (0, 60, .inl (fl_mix (sz) f4 g4)))])) := by
  intro m
  induction m with
  | zero =>
    intro k hk
    refine ev_iload_n (i := 2) dX8_copy_10 rfl rfl ?_
    refine ev_aload_n (i := 0) dX8_copy_11 rfl rfl ?_
    refine ev_getf dX8_copy_12 flX8_33 (by first | rfl | exact (cp_out_27_43 (by decide)).trans hz | exact (cp_out_27_43 (by decide)).trans z0 | exact (cp_out_27_43 (by decide)).trans z1 | exact (cp_out_27_43 (by decide)).trans z2 | exact (cp_out_27_43 (by decide)).trans z3 | exact (cp_out_27_43 (by decide)).trans z4) (by rfl) ?_
    refine ev_icmp_ge (tgt := 84) dX8_copy_15 (by decide) (fun h15 => ?_) (fun h15 => False.elim (nI_nlt (a := k) (b := sz) (by omega) (by omega) h15))
    obtain rfl : k = sz := by omega
    exact ev_retv dX8_copy_84 rfl (⟨rfl, rfl⟩)
  | succ m ih =>
    intro k hk
    refine ev_iload_n (i := 2) dX8_copy_10 rfl rfl ?_
    refine ev_aload_n (i := 0) dX8_copy_11 rfl rfl ?_
    refine ev_getf dX8_copy_12 flX8_33 (by first | rfl | exact (cp_out_27_43 (by decide)).trans hz | exact (cp_out_27_43 (by decide)).trans z0 | exact (cp_out_27_43 (by decide)).trans z1 | exact (cp_out_27_43 (by decide)).trans z2 | exact (cp_out_27_43 (by decide)).trans z3 | exact (cp_out_27_43 (by decide)).trans z4) (by rfl) ?_
    refine ev_icmp_ge (tgt := 84) dX8_copy_15 (by decide) (fun h15 => False.elim (nI_ge (a := k) (b := sz) (by omega) (by omega) h15)) (fun h15 => ?_)
    refine ev_aload_n (i := 0) dX8_copy_18 rfl rfl ?_
    refine ev_getf dX8_copy_19 flX8_9 (by first | rfl | exact (cp_out_27_43 (by decide)).trans hz | exact (cp_out_27_43 (by decide)).trans z0 | exact (cp_out_27_43 (by decide)).trans z1 | exact (cp_out_27_43 (by decide)).trans z2 | exact (cp_out_27_43 (by decide)).trans z3 | exact (cp_out_27_43 (by decide)).trans z4) (by rfl) ?_
    refine ev_iload_n (i := 2) dX8_copy_22 rfl rfl ?_
    refine ev_aload_n (i := 1) dX8_copy_23 rfl rfl ?_
    refine ev_getf dX8_copy_24 flX8_9 (by first | rfl | exact (cp_out_27_43 (by decide)).trans hz | exact (cp_out_27_43 (by decide)).trans z0 | exact (cp_out_27_43 (by decide)).trans z1 | exact (cp_out_27_43 (by decide)).trans z2 | exact (cp_out_27_43 (by decide)).trans z3 | exact (cp_out_27_43 (by decide)).trans z4) (by rfl) ?_
    refine ev_iload_n (i := 2) dX8_copy_27 rfl rfl ?_
    refine ev_iald (j := k) dX8_copy_28 (by first | rfl | exact (cp_out_27_43 (by decide)).trans hz | exact (cp_out_27_43 (by decide)).trans z0 | exact (cp_out_27_43 (by decide)).trans z1 | exact (cp_out_27_43 (by decide)).trans z2 | exact (cp_out_27_43 (by decide)).trans z3 | exact (cp_out_27_43 (by decide)).trans z4) (ev_ix_nI (by omega)) (by omega) ?_
    refine ev_iastP 1 (j := k) dX8_copy_29 (by rfl) (by rfl) (ev_ix_nI (by omega)) (by omega) (by rfl) (by rfl) ?_
    refine ev_aload_n (i := 0) dX8_copy_30 rfl rfl ?_
    refine ev_getf dX8_copy_31 flX8_15 (by first | rfl | exact (cp_out_27_43 (by decide)).trans hz | exact (cp_out_27_43 (by decide)).trans z0 | exact (cp_out_27_43 (by decide)).trans z1 | exact (cp_out_27_43 (by decide)).trans z2 | exact (cp_out_27_43 (by decide)).trans z3 | exact (cp_out_27_43 (by decide)).trans z4) (by rfl) ?_
    refine ev_iload_n (i := 2) dX8_copy_34 rfl rfl ?_
    refine ev_aload_n (i := 1) dX8_copy_35 rfl rfl ?_
    refine ev_getf dX8_copy_36 flX8_15 (by first | rfl | exact (cp_out_27_43 (by decide)).trans hz | exact (cp_out_27_43 (by decide)).trans z0 | exact (cp_out_27_43 (by decide)).trans z1 | exact (cp_out_27_43 (by decide)).trans z2 | exact (cp_out_27_43 (by decide)).trans z3 | exact (cp_out_27_43 (by decide)).trans z4) (by rfl) ?_
    refine ev_iload_n (i := 2) dX8_copy_39 rfl rfl ?_
    refine ev_iald (j := k) dX8_copy_40 (by first | rfl | exact (cp_out_27_43 (by decide)).trans hz | exact (cp_out_27_43 (by decide)).trans z0 | exact (cp_out_27_43 (by decide)).trans z1 | exact (cp_out_27_43 (by decide)).trans z2 | exact (cp_out_27_43 (by decide)).trans z3 | exact (cp_out_27_43 (by decide)).trans z4) (ev_ix_nI (by omega)) (by omega) ?_
    refine ev_iastP 2 (j := k) dX8_copy_41 (by rfl) (by rfl) (ev_ix_nI (by omega)) (by omega) (by rfl) (by rfl) ?_
    refine ev_aload_n (i := 0) dX8_copy_42 rfl rfl ?_
    refine ev_getf dX8_copy_43 flX8_18 (by first | rfl | exact (cp_out_27_43 (by decide)).trans hz | exact (cp_out_27_43 (by decide)).trans z0 | exact (cp_out_27_43 (by decide)).trans z1 | exact (cp_out_27_43 (by decide)).trans z2 | exact (cp_out_27_43 (by decide)).trans z3 | exact (cp_out_27_43 (by decide)).trans z4) (by rfl) ?_
    refine ev_iload_n (i := 2) dX8_copy_46 rfl rfl ?_
    refine ev_aload_n (i := 1) dX8_copy_47 rfl rfl ?_
    refine ev_getf dX8_copy_48 flX8_18 (by first | rfl | exact (cp_out_27_43 (by decide)).trans hz | exact (cp_out_27_43 (by decide)).trans z0 | exact (cp_out_27_43 (by decide)).trans z1 | exact (cp_out_27_43 (by decide)).trans z2 | exact (cp_out_27_43 (by decide)).trans z3 | exact (cp_out_27_43 (by decide)).trans z4) (by rfl) ?_
    refine ev_iload_n (i := 2) dX8_copy_51 rfl rfl ?_
    refine ev_iald (j := k) dX8_copy_52 (by first | rfl | exact (cp_out_27_43 (by decide)).trans hz | exact (cp_out_27_43 (by decide)).trans z0 | exact (cp_out_27_43 (by decide)).trans z1 | exact (cp_out_27_43 (by decide)).trans z2 | exact (cp_out_27_43 (by decide)).trans z3 | exact (cp_out_27_43 (by decide)).trans z4) (ev_ix_nI (by omega)) (by omega) ?_
    refine ev_iastP 3 (j := k) dX8_copy_53 (by rfl) (by rfl) (ev_ix_nI (by omega)) (by omega) (by rfl) (by rfl) ?_
    refine ev_aload_n (i := 0) dX8_copy_54 rfl rfl ?_
    refine ev_getf dX8_copy_55 flX8_21 (by first | rfl | exact (cp_out_27_43 (by decide)).trans hz | exact (cp_out_27_43 (by decide)).trans z0 | exact (cp_out_27_43 (by decide)).trans z1 | exact (cp_out_27_43 (by decide)).trans z2 | exact (cp_out_27_43 (by decide)).trans z3 | exact (cp_out_27_43 (by decide)).trans z4) (by rfl) ?_
    refine ev_iload_n (i := 2) dX8_copy_58 rfl rfl ?_
    refine ev_aload_n (i := 1) dX8_copy_59 rfl rfl ?_
    refine ev_getf dX8_copy_60 flX8_21 (by first | rfl | exact (cp_out_27_43 (by decide)).trans hz | exact (cp_out_27_43 (by decide)).trans z0 | exact (cp_out_27_43 (by decide)).trans z1 | exact (cp_out_27_43 (by decide)).trans z2 | exact (cp_out_27_43 (by decide)).trans z3 | exact (cp_out_27_43 (by decide)).trans z4) (by rfl) ?_
    refine ev_iload_n (i := 2) dX8_copy_63 rfl rfl ?_
    refine ev_iald (j := k) dX8_copy_64 (by first | rfl | exact (cp_out_27_43 (by decide)).trans hz | exact (cp_out_27_43 (by decide)).trans z0 | exact (cp_out_27_43 (by decide)).trans z1 | exact (cp_out_27_43 (by decide)).trans z2 | exact (cp_out_27_43 (by decide)).trans z3 | exact (cp_out_27_43 (by decide)).trans z4) (ev_ix_nI (by omega)) (by omega) ?_
    refine ev_iastP 4 (j := k) dX8_copy_65 (by rfl) (by rfl) (ev_ix_nI (by omega)) (by omega) (by rfl) (by rfl) ?_
    refine ev_aload_n (i := 0) dX8_copy_66 rfl rfl ?_
    refine ev_getf dX8_copy_67 flX8_24 (by first | rfl | exact (cp_out_27_43 (by decide)).trans hz | exact (cp_out_27_43 (by decide)).trans z0 | exact (cp_out_27_43 (by decide)).trans z1 | exact (cp_out_27_43 (by decide)).trans z2 | exact (cp_out_27_43 (by decide)).trans z3 | exact (cp_out_27_43 (by decide)).trans z4) (by rfl) ?_
    refine ev_iload_n (i := 2) dX8_copy_70 rfl rfl ?_
    refine ev_aload_n (i := 1) dX8_copy_71 rfl rfl ?_
    refine ev_getf dX8_copy_72 flX8_24 (by first | rfl | exact (cp_out_27_43 (by decide)).trans hz | exact (cp_out_27_43 (by decide)).trans z0 | exact (cp_out_27_43 (by decide)).trans z1 | exact (cp_out_27_43 (by decide)).trans z2 | exact (cp_out_27_43 (by decide)).trans z3 | exact (cp_out_27_43 (by decide)).trans z4) (by rfl) ?_
    refine ev_iload_n (i := 2) dX8_copy_75 rfl rfl ?_
    refine ev_iald (j := k) dX8_copy_76 (by first | rfl | exact (cp_out_27_43 (by decide)).trans hz | exact (cp_out_27_43 (by decide)).trans z0 | exact (cp_out_27_43 (by decide)).trans z1 | exact (cp_out_27_43 (by decide)).trans z2 | exact (cp_out_27_43 (by decide)).trans z3 | exact (cp_out_27_43 (by decide)).trans z4) (ev_ix_nI (by omega)) (by omega) ?_
    refine ev_iastP 5 (j := k) dX8_copy_77 (by rfl) (by rfl) (ev_ix_nI (by omega)) (by omega) (by rfl) (by rfl) ?_
    refine ev_iinc (v := nI (k + 1)) dX8_copy_78 rfl (nI_1 k) (Nat.le_of_ble_eq_true rfl) rfl ?_
    refine ev_goto (tgt := 10) dX8_copy_81 (by decide) ?_
    refine ev_mem ?_ (ih (k + 1) (by omega))
    rw [← fl_mix_S (k := k) (V := f0) (q := g0), ← fl_mix_S (k := k) (V := f1) (q := g1), ← fl_mix_S (k := k) (V := f2) (q := g2), ← fl_mix_S (k := k) (V := f3) (q := g3), ← fl_mix_S (k := k) (V := f4) (q := g4)]
    rfl
theorem c8_copy_27_43 {G : ev_G} {n : Nat} {M : ev_M} {up dn : Int64} {f0 f1 f2 f3 f4 f5 f6 : Nat → Int32} {sz : Nat} (hz : M (43) = .inr (8, [.ref (43 + 1), .ref (43 + 2), .ref (43 + 3), .ref (43 + 4), .ref (43 + 5), .ref (43 + 6), .ref (43 + 7), .long up, .long dn, .int (nI sz)])) (z0 : M (43 + 1) = .inl (0, 60, .inl f0)) (z1 : M (43 + 2) = .inl (0, 60, .inl f1)) (z2 : M (43 + 3) = .inl (0, 60, .inl f2)) (z3 : M (43 + 4) = .inl (0, 60, .inl f3)) (z4 : M (43 + 5) = .inl (0, 60, .inl f4)) (z5 : M (43 + 6) = .inl (0, 12, .inl f5)) (z6 : M (43 + 7) = .inl (0, 12, .inl f6)) {up2 dn2 : Int64} {x : Int32} {g0 g1 g2 g3 g4 : Nat → Int32} (hy : M 27 = .inr (8, [.ref (27 + 1), .ref (27 + 2), .ref (27 + 3), .ref (27 + 4), .ref (27 + 5), .ref (27 + 6), .ref (27 + 7), .long up2, .long dn2, .int (x)])) (y0 : M (27 + 1) = .inl (0, 60, .inl g0)) (y1 : M (27 + 2) = .inl (0, 60, .inl g1)) (y2 : M (27 + 3) = .inl (0, 60, .inl g2)) (y3 : M (27 + 4) = .inl (0, 60, .inl g3)) (y4 : M (27 + 5) = .inl (0, 60, .inl g4)) (hsz : sz ≤ 60)  : ev_Cal G mX8_copy 1 0 0 [.ref 27, .ref 43] n M (ev_is none (ev_ml M [(27, .inr (8, [.ref (27 + 1), .ref (27 + 2), .ref (27 + 3), .ref (27 + 4), .ref (27 + 5), .ref (27 + 6), .ref (27 + 7), .long up2, .long dn2, .int (nI sz)])), (27 + 1, .inl (0, 60, .inl (fl_mix (sz) f0 g0))), (27 + 2, .inl (0, 60, .inl (fl_mix (sz) f1 g1))), (27 + 3, .inl (0, 60, .inl (fl_mix (sz) f2 g2))), (27 + 4, .inl (0, 60, .inl (fl_mix (sz) f3 g3))), (27 + 5, .inl (0, 60, .inl (fl_mix (sz) f4 g4)))])) := by
  refine ev_Cal_of (L := [some (.ref 27), some (.ref 43), none]) (by decide +kernel) (Nat.le_of_ble_eq_true rfl) rfl ?_
  refine ev_track (l := [(27, .inr (8, [.ref (27 + 1), .ref (27 + 2), .ref (27 + 3), .ref (27 + 4), .ref (27 + 5), .ref (27 + 6), .ref (27 + 7), .long up2, .long dn2, .int (x)])), (27 + 1, .inl (0, 60, .inl g0)), (27 + 2, .inl (0, 60, .inl g1)), (27 + 3, .inl (0, 60, .inl g2)), (27 + 4, .inl (0, 60, .inl g3)), (27 + 5, .inl (0, 60, .inl g4))]) (ev_fa1 hy (ev_fa1 y0 (ev_fa1 y1 (ev_fa1 y2 (ev_fa1 y3 (ev_fa1 y4 ev_fa0)))))) ?_
  refine ev_aload_n (i := 0) dX8_copy_0 rfl rfl ?_
  refine ev_aload_n (i := 1) dX8_copy_1 rfl rfl ?_
  refine ev_getf dX8_copy_2 flX8_33 (by first | rfl | exact (cp_out_27_43 (by decide)).trans hz | exact (cp_out_27_43 (by decide)).trans z0 | exact (cp_out_27_43 (by decide)).trans z1 | exact (cp_out_27_43 (by decide)).trans z2 | exact (cp_out_27_43 (by decide)).trans z3 | exact (cp_out_27_43 (by decide)).trans z4) (by rfl) ?_
  refine ev_putiP 0 dX8_copy_5 fpX8_33 (by rfl) (by rfl) (Nat.le_of_ble_eq_true rfl) (by rfl) (by rfl) ?_
  refine ev_iconst (v := 0) dX8_copy_8 cni_0 ?_
  refine ev_istore_n (i := 2) dX8_copy_9 rfl (Nat.le_of_ble_eq_true rfl) rfl ?_
  refine ev_mem ?_ (l8_copy_27_43 hz z0 z1 z2 z3 z4 z5 z6 hy y0 y1 y2 y3 y4 hsz sz 0 (Nat.zero_add _))
  rw [fl_mix_0, fl_mix_0, fl_mix_0, fl_mix_0, fl_mix_0]
  rfl
theorem cp_out_27_65 {M : ev_M} {a : Nat} {x0 x1 x2 x3 x4 x5 : ev_MC} (h : a < 27 ∨ 32 < a) : ev_ml M [(27, x0), (27 + 1, x1), (27 + 2, x2), (27 + 3, x3), (27 + 4, x4), (27 + 5, x5)] a = M a := ev_ml_out _ (by simp only [List.map_cons, List.map_nil, List.mem_cons, List.not_mem_nil, or_false, not_or]; omega)
theorem l8_copy_27_65 {G : ev_G} {n : Nat} {M : ev_M} {up dn : Int64} {f0 f1 f2 f3 f4 f5 f6 : Nat → Int32} {sz : Nat} (hz : M (65) = .inr (8, [.ref (65 + 1), .ref (65 + 2), .ref (65 + 3), .ref (65 + 4), .ref (65 + 5), .ref (65 + 6), .ref (65 + 7), .long up, .long dn, .int (nI sz)])) (z0 : M (65 + 1) = .inl (0, 60, .inl f0)) (z1 : M (65 + 2) = .inl (0, 60, .inl f1)) (z2 : M (65 + 3) = .inl (0, 60, .inl f2)) (z3 : M (65 + 4) = .inl (0, 60, .inl f3)) (z4 : M (65 + 5) = .inl (0, 60, .inl f4)) (z5 : M (65 + 6) = .inl (0, 12, .inl f5)) (z6 : M (65 + 7) = .inl (0, 12, .inl f6)) {up2 dn2 : Int64} {x : Int32} {g0 g1 g2 g3 g4 : Nat → Int32} (hy : M 27 = .inr (8, [.ref (27 + 1), .ref (27 + 2), .ref (27 + 3), .ref (27 + 4), .ref (27 + 5), .ref (27 + 6), .ref (27 + 7), .long up2, .long dn2, .int (x)])) (y0 : M (27 + 1) = .inl (0, 60, .inl g0)) (y1 : M (27 + 2) = .inl (0, 60, .inl g1)) (y2 : M (27 + 3) = .inl (0, 60, .inl g2)) (y3 : M (27 + 4) = .inl (0, 60, .inl g3)) (y4 : M (27 + 5) = .inl (0, 60, .inl g4)) (hsz : sz ≤ 60) : ∀ (m k : Nat), k + m = sz → ev_E G mX8_copy 1 0 0 n (ev_ml M [(27, .inr (8, [.ref (27 + 1), .ref (27 + 2), .ref (27 + 3), .ref (27 + 4), .ref (27 + 5), .ref (27 + 6), .ref (27 + 7), .long up2, .long dn2, .int (nI sz)])), (27 + 1, .inl (0, 60, .inl (fl_mix (k) f0 g0))), (27 + 2, .inl (0, 60, .inl (fl_mix (k) f1 g1))), (27 + 3, .inl (0, 60, .inl (fl_mix (k) f2 g2))), (27 + 4, .inl (0, 60, .inl (fl_mix (k) f3 g3))), (27 + 5, .inl (0, 60, .inl (fl_mix (k) f4 g4)))]) 10 [some (.ref 27), some (.ref 65), some (.int (nI k))] [] (ev_is none (ev_ml M [(27, .inr (8, [.ref (27 + 1), .ref (27 + 2), .ref (27 + 3), .ref (27 + 4), .ref (27 + 5), .ref (27 + 6), .ref (27 + 7), .long up2, .long dn2, .int (nI sz)])), (27 + 1, .inl (0, 60, .inl (fl_mix (sz) f0 g0))), (27 + 2, .inl (0, 60, .inl (fl_mix (sz) f1 g1))), (27 + 3, .inl (0, 60, .inl (fl_mix (sz) f2 g2))), (27 + 4, .inl (0, 60, .inl (fl_mix (sz) f3 g3))), (27 + 5, .inl (0, 60, .inl (fl_mix (sz) f4 g4)))])) := by
  intro m
  induction m with
  | zero =>
    intro k hk
    refine ev_iload_n (i := 2) dX8_copy_10 rfl rfl ?_
    refine ev_aload_n (i := 0) dX8_copy_11 rfl rfl ?_
    refine ev_getf dX8_copy_12 flX8_33 (by first | rfl | exact (cp_out_27_65 (by decide)).trans hz | exact (cp_out_27_65 (by decide)).trans z0 | exact (cp_out_27_65 (by decide)).trans z1 | exact (cp_out_27_65 (by decide)).trans z2 | exact (cp_out_27_65 (by decide)).trans z3 | exact (cp_out_27_65 (by decide)).trans z4) (by rfl) ?_
    refine ev_icmp_ge (tgt := 84) dX8_copy_15 (by decide) (fun h15 => ?_) (fun h15 => False.elim (nI_nlt (a := k) (b := sz) (by omega) (by omega) h15))
    obtain rfl : k = sz := by omega
    exact ev_retv dX8_copy_84 rfl (⟨rfl, rfl⟩)
  | succ m ih =>
    intro k hk
    refine ev_iload_n (i := 2) dX8_copy_10 rfl rfl ?_
    refine ev_aload_n (i := 0) dX8_copy_11 rfl rfl ?_
    refine ev_getf dX8_copy_12 flX8_33 (by first | rfl | exact (cp_out_27_65 (by decide)).trans hz | exact (cp_out_27_65 (by decide)).trans z0 | exact (cp_out_27_65 (by decide)).trans z1 | exact (cp_out_27_65 (by decide)).trans z2 | exact (cp_out_27_65 (by decide)).trans z3 | exact (cp_out_27_65 (by decide)).trans z4) (by rfl) ?_
    refine ev_icmp_ge (tgt := 84) dX8_copy_15 (by decide) (fun h15 => False.elim (nI_ge (a := k) (b := sz) (by omega) (by omega) h15)) (fun h15 => ?_)
    refine ev_aload_n (i := 0) dX8_copy_18 rfl rfl ?_
    refine ev_getf dX8_copy_19 flX8_9 (by first | rfl | exact (cp_out_27_65 (by decide)).trans hz | exact (cp_out_27_65 (by decide)).trans z0 | exact (cp_out_27_65 (by decide)).trans z1 | exact (cp_out_27_65 (by decide)).trans z2 | exact (cp_out_27_65 (by decide)).trans z3 | exact (cp_out_27_65 (by decide)).trans z4) (by rfl) ?_
    refine ev_iload_n (i := 2) dX8_copy_22 rfl rfl ?_
    refine ev_aload_n (i := 1) dX8_copy_23 rfl rfl ?_
    refine ev_getf dX8_copy_24 flX8_9 (by first | rfl | exact (cp_out_27_65 (by decide)).trans hz | exact (cp_out_27_65 (by decide)).trans z0 | exact (cp_out_27_65 (by decide)).trans z1 | exact (cp_out_27_65 (by decide)).trans z2 | exact (cp_out_27_65 (by decide)).trans z3 | exact (cp_out_27_65 (by decide)).trans z4) (by rfl) ?_
    refine ev_iload_n (i := 2) dX8_copy_27 rfl rfl ?_
    refine ev_iald (j := k) dX8_copy_28 (by first | rfl | exact (cp_out_27_65 (by decide)).trans hz | exact (cp_out_27_65 (by decide)).trans z0 | exact (cp_out_27_65 (by decide)).trans z1 | exact (cp_out_27_65 (by decide)).trans z2 | exact (cp_out_27_65 (by decide)).trans z3 | exact (cp_out_27_65 (by decide)).trans z4) (ev_ix_nI (by omega)) (by omega) ?_
    refine ev_iastP 1 (j := k) dX8_copy_29 (by rfl) (by rfl) (ev_ix_nI (by omega)) (by omega) (by rfl) (by rfl) ?_
    refine ev_aload_n (i := 0) dX8_copy_30 rfl rfl ?_
    refine ev_getf dX8_copy_31 flX8_15 (by first | rfl | exact (cp_out_27_65 (by decide)).trans hz | exact (cp_out_27_65 (by decide)).trans z0 | exact (cp_out_27_65 (by decide)).trans z1 | exact (cp_out_27_65 (by decide)).trans z2 | exact (cp_out_27_65 (by decide)).trans z3 | exact (cp_out_27_65 (by decide)).trans z4) (by rfl) ?_
    refine ev_iload_n (i := 2) dX8_copy_34 rfl rfl ?_
    refine ev_aload_n (i := 1) dX8_copy_35 rfl rfl ?_
    refine ev_getf dX8_copy_36 flX8_15 (by first | rfl | exact (cp_out_27_65 (by decide)).trans hz | exact (cp_out_27_65 (by decide)).trans z0 | exact (cp_out_27_65 (by decide)).trans z1 | exact (cp_out_27_65 (by decide)).trans z2 | exact (cp_out_27_65 (by decide)).trans z3 | exact (cp_out_27_65 (by decide)).trans z4) (by rfl) ?_
    refine ev_iload_n (i := 2) dX8_copy_39 rfl rfl ?_
    refine ev_iald (j := k) dX8_copy_40 (by first | rfl | exact (cp_out_27_65 (by decide)).trans hz | exact (cp_out_27_65 (by decide)).trans z0 | exact (cp_out_27_65 (by decide)).trans z1 | exact (cp_out_27_65 (by decide)).trans z2 | exact (cp_out_27_65 (by decide)).trans z3 | exact (cp_out_27_65 (by decide)).trans z4) (ev_ix_nI (by omega)) (by omega) ?_
    refine ev_iastP 2 (j := k) dX8_copy_41 (by rfl) (by rfl) (ev_ix_nI (by omega)) (by omega) (by rfl) (by rfl) ?_
    refine ev_aload_n (i := 0) dX8_copy_42 rfl rfl ?_
    refine ev_getf dX8_copy_43 flX8_18 (by first | rfl | exact (cp_out_27_65 (by decide)).trans hz | exact (cp_out_27_65 (by decide)).trans z0 | exact (cp_out_27_65 (by decide)).trans z1 | exact (cp_out_27_65 (by decide)).trans z2 | exact (cp_out_27_65 (by decide)).trans z3 | exact (cp_out_27_65 (by decide)).trans z4) (by rfl) ?_
    refine ev_iload_n (i := 2) dX8_copy_46 rfl rfl ?_
    refine ev_aload_n (i := 1) dX8_copy_47 rfl rfl ?_
    refine ev_getf dX8_copy_48 flX8_18 (by first | rfl | exact (cp_out_27_65 (by decide)).trans hz | exact (cp_out_27_65 (by decide)).trans z0 | exact (cp_out_27_65 (by decide)).trans z1 | exact (cp_out_27_65 (by decide)).trans z2 | exact (cp_out_27_65 (by decide)).trans z3 | exact (cp_out_27_65 (by decide)).trans z4) (by rfl) ?_
    refine ev_iload_n (i := 2) dX8_copy_51 rfl rfl ?_
    refine ev_iald (j := k) dX8_copy_52 (by first | rfl | exact (cp_out_27_65 (by decide)).trans hz | exact (cp_out_27_65 (by decide)).trans z0 | exact (cp_out_27_65 (by decide)).trans z1 | exact (cp_out_27_65 (by decide)).trans z2 | exact (cp_out_27_65 (by decide)).trans z3 | exact (cp_out_27_65 (by decide)).trans z4) (ev_ix_nI (by omega)) (by omega) ?_
    refine ev_iastP 3 (j := k) dX8_copy_53 (by rfl) (by rfl) (ev_ix_nI (by omega)) (by omega) (by rfl) (by rfl) ?_
    refine ev_aload_n (i := 0) dX8_copy_54 rfl rfl ?_
    refine ev_getf dX8_copy_55 flX8_21 (by first | rfl | exact (cp_out_27_65 (by decide)).trans hz | exact (cp_out_27_65 (by decide)).trans z0 | exact (cp_out_27_65 (by decide)).trans z1 | exact (cp_out_27_65 (by decide)).trans z2 | exact (cp_out_27_65 (by decide)).trans z3 | exact (cp_out_27_65 (by decide)).trans z4) (by rfl) ?_
    refine ev_iload_n (i := 2) dX8_copy_58 rfl rfl ?_
    refine ev_aload_n (i := 1) dX8_copy_59 rfl rfl ?_
    refine ev_getf dX8_copy_60 flX8_21 (by first | rfl | exact (cp_out_27_65 (by decide)).trans hz | exact (cp_out_27_65 (by decide)).trans z0 | exact (cp_out_27_65 (by decide)).trans z1 | exact (cp_out_27_65 (by decide)).trans z2 | exact (cp_out_27_65 (by decide)).trans z3 | exact (cp_out_27_65 (by decide)).trans z4) (by rfl) ?_
    refine ev_iload_n (i := 2) dX8_copy_63 rfl rfl ?_
    refine ev_iald (j := k) dX8_copy_64 (by first | rfl | exact (cp_out_27_65 (by decide)).trans hz | exact (cp_out_27_65 (by decide)).trans z0 | exact (cp_out_27_65 (by decide)).trans z1 | exact (cp_out_27_65 (by decide)).trans z2 | exact (cp_out_27_65 (by decide)).trans z3 | exact (cp_out_27_65 (by decide)).trans z4) (ev_ix_nI (by omega)) (by omega) ?_
    refine ev_iastP 4 (j := k) dX8_copy_65 (by rfl) (by rfl) (ev_ix_nI (by omega)) (by omega) (by rfl) (by rfl) ?_
    refine ev_aload_n (i := 0) dX8_copy_66 rfl rfl ?_
    refine ev_getf dX8_copy_67 flX8_24 (by first | rfl | exact (cp_out_27_65 (by decide)).trans hz | exact (cp_out_27_65 (by decide)).trans z0 | exact (cp_out_27_65 (by decide)).trans z1 | exact (cp_out_27_65 (by decide)).trans z2 | exact (cp_out_27_65 (by decide)).trans z3 | exact (cp_out_27_65 (by decide)).trans z4) (by rfl) ?_
    refine ev_iload_n (i := 2) dX8_copy_70 rfl rfl ?_
    refine ev_aload_n (i := 1) dX8_copy_71 rfl rfl ?_
    refine ev_getf dX8_copy_72 flX8_24 (by first | rfl | exact (cp_out_27_65 (by decide)).trans hz | exact (cp_out_27_65 (by decide)).trans z0 | exact (cp_out_27_65 (by decide)).trans z1 | exact (cp_out_27_65 (by decide)).trans z2 | exact (cp_out_27_65 (by decide)).trans z3 | exact (cp_out_27_65 (by decide)).trans z4) (by rfl) ?_
    refine ev_iload_n (i := 2) dX8_copy_75 rfl rfl ?_
    refine ev_iald (j := k) dX8_copy_76 (by first | rfl | exact (cp_out_27_65 (by decide)).trans hz | exact (cp_out_27_65 (by decide)).trans z0 | exact (cp_out_27_65 (by decide)).trans z1 | exact (cp_out_27_65 (by decide)).trans z2 | exact (cp_out_27_65 (by decide)).trans z3 | exact (cp_out_27_65 (by decide)).trans z4) (ev_ix_nI (by omega)) (by omega) ?_
    refine ev_iastP 5 (j := k) dX8_copy_77 (by rfl) (by rfl) (ev_ix_nI (by omega)) (by omega) (by rfl) (by rfl) ?_
    refine ev_iinc (v := nI (k + 1)) dX8_copy_78 rfl (nI_1 k) (Nat.le_of_ble_eq_true rfl) rfl ?_
    refine ev_goto (tgt := 10) dX8_copy_81 (by decide) ?_
    refine ev_mem ?_ (ih (k + 1) (by omega))
    rw [← fl_mix_S (k := k) (V := f0) (q := g0), ← fl_mix_S (k := k) (V := f1) (q := g1), ← fl_mix_S (k := k) (V := f2) (q := g2), ← fl_mix_S (k := k) (V := f3) (q := g3), ← fl_mix_S (k := k) (V := f4) (q := g4)]
    rfl
theorem c8_copy_27_65 {G : ev_G} {n : Nat} {M : ev_M} {up dn : Int64} {f0 f1 f2 f3 f4 f5 f6 : Nat → Int32} {sz : Nat} (hz : M (65) = .inr (8, [.ref (65 + 1), .ref (65 + 2), .ref (65 + 3), .ref (65 + 4), .ref (65 + 5), .ref (65 + 6), .ref (65 + 7), .long up, .long dn, .int (nI sz)])) (z0 : M (65 + 1) = .inl (0, 60, .inl f0)) (z1 : M (65 + 2) = .inl (0, 60, .inl f1)) (z2 : M (65 + 3) = .inl (0, 60, .inl f2)) (z3 : M (65 + 4) = .inl (0, 60, .inl f3)) (z4 : M (65 + 5) = .inl (0, 60, .inl f4)) (z5 : M (65 + 6) = .inl (0, 12, .inl f5)) (z6 : M (65 + 7) = .inl (0, 12, .inl f6)) {up2 dn2 : Int64} {x : Int32} {g0 g1 g2 g3 g4 : Nat → Int32} (hy : M 27 = .inr (8, [.ref (27 + 1), .ref (27 + 2), .ref (27 + 3), .ref (27 + 4), .ref (27 + 5), .ref (27 + 6), .ref (27 + 7), .long up2, .long dn2, .int (x)])) (y0 : M (27 + 1) = .inl (0, 60, .inl g0)) (y1 : M (27 + 2) = .inl (0, 60, .inl g1)) (y2 : M (27 + 3) = .inl (0, 60, .inl g2)) (y3 : M (27 + 4) = .inl (0, 60, .inl g3)) (y4 : M (27 + 5) = .inl (0, 60, .inl g4)) (hsz : sz ≤ 60)  : ev_Cal G mX8_copy 1 0 0 [.ref 27, .ref 65] n M (ev_is none (ev_ml M [(27, .inr (8, [.ref (27 + 1), .ref (27 + 2), .ref (27 + 3), .ref (27 + 4), .ref (27 + 5), .ref (27 + 6), .ref (27 + 7), .long up2, .long dn2, .int (nI sz)])), (27 + 1, .inl (0, 60, .inl (fl_mix (sz) f0 g0))), (27 + 2, .inl (0, 60, .inl (fl_mix (sz) f1 g1))), (27 + 3, .inl (0, 60, .inl (fl_mix (sz) f2 g2))), (27 + 4, .inl (0, 60, .inl (fl_mix (sz) f3 g3))), (27 + 5, .inl (0, 60, .inl (fl_mix (sz) f4 g4)))])) := by
  refine ev_Cal_of (L := [some (.ref 27), some (.ref 65), none]) (by decide +kernel) (Nat.le_of_ble_eq_true rfl) rfl ?_
  refine ev_track (l := [(27, .inr (8, [.ref (27 + 1), .ref (27 + 2), .ref (27 + 3), .ref (27 + 4), .ref (27 + 5), .ref (27 + 6), .ref (27 + 7), .long up2, .long dn2, .int (x)])), (27 + 1, .inl (0, 60, .inl g0)), (27 + 2, .inl (0, 60, .inl g1)), (27 + 3, .inl (0, 60, .inl g2)), (27 + 4, .inl (0, 60, .inl g3)), (27 + 5, .inl (0, 60, .inl g4))]) (ev_fa1 hy (ev_fa1 y0 (ev_fa1 y1 (ev_fa1 y2 (ev_fa1 y3 (ev_fa1 y4 ev_fa0)))))) ?_
  refine ev_aload_n (i := 0) dX8_copy_0 rfl rfl ?_
  refine ev_aload_n (i := 1) dX8_copy_1 rfl rfl ?_
  refine ev_getf dX8_copy_2 flX8_33 (by first | rfl | exact (cp_out_27_65 (by decide)).trans hz | exact (cp_out_27_65 (by decide)).trans z0 | exact (cp_out_27_65 (by decide)).trans z1 | exact (cp_out_27_65 (by decide)).trans z2 | exact (cp_out_27_65 (by decide)).trans z3 | exact (cp_out_27_65 (by decide)).trans z4) (by rfl) ?_
  refine ev_putiP 0 dX8_copy_5 fpX8_33 (by rfl) (by rfl) (Nat.le_of_ble_eq_true rfl) (by rfl) (by rfl) ?_
  refine ev_iconst (v := 0) dX8_copy_8 cni_0 ?_
  refine ev_istore_n (i := 2) dX8_copy_9 rfl (Nat.le_of_ble_eq_true rfl) rfl ?_
  refine ev_mem ?_ (l8_copy_27_65 hz z0 z1 z2 z3 z4 z5 z6 hy y0 y1 y2 y3 y4 hsz sz 0 (Nat.zero_add _))
  rw [fl_mix_0, fl_mix_0, fl_mix_0, fl_mix_0, fl_mix_0]
  rfl
