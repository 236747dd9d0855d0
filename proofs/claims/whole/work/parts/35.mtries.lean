/-! ===== contracts: the model, tries and least ===== -/
/-- a stick's row behind so many cuts, scrapes, loads, turned or not -/
def tr_o (s : Nat → Int32) (t c q l : Int32) : Nat → Int32 := upd (upd (upd (upd (upd (upd s 0 (s 0 - c)) 2 (s 2 - q)) 3 (s 3 - q)) 1 (s 1 - 2 * q)) 4 (s 4 + 5 * l)) 6 (if t = 0 then s 6 else 1 - s 6)
def tr_ok (s : Nat → Int32) (c q l : Int32) : Bool := decide (80 ≤ s 0 - c) && ((decide (q ≤ 0) || (decide (20 ≤ s 2 - q) && decide (20 ≤ s 3 - q) && decide (200 ≤ s 1 - 2 * q))) && (decide (l ≤ 0) || decide (s 4 + 5 * l ≤ 200)))
theorem tr_ok_1 {s : Nat → Int32} {c q l : Int32} (h : s 0 - c < 80) : tr_ok s c q l = false := by unfold tr_ok; rw [decide_eq_false (Int32.not_le.mpr h), Bool.false_and]
theorem tr_ok_2 {s : Nat → Int32} {c q l : Int32} (h1 : 0 < q) (h2 : (decide (20 ≤ s 2 - q) && decide (20 ≤ s 3 - q) && decide (200 ≤ s 1 - 2 * q)) = false) : tr_ok s c q l = false := by unfold tr_ok; rw [h2, decide_eq_false (Int32.not_le.mpr h1), Bool.or_false, Bool.false_and, Bool.and_false]
theorem tr_ok_3 {s : Nat → Int32} {c q l : Int32} (h1 : 0 < l) (h2 : 200 < s 4 + 5 * l) : tr_ok s c q l = false := by unfold tr_ok; rw [decide_eq_false (Int32.not_le.mpr h1), decide_eq_false (Int32.not_le.mpr h2), Bool.or_false, Bool.and_false, Bool.and_false]
theorem tr_ok_y {s : Nat → Int32} {c q l : Int32} (h0 : 80 ≤ s 0 - c) (h1 : q ≤ 0 ∨ (decide (20 ≤ s 2 - q) && decide (20 ≤ s 3 - q) && decide (200 ≤ s 1 - 2 * q)) = true) (h2 : l ≤ 0 ∨ s 4 + 5 * l ≤ 200) : tr_ok s c q l = true := by
  unfold tr_ok
  rw [decide_eq_true h0, Bool.true_and]
  have e1 : (decide (q ≤ 0) || (decide (20 ≤ s 2 - q) && decide (20 ≤ s 3 - q) && decide (200 ≤ s 1 - 2 * q))) = true := by
    rcases h1 with h1 | h1
    · rw [decide_eq_true h1]; rfl
    · rw [h1, Bool.or_true]
  have e2 : (decide (l ≤ 0) || decide (s 4 + 5 * l ≤ 200)) = true := by
    rcases h2 with h2 | h2
    · rw [decide_eq_true h2]; rfl
    · rw [decide_eq_true h2, Bool.or_true]
  rw [e1, e2]; rfl
theorem tr_row {o2 s2 : Nat → Int32} {t c q l z : Int32} (ho : ∀ k, k < 7 → o2 k = s2 k) : ∀ k, k < 7 → z = (if t = 0 then o2 6 else 1 - o2 6) → upd (upd (upd (upd (upd (upd o2 0 (o2 0 - c)) 2 (o2 2 - q)) 3 (o2 3 - q)) 1 (o2 1 - 2 * q)) 4 (o2 4 + 5 * l)) 6 z k = tr_o s2 t c q l k := by
  intro k hk hz
  subst hz
  unfold tr_o
  rw [← ho 0 (by omega), ← ho 1 (by omega), ← ho 2 (by omega), ← ho 3 (by omega), ← ho 4 (by omega), ← ho 6 (by omega)]
  simp only [upd]
  repeat' split
  all_goals first | rfl | exact ho k hk
theorem l_tries {G : ev_G} {n : Nat} {M : ev_M} {tn c0 c1 c2 sh : Nat} {tx s kp bw ar tu : Nat → Int32} {k0 k1 : Bool} {tr : Int64} {one gof dof act : Nat → Int32} {sp of' ba go dr ki : Int32} {up dn : Int64} (hX1 : md_X M tn c0 c1 c2 sh tx s kp bw ar tu k0 k1 tr one gof dof act sp of' ba go dr ki up dn) {j : Nat} (hj : j < c0) (hc : c0 ≤ 12) {t c q l : Int32} (hok : tr_ok (fun q => s (7 * j + q)) c q l = true) : ev_E G mX12_tries 2 0 0 n M 67 [some (.ref 129), some (.int (nI j)), some (.int c), some (.int q), some (.int l), some (.int t), some (.int (nI (7 * j)))] [] (fun r M1 => r = some (.int (ev_b (tr_ok (fun q => s (7 * j + q)) c q l))) ∧ (tr_ok (fun q => s (7 * j + q)) c q l = true → ∃ o2 : Nat → Int32, (∀ k, k < 7 → o2 k = tr_o (fun q => s (7 * j + q)) t c q l k) ∧ md_X M1 tn c0 c1 c2 sh tx s kp bw ar tu k0 k1 tr o2 gof dof act sp of' ba go dr ki up dn) ∧ (tr_ok (fun q => s (7 * j + q)) c q l = false → md_X M1 tn c0 c1 c2 sh tx s kp bw ar tu k0 k1 tr one gof dof act sp of' ba go dr ki up dn) ∧ ∀ k, k < 129 → M1 k = M k) := by
  have hX := hX1
  obtain ⟨th, nx, tk, pl, va, fa, d0, d1, d2, dS, dB, dA, ik, h129, h130, h131, h132, h133, hk0, hk1, h134, h135, h136, h137, h138, h139, h140, h141, h142, h143, hsh⟩ := hX
  refine ev_aload_n (i := 0) dX12_tries_67 rfl rfl ?_
  refine ev_iload_n (i := 1) dX12_tries_68 rfl rfl ?_
  refine ev_d2 kX12_tries_69 (m_lays hX1 hj hc) (ev_rv_of (by assumption) rfl rfl) (by decide) (by decide) (Nat.le_of_ble_eq_true rfl) ?_
  intro r M2 hr
  obtain ⟨rfl, ⟨o2, ho, hX⟩, hf2⟩ := hr
  have hX0 := hX
  obtain ⟨th, nx, tk, pl, va, fa, d0, d1, d2, dS, dB, dA, ik, h129, h130, h131, h132, h133, hk0, hk1, h134, h135, h136, h137, h138, h139, h140, h141, h142, h143, hsh⟩ := hX
  refine ev_aload_n (i := 0) dX12_tries_72 rfl rfl ?_
  refine ev_getf dX12_tries_73 flX12_41 (by assumption) (by rfl) ?_
  refine ev_iconst (v := 0) dX12_tries_76 cni_0 ?_
  refine ev_dup2 dX12_tries_77 rfl rfl ?_
  refine ev_iald (j := 0) dX12_tries_78 (by assumption) (ev_ixc (j := 0) rfl (by decide)) (by decide) ?_
  refine ev_iload_n (i := 2) dX12_tries_79 rfl rfl ?_
  refine ev_isub dX12_tries_80 ?_
  refine md_st140 hX0 (j := 0) dX12_tries_81 (ev_ixc (j := 0) rfl (by decide)) (by decide) (fun M3 hX hf3 => ?_)
  have hX0 := hX
  obtain ⟨th, nx, tk, pl, va, fa, d0, d1, d2, dS, dB, dA, ik, h129, h130, h131, h132, h133, hk0, hk1, h134, h135, h136, h137, h138, h139, h140, h141, h142, h143, hsh⟩ := hX
  refine ev_aload_n (i := 0) dX12_tries_82 rfl rfl ?_
  refine ev_getf dX12_tries_83 flX12_41 (by assumption) (by rfl) ?_
  refine ev_iconst (v := 2) dX12_tries_86 cni_2 ?_
  refine ev_dup2 dX12_tries_87 rfl rfl ?_
  refine ev_iald (j := 2) dX12_tries_88 (by assumption) (ev_ixc (j := 2) rfl (by decide)) (by decide) ?_
  refine ev_iload_n (i := 3) dX12_tries_89 rfl rfl ?_
  refine ev_isub dX12_tries_90 ?_
  refine md_st140 hX0 (j := 2) dX12_tries_91 (ev_ixc (j := 2) rfl (by decide)) (by decide) (fun M4 hX hf4 => ?_)
  have hX0 := hX
  obtain ⟨th, nx, tk, pl, va, fa, d0, d1, d2, dS, dB, dA, ik, h129, h130, h131, h132, h133, hk0, hk1, h134, h135, h136, h137, h138, h139, h140, h141, h142, h143, hsh⟩ := hX
  refine ev_aload_n (i := 0) dX12_tries_92 rfl rfl ?_
  refine ev_getf dX12_tries_93 flX12_41 (by assumption) (by rfl) ?_
  refine ev_iconst (v := 3) dX12_tries_96 cni_3 ?_
  refine ev_dup2 dX12_tries_97 rfl rfl ?_
  refine ev_iald (j := 3) dX12_tries_98 (by assumption) (ev_ixc (j := 3) rfl (by decide)) (by decide) ?_
  refine ev_iload_n (i := 3) dX12_tries_99 rfl rfl ?_
  refine ev_isub dX12_tries_100 ?_
  refine md_st140 hX0 (j := 3) dX12_tries_101 (ev_ixc (j := 3) rfl (by decide)) (by decide) (fun M5 hX hf5 => ?_)
  have hX0 := hX
  obtain ⟨th, nx, tk, pl, va, fa, d0, d1, d2, dS, dB, dA, ik, h129, h130, h131, h132, h133, hk0, hk1, h134, h135, h136, h137, h138, h139, h140, h141, h142, h143, hsh⟩ := hX
  refine ev_aload_n (i := 0) dX12_tries_102 rfl rfl ?_
  refine ev_getf dX12_tries_103 flX12_41 (by assumption) (by rfl) ?_
  refine ev_iconst (v := 1) dX12_tries_106 cni_1 ?_
  refine ev_dup2 dX12_tries_107 rfl rfl ?_
  refine ev_iald (j := 1) dX12_tries_108 (by assumption) (ev_ixc (j := 1) rfl (by decide)) (by decide) ?_
  refine ev_iconst (v := 2) dX12_tries_109 cni_2 ?_
  refine ev_iload_n (i := 3) dX12_tries_110 rfl rfl ?_
  refine ev_imul dX12_tries_111 ?_
  refine ev_isub dX12_tries_112 ?_
  refine md_st140 hX0 (j := 1) dX12_tries_113 (ev_ixc (j := 1) rfl (by decide)) (by decide) (fun M6 hX hf6 => ?_)
  have hX0 := hX
  obtain ⟨th, nx, tk, pl, va, fa, d0, d1, d2, dS, dB, dA, ik, h129, h130, h131, h132, h133, hk0, hk1, h134, h135, h136, h137, h138, h139, h140, h141, h142, h143, hsh⟩ := hX
  refine ev_aload_n (i := 0) dX12_tries_114 rfl rfl ?_
  refine ev_getf dX12_tries_115 flX12_41 (by assumption) (by rfl) ?_
  refine ev_iconst (v := 4) dX12_tries_118 cni_4 ?_
  refine ev_dup2 dX12_tries_119 rfl rfl ?_
  refine ev_iald (j := 4) dX12_tries_120 (by assumption) (ev_ixc (j := 4) rfl (by decide)) (by decide) ?_
  refine ev_iconst (v := 5) dX12_tries_121 cni_5 ?_
  refine ev_iload dX12_tries_122 rfl ?_
  refine ev_imul dX12_tries_124 ?_
  refine ev_iadd dX12_tries_125 ?_
  refine md_st140 hX0 (j := 4) dX12_tries_126 (ev_ixc (j := 4) rfl (by decide)) (by decide) (fun M7 hX hf7 => ?_)
  have hX0 := hX
  obtain ⟨th, nx, tk, pl, va, fa, d0, d1, d2, dS, dB, dA, ik, h129, h130, h131, h132, h133, hk0, hk1, h134, h135, h136, h137, h138, h139, h140, h141, h142, h143, hsh⟩ := hX
  refine ev_aload_n (i := 0) dX12_tries_127 rfl rfl ?_
  refine ev_getf dX12_tries_128 flX12_41 (by assumption) (by rfl) ?_
  refine ev_bipush (v := 6) dX12_tries_131 cnb_6 ?_
  refine ev_iload dX12_tries_133 rfl ?_
  refine ev_if_ne (tgt := 148) dX12_tries_135 (by decide) (fun g135 => ?_) (fun g135 => ?_)
  · skip
    refine ev_iconst (v := 1) dX12_tries_148 cni_1 ?_
    refine ev_aload_n (i := 0) dX12_tries_149 rfl rfl ?_
    refine ev_getf dX12_tries_150 flX12_41 (by assumption) (by rfl) ?_
    refine ev_bipush (v := 6) dX12_tries_153 cnb_6 ?_
    refine ev_iald (j := 6) dX12_tries_155 (by assumption) (ev_ixc (j := 6) rfl (by decide)) (by decide) ?_
    refine ev_isub dX12_tries_156 ?_
    refine md_st140 hX0 (j := 6) dX12_tries_157 (ev_ixc (j := 6) rfl (by decide)) (by decide) (fun M8 hX hf8 => ?_)
    have hX0 := hX
    obtain ⟨th, nx, tk, pl, va, fa, d0, d1, d2, dS, dB, dA, ik, h129, h130, h131, h132, h133, hk0, hk1, h134, h135, h136, h137, h138, h139, h140, h141, h142, h143, hsh⟩ := hX
    refine ev_iconst (v := 1) dX12_tries_158 cni_1 ?_
    exact ev_reti dX12_tries_159 rfl rfl (⟨by rw [hok]; rfl, fun _ => ⟨_, fun k hk => tr_row ho k hk (by first | rw [if_pos g135]; rfl | rw [if_neg g135]; rfl), hX0⟩, fun z => absurd (z.symm.trans hok) (by decide), (fun k hk => (hf8 k hk).trans ((hf7 k hk).trans ((hf6 k hk).trans ((hf5 k hk).trans ((hf4 k hk).trans ((hf3 k hk).trans (hf2 k hk)))))))⟩)
  · skip
    refine ev_aload_n (i := 0) dX12_tries_138 rfl rfl ?_
    refine ev_getf dX12_tries_139 flX12_41 (by assumption) (by rfl) ?_
    refine ev_bipush (v := 6) dX12_tries_142 cnb_6 ?_
    refine ev_iald (j := 6) dX12_tries_144 (by assumption) (ev_ixc (j := 6) rfl (by decide)) (by decide) ?_
    refine ev_goto (tgt := 157) dX12_tries_145 (by decide) ?_
    refine md_st140 hX0 (j := 6) dX12_tries_157 (ev_ixc (j := 6) rfl (by decide)) (by decide) (fun M8 hX hf8 => ?_)
    have hX0 := hX
    obtain ⟨th, nx, tk, pl, va, fa, d0, d1, d2, dS, dB, dA, ik, h129, h130, h131, h132, h133, hk0, hk1, h134, h135, h136, h137, h138, h139, h140, h141, h142, h143, hsh⟩ := hX
    refine ev_iconst (v := 1) dX12_tries_158 cni_1 ?_
    exact ev_reti dX12_tries_159 rfl rfl (⟨by rw [hok]; rfl, fun _ => ⟨_, fun k hk => tr_row ho k hk (by first | rw [if_pos g135]; rfl | rw [if_neg g135]; rfl), hX0⟩, fun z => absurd (z.symm.trans hok) (by decide), (fun k hk => (hf8 k hk).trans ((hf7 k hk).trans ((hf6 k hk).trans ((hf5 k hk).trans ((hf4 k hk).trans ((hf3 k hk).trans (hf2 k hk)))))))⟩)
theorem m_tries {G : ev_G} {n : Nat} {M : ev_M} {tn c0 c1 c2 sh : Nat} {tx s kp bw ar tu : Nat → Int32} {k0 k1 : Bool} {tr : Int64} {one gof dof act : Nat → Int32} {sp of' ba go dr ki : Int32} {up dn : Int64} (hX1 : md_X M tn c0 c1 c2 sh tx s kp bw ar tu k0 k1 tr one gof dof act sp of' ba go dr ki up dn) {j : Nat} (hj : j < c0) (hc : c0 ≤ 12) {t c q l : Int32} : ev_Cal G mX12_tries 2 0 0 [.ref 129, .int (nI j), .int c, .int q, .int l, .int t] n M (fun r M1 => r = some (.int (ev_b (tr_ok (fun q => s (7 * j + q)) c q l))) ∧ (tr_ok (fun q => s (7 * j + q)) c q l = true → ∃ o2 : Nat → Int32, (∀ k, k < 7 → o2 k = tr_o (fun q => s (7 * j + q)) t c q l k) ∧ md_X M1 tn c0 c1 c2 sh tx s kp bw ar tu k0 k1 tr o2 gof dof act sp of' ba go dr ki up dn) ∧ (tr_ok (fun q => s (7 * j + q)) c q l = false → md_X M1 tn c0 c1 c2 sh tx s kp bw ar tu k0 k1 tr one gof dof act sp of' ba go dr ki up dn) ∧ ∀ k, k < 129 → M1 k = M k) := by
  refine ev_Cal_of (L := [some (.ref 129), some (.int (nI j)), some (.int c), some (.int q), some (.int l), some (.int t), none]) (by decide +kernel) (Nat.le_of_ble_eq_true rfl) rfl ?_
  have hX := hX1
  obtain ⟨th, nx, tk, pl, va, fa, d0, d1, d2, dS, dB, dA, ik, h129, h130, h131, h132, h133, hk0, hk1, h134, h135, h136, h137, h138, h139, h140, h141, h142, h143, hsh⟩ := hX
  refine ev_bipush (v := 7) dX12_tries_0 cnb_7 ?_
  refine ev_iload_n (i := 1) dX12_tries_2 rfl rfl ?_
  refine ev_imul dX12_tries_3 ?_
  refine ev_topi (nI_mul 7 j) ?_
  refine ev_istore dX12_tries_4 (Nat.le_of_ble_eq_true rfl) rfl ?_
  refine ev_aload_n (i := 0) dX12_tries_6 rfl rfl ?_
  refine ev_getf dX12_tries_7 flX12_13 (by assumption) (by rfl) ?_
  refine ev_iload dX12_tries_10 rfl ?_
  refine ev_iconst (v := 0) dX12_tries_12 cni_0 ?_
  refine ev_iadd dX12_tries_13 ?_
  refine ev_iald (j := 7 * j + 0) dX12_tries_14 (by assumption) (ev_ixa (7 * j) 0 (by omega)) (by omega) ?_
  refine ev_iload_n (i := 2) dX12_tries_15 rfl rfl ?_
  refine ev_isub dX12_tries_16 ?_
  refine ev_bipush (v := 80) dX12_tries_17 cnb_80 ?_
  refine ev_icmp_lt (tgt := 65) dX12_tries_19 (by decide) (fun h19 => ?_) (fun h19 => ?_)
  · skip
    refine ev_iconst (v := 0) dX12_tries_65 cni_0 ?_
    exact ev_reti dX12_tries_66 rfl rfl (⟨by rw [show tr_ok (fun q => s (7 * j + q)) c q l = false from by first | exact tr_ok_1 h19 | exact tr_ok_2 h23 h37 | exact tr_ok_3 h42 h62]; rfl, fun z => absurd (z.symm.trans (show tr_ok (fun q => s (7 * j + q)) c q l = false from by first | exact tr_ok_1 h19 | exact tr_ok_2 h23 h37 | exact tr_ok_3 h42 h62)) (by decide), fun _ => hX1, fun _ _ => rfl⟩)
  · skip
    refine ev_iload_n (i := 3) dX12_tries_22 rfl rfl ?_
    refine ev_if_le (tgt := 40) dX12_tries_23 (by decide) (fun h23 => ?_) (fun h23 => ?_)
    · skip
      refine ev_iload dX12_tries_40 rfl ?_
      refine ev_if_le (tgt := 67) dX12_tries_42 (by decide) (fun h42 => ?_) (fun h42 => ?_)
      · skip
        exact l_tries hX1 hj hc (tr_ok_y (Int32.not_lt.mp (Int32.not_lt.mpr h19)) (by first | exact Or.inl h23 | exact Or.inr h37) (by first | exact Or.inl h42 | exact Or.inr h62))
      · skip
        refine ev_aload_n (i := 0) dX12_tries_45 rfl rfl ?_
        refine ev_getf dX12_tries_46 flX12_13 (by assumption) (by rfl) ?_
        refine ev_iload dX12_tries_49 rfl ?_
        refine ev_iconst (v := 4) dX12_tries_51 cni_4 ?_
        refine ev_iadd dX12_tries_52 ?_
        refine ev_iald (j := 7 * j + 4) dX12_tries_53 (by assumption) (ev_ixa (7 * j) 4 (by omega)) (by omega) ?_
        refine ev_iconst (v := 5) dX12_tries_54 cni_5 ?_
        refine ev_iload dX12_tries_55 rfl ?_
        refine ev_imul dX12_tries_57 ?_
        refine ev_iadd dX12_tries_58 ?_
        refine ev_sipush (v := 200) dX12_tries_59 cns_200 ?_
        refine ev_icmp_le (tgt := 67) dX12_tries_62 (by decide) (fun h62 => ?_) (fun h62 => ?_)
        · skip
          exact l_tries hX1 hj hc (tr_ok_y (Int32.not_lt.mp (Int32.not_lt.mpr h19)) (by first | exact Or.inl h23 | exact Or.inr h37) (by first | exact Or.inl h42 | exact Or.inr h62))
        · skip
          refine ev_iconst (v := 0) dX12_tries_65 cni_0 ?_
          exact ev_reti dX12_tries_66 rfl rfl (⟨by rw [show tr_ok (fun q => s (7 * j + q)) c q l = false from by first | exact tr_ok_1 h19 | exact tr_ok_2 h23 h37 | exact tr_ok_3 h42 h62]; rfl, fun z => absurd (z.symm.trans (show tr_ok (fun q => s (7 * j + q)) c q l = false from by first | exact tr_ok_1 h19 | exact tr_ok_2 h23 h37 | exact tr_ok_3 h42 h62)) (by decide), fun _ => hX1, fun _ _ => rfl⟩)
    · skip
      refine ev_aload_n (i := 0) dX12_tries_26 rfl rfl ?_
      refine ev_aload_n (i := 0) dX12_tries_27 rfl rfl ?_
      refine ev_getf dX12_tries_28 flX12_13 (by assumption) (by rfl) ?_
      refine ev_iload dX12_tries_31 rfl ?_
      refine ev_iload_n (i := 3) dX12_tries_33 rfl rfl ?_
      refine ev_c4 kX12_tries_34 (c13_mayScrape h131 (by omega)) (ev_rv_of (by assumption) rfl rfl) (by decide) (by decide) (Nat.le_of_ble_eq_true rfl) ?_
      refine ev_if_eqb (tgt := 65) dX12_tries_37 (by decide) (fun h37 => ?_) (fun h37 => ?_)
      · skip
        refine ev_iconst (v := 0) dX12_tries_65 cni_0 ?_
        exact ev_reti dX12_tries_66 rfl rfl (⟨by rw [show tr_ok (fun q => s (7 * j + q)) c q l = false from by first | exact tr_ok_1 h19 | exact tr_ok_2 h23 h37 | exact tr_ok_3 h42 h62]; rfl, fun z => absurd (z.symm.trans (show tr_ok (fun q => s (7 * j + q)) c q l = false from by first | exact tr_ok_1 h19 | exact tr_ok_2 h23 h37 | exact tr_ok_3 h42 h62)) (by decide), fun _ => hX1, fun _ _ => rfl⟩)
      · skip
        refine ev_iload dX12_tries_40 rfl ?_
        refine ev_if_le (tgt := 67) dX12_tries_42 (by decide) (fun h42 => ?_) (fun h42 => ?_)
        · skip
          exact l_tries hX1 hj hc (tr_ok_y (Int32.not_lt.mp (Int32.not_lt.mpr h19)) (by first | exact Or.inl h23 | exact Or.inr h37) (by first | exact Or.inl h42 | exact Or.inr h62))
        · skip
          refine ev_aload_n (i := 0) dX12_tries_45 rfl rfl ?_
          refine ev_getf dX12_tries_46 flX12_13 (by assumption) (by rfl) ?_
          refine ev_iload dX12_tries_49 rfl ?_
          refine ev_iconst (v := 4) dX12_tries_51 cni_4 ?_
          refine ev_iadd dX12_tries_52 ?_
          refine ev_iald (j := 7 * j + 4) dX12_tries_53 (by assumption) (ev_ixa (7 * j) 4 (by omega)) (by omega) ?_
          refine ev_iconst (v := 5) dX12_tries_54 cni_5 ?_
          refine ev_iload dX12_tries_55 rfl ?_
          refine ev_imul dX12_tries_57 ?_
          refine ev_iadd dX12_tries_58 ?_
          refine ev_sipush (v := 200) dX12_tries_59 cns_200 ?_
          refine ev_icmp_le (tgt := 67) dX12_tries_62 (by decide) (fun h62 => ?_) (fun h62 => ?_)
          · skip
            exact l_tries hX1 hj hc (tr_ok_y (Int32.not_lt.mp (Int32.not_lt.mpr h19)) (by first | exact Or.inl h23 | exact Or.inr h37) (by first | exact Or.inl h42 | exact Or.inr h62))
          · skip
            refine ev_iconst (v := 0) dX12_tries_65 cni_0 ?_
            exact ev_reti dX12_tries_66 rfl rfl (⟨by rw [show tr_ok (fun q => s (7 * j + q)) c q l = false from by first | exact tr_ok_1 h19 | exact tr_ok_2 h23 h37 | exact tr_ok_3 h42 h62]; rfl, fun z => absurd (z.symm.trans (show tr_ok (fun q => s (7 * j + q)) c q l = false from by first | exact tr_ok_1 h19 | exact tr_ok_2 h23 h37 | exact tr_ok_3 h42 h62)) (by decide), fun _ => hX1, fun _ _ => rfl⟩)
/-- what the model asks of one try -/
def mt_P (tu s : Nat → Int32) (dr wi a b : Int32) (t c q l : Nat) : Bool := tr_ok s (nI c) (nI q) (nI l) && (sp_in (tr_o s (nI t) (nI c) (nI q) (nI l) 1 + tr_o s (nI t) (nI c) (nI q) (nI l) 4) a b && decide (fx_ki tu (tr_o s (nI t) (nI c) (nI q) (nI l)) dr wi = 1))
theorem mt_P_1 {tu s : Nat → Int32} {dr wi a b : Int32} {t c q l : Nat} (h : tr_ok s (nI c) (nI q) (nI l) = false) : mt_P tu s dr wi a b t c q l = false := by unfold mt_P; rw [h]; rfl
theorem mt_P_2 {tu s : Nat → Int32} {dr wi a b : Int32} {t c q l : Nat} (h : sp_in (tr_o s (nI t) (nI c) (nI q) (nI l) 1 + tr_o s (nI t) (nI c) (nI q) (nI l) 4) a b = false) : mt_P tu s dr wi a b t c q l = false := by unfold mt_P; rw [h, Bool.false_and, Bool.and_false]
theorem mt_P_3 {tu s : Nat → Int32} {dr wi a b : Int32} {t c q l : Nat} (h : ¬ fx_ki tu (tr_o s (nI t) (nI c) (nI q) (nI l)) dr wi = 1) : mt_P tu s dr wi a b t c q l = false := by unfold mt_P; rw [decide_eq_false h, Bool.and_false, Bool.and_false]
theorem mt_P_y {tu s : Nat → Int32} {dr wi a b : Int32} {t c q l : Nat} (h1 : tr_ok s (nI c) (nI q) (nI l) = true) (h2 : sp_in (tr_o s (nI t) (nI c) (nI q) (nI l) 1 + tr_o s (nI t) (nI c) (nI q) (nI l) 4) a b = true) (h3 : fx_ki tu (tr_o s (nI t) (nI c) (nI q) (nI l)) dr wi = 1) : mt_P tu s dr wi a b t c q l = true := by unfold mt_P; rw [h1, h2, decide_eq_true h3]; rfl
def act_is (f : Nat → Int32) (A : la_A) : Prop := f 0 = A.1 ∧ f 1 = A.2.1 ∧ f 2 = A.2.2.1 ∧ f 3 = A.2.2.2.1 ∧ f 4 = A.2.2.2.2
def md_act (M : ev_M) (tn c0 c1 c2 sh : Nat) (tx s kp bw ar tu : Nat → Int32) (k0 k1 : Bool) (tr : Int64) (A : la_A) : Prop := ∃ (one gof dof act : Nat → Int32) (sp of' ba go dr ki : Int32) (up dn : Int64), md_X M tn c0 c1 c2 sh tx s kp bw ar tu k0 k1 tr one gof dof act sp of' ba go dr ki up dn ∧ act_is act A
theorem act_note {f : Nat → Int32} {a b c d e : Int32} : act_is (upd (upd (upd (upd (upd f 0 a) 1 b) 2 c) 3 d) 4 e) (a, b, c, d, e) := ⟨rfl, rfl, rfl, rfl, rfl⟩
theorem la_step_n2 {P : Nat → Nat → Nat → Nat → Bool} {t c s l : Nat} {A : la_A} (h1 : ¬ A.1 = -9) (h2 : A.1 ≤ nI t + nI c + nI s + nI l) : la_step P t c s l A = A := la_step_nf h1 (by rw [← nI_add, ← nI_add, ← nI_add]; exact h2)
theorem la_step_y2 {P : Nat → Nat → Nat → Nat → Bool} {t c s l : Nat} {A : la_A} (h : P t c s l = true) (h2 : A.1 = -9 ∨ nI t + nI c + nI s + nI l < A.1) : la_step P t c s l A = (nI t + nI c + nI s + nI l, nI c, nI s, nI l, nI t) := by
  rw [la_step_yes h (by rw [← nI_add, ← nI_add, ← nI_add]; exact h2), nI_add, nI_add, nI_add]
/-- a stick that may be tried so is a stick -/
theorem tr_sk {s : Nat → Int32} {t c q l : Nat} (hs : sk_ok s) (hq : q < 16) (hl : l < 16) (hc : c < 16) (h : tr_ok s (nI c) (nI q) (nI l) = true) : sk_ok (tr_o s (nI t) (nI c) (nI q) (nI l)) := by
  obtain ⟨h0, h1, h2, h3, h4, h5, h6⟩ := hs
  have ec : (nI c).toInt = (c : Int) := nI_toInt (by omega)
  have eq' : (nI q).toInt = (q : Int) := nI_toInt (by omega)
  have el : (nI l).toInt = (l : Int) := nI_toInt (by omega)
  have rc : rb (nI c) 16 := rb_nI (by omega) (by omega)
  have rq : rb (nI q) 16 := rb_nI (by omega) (by omega)
  have rl : rb (nI l) 16 := rb_nI (by omega) (by omega)
  have e0 : (s 0 - nI c).toInt = (s 0).toInt - c := by rw [ti_sub (A := 130) (rb_of h0.1 h0.2 (by omega) (by omega)) rc (by omega), ec]
  have e2 : (s 2 - nI q).toInt = (s 2).toInt - q := by rw [ti_sub (A := 99) (rb_of h2.1 h2.2 (by omega) (by omega)) rq (by omega), eq']
  have e3 : (s 3 - nI q).toInt = (s 3).toInt - q := by rw [ti_sub (A := 99) (rb_of h3.1 h3.2 (by omega) (by omega)) rq (by omega), eq']
  have r2q : rb (2 * nI q) 32 := rb_mul (A := 2) (rb_l (by decide +kernel)) rq (by omega) (by omega)
  have e1 : (s 1 - 2 * nI q).toInt = (s 1).toInt - 2 * q := by rw [ti_sub (A := 600) (rb_of h1.1 h1.2 (by omega) (by omega)) r2q (by omega), ti_mul (A := 2) (rb_l (by decide +kernel)) rq (by omega), ti_2, eq']
  have r5l : rb (5 * nI l) 80 := rb_mul (A := 5) (rb_l (by decide +kernel)) rl (by omega) (by omega)
  have e4 : (s 4 + 5 * nI l).toInt = (s 4).toInt + 5 * l := by rw [ti_add (A := 200) (rb_of h4.1 h4.2 (by omega) (by omega)) r5l (by omega), ti_mul (A := 5) (rb_l (by decide +kernel)) rl (by omega), show (5 : Int32).toInt = 5 from by decide +kernel, el]
  unfold tr_ok at h
  simp only [Bool.and_eq_true, Bool.or_eq_true, decide_eq_true_eq, Int32.le_iff_toInt_le, e0, e1, e2, e3, e4, eq', el] at h
  rw [show (80 : Int32).toInt = 80 from by decide +kernel, show (20 : Int32).toInt = 20 from by decide +kernel, show (200 : Int32).toInt = 200 from by decide +kernel, ti_0] at h
  obtain ⟨g0, g1, g2⟩ := h
  refine ⟨?_, ?_, ?_, ?_, ?_, h5, ?_⟩
  · show 80 ≤ (s 0 - nI c).toInt ∧ (s 0 - nI c).toInt ≤ 130
    rw [e0]; omega
  · show 200 ≤ (s 1 - 2 * nI q).toInt ∧ (s 1 - 2 * nI q).toInt ≤ 600
    rw [e1]; omega
  · show 20 ≤ (s 2 - nI q).toInt ∧ (s 2 - nI q).toInt ≤ 99
    rw [e2]; omega
  · show 20 ≤ (s 3 - nI q).toInt ∧ (s 3 - nI q).toInt ≤ 99
    rw [e3]; omega
  · show 0 ≤ (s 4 + 5 * nI l).toInt ∧ (s 4 + 5 * nI l).toInt ≤ 200
    rw [e4]; omega
  · show (if nI t = 0 then s 6 else 1 - s 6) = 0 ∨ (if nI t = 0 then s 6 else 1 - s 6) = 1
    split
    · exact h6
    · rcases h6 with h6 | h6
      · right; rw [h6]; decide +kernel
      · left; rw [h6]; decide +kernel
theorem lm_least_l {G : ev_G} {n : Nat} {M : ev_M} {tn c0 c1 c2 sh : Nat} {tx s kp bw ar tu : Nat → Int32} {k0 k1 : Bool} {tr : Int64} {j : Nat} (hj : j < c0) (hc : c0 ≤ 12) {b : Nat} (hb : b < c1) (hc1 : c1 ≤ 3) (hs : sk_ok (fun q => s (7 * j + q))) (hw : bw_ok (bw (2 * b)) (bw (2 * b + 1))) (ht : tu_ok tu) {lo hi w : Int32} {Post : Option Value → ev_M → Prop} {t c q : Nat} (hc16 : c < 16) (hq16 : q < 16) {B : la_A} (K : ∀ (M1 : ev_M) (z z2 : Option Value), md_act M1 tn c0 c1 c2 sh tx s kp bw ar tu k0 k1 tr (la_l (mt_P tu (fun q => s (7 * j + q)) (bw (2 * b)) (bw (2 * b + 1)) lo hi) t c q 16 B) → (∀ k, k < 129 → M1 k = M k) → ev_E G mX12_least 5 0 0 n M1 265 [some (.ref 129), some (.int (nI j)), some (.int (nI b)), some (.int lo), some (.int hi), some (.int w), some (.int (nI t)), some (.int (nI c)), some (.int (nI q)), some (.int 16), z, z2] [] Post) : ∀ (m l : Nat) (M1 : ev_M) (z z2 : Option Value), l + m = 16 → md_act M1 tn c0 c1 c2 sh tx s kp bw ar tu k0 k1 tr (la_l (mt_P tu (fun q => s (7 * j + q)) (bw (2 * b)) (bw (2 * b + 1)) lo hi) t c q l B) → (∀ k, k < 129 → M1 k = M k) → ev_E G mX12_least 5 0 0 n M1 97 [some (.ref 129), some (.int (nI j)), some (.int (nI b)), some (.int lo), some (.int hi), some (.int w), some (.int (nI t)), some (.int (nI c)), some (.int (nI q)), some (.int (nI l)), z, z2] [] Post := by
  intro m
  induction m with
  | zero =>
    intro l M1 z z2 hk hA0 hf1
    refine ev_iload dX12_least_97 rfl ?_
    refine ev_bipush (v := 16) dX12_least_99 cnb_16 ?_
    refine ev_icmp_ge (tgt := 265) dX12_least_101 (by decide) (fun h101 => ?_) (fun h101 => False.elim (Int32.not_le.mpr h101 (nI_le (a := 16) (b := l) (by omega) (by omega))))
    obtain rfl : l = 16 := by omega
    exact K M1 z z2 hA0 hf1
  | succ m ih =>
    intro l M1 z z2 hk hA0 hf1
    obtain ⟨one, gof, dof, act, sp, of', ba, go, dr, ki, up, dn, hX1, hA⟩ := hA0
    have hX := hX1
    obtain ⟨th, nx, tk, pl, va, fa, d0, d1, d2, dS, dB, dA, ik, h129, h130, h131, h132, h133, hk0, hk1, h134, h135, h136, h137, h138, h139, h140, h141, h142, h143, hsh⟩ := hX
    refine ev_iload dX12_least_97 rfl ?_
    refine ev_bipush (v := 16) dX12_least_99 cnb_16 ?_
    refine ev_icmp_ge (tgt := 265) dX12_least_101 (by decide) (fun h101 => False.elim (nI_ge (a := l) (b := 16) (by omega) (by decide) h101)) (fun h101 => ?_)
    refine ev_iload dX12_least_104 rfl ?_
    refine ev_iload dX12_least_106 rfl ?_
    refine ev_iadd dX12_least_108 ?_
    refine ev_iload dX12_least_109 rfl ?_
    refine ev_iadd dX12_least_111 ?_
    refine ev_iload dX12_least_112 rfl ?_
    refine ev_iadd dX12_least_114 ?_
    refine ev_istore dX12_least_115 (Nat.le_of_ble_eq_true rfl) rfl ?_
    refine ev_aload_n (i := 0) dX12_least_117 rfl rfl ?_
    refine ev_getf dX12_least_118 flX12_50 (by assumption) (by rfl) ?_
    refine ev_iconst (v := 0) dX12_least_121 cni_0 ?_
    refine ev_iald (j := 0) dX12_least_122 (by assumption) (ev_ixc (j := 0) rfl (by decide)) (by decide) ?_
    refine ev_bipush (v := (-9)) dX12_least_123 cnb_m9 ?_
    refine ev_icmp_eq (tgt := 139) dX12_least_125 (by decide) (fun h125 => ?_) (fun h125 => ?_)
    · skip
      have hlt : (la_l (mt_P tu (fun q => s (7 * j + q)) (bw (2 * b)) (bw (2 * b + 1)) lo hi) t c q l B).1 = -9 ∨ (nI t + nI c + nI q + nI l) < (la_l (mt_P tu (fun q => s (7 * j + q)) (bw (2 * b)) (bw (2 * b + 1)) lo hi) t c q l B).1 := Or.inl (hA.1.symm.trans h125)
      refine ev_iconst (v := 1) dX12_least_139 cni_1 ?_
      refine ev_goto (tgt := 144) dX12_least_140 (by decide) ?_
      refine ev_istore dX12_least_144 (Nat.le_of_ble_eq_true rfl) rfl ?_
      refine ev_iload dX12_least_146 rfl ?_
      refine ev_if_eq (tgt := 259) dX12_least_148 (by decide) (fun h148 => False.elim (absurd h148 (by decide))) (fun h148 => ?_)
      refine ev_aload_n (i := 0) dX12_least_151 rfl rfl ?_
      refine ev_iload_n (i := 1) dX12_least_152 rfl rfl ?_
      refine ev_iload dX12_least_153 rfl ?_
      refine ev_iload dX12_least_155 rfl ?_
      refine ev_iload dX12_least_157 rfl ?_
      refine ev_iload dX12_least_159 rfl ?_
      refine ev_d6 kX12_least_161 (m_tries hX1 hj hc) (ev_rv_of (by assumption) rfl rfl) (by decide) (by decide) (Nat.le_of_ble_eq_true rfl) ?_
      intro r M2 hr
      obtain ⟨rfl, hy, hno, hf2⟩ := hr
      refine ev_if_eqb (tgt := 259) dX12_least_164 (by decide) (fun h164 => ?_) (fun h164 => ?_)
      · skip
        have hX := hno h164
        refine ev_iinc (v := nI (l + 1)) dX12_least_259 rfl (nI_1 l) (Nat.le_of_ble_eq_true rfl) rfl ?_
        refine ev_goto (tgt := 97) dX12_least_262 (by decide) ?_
        exact ih (l + 1) M2 _ _ (by omega) ⟨_, _, _, _, _, _, _, _, _, _, _, _, hX, by rw [la_l, la_step_no (mt_P_1 h164)]; exact hA⟩ (fun k hk => (hf2 k hk).trans (hf1 k hk))
      · skip
        obtain ⟨o2, ho, hX⟩ := hy h164
        have hX4 := hX
        obtain ⟨th, nx, tk, pl, va, fa, d0, d1, d2, dS, dB, dA, ik, h129, h130, h131, h132, h133, hk0, hk1, h134, h135, h136, h137, h138, h139, h140, h141, h142, h143, hsh⟩ := hX
        refine ev_aload_n (i := 0) dX12_least_167 rfl rfl ?_
        refine ev_getf dX12_least_168 flX12_41 (by assumption) (by rfl) ?_
        refine ev_iconst (v := 1) dX12_least_171 cni_1 ?_
        refine ev_iald (j := 1) dX12_least_172 (by assumption) (ev_ixc (j := 1) rfl (by decide)) (by decide) ?_
        refine ev_aload_n (i := 0) dX12_least_173 rfl rfl ?_
        refine ev_getf dX12_least_174 flX12_41 (by assumption) (by rfl) ?_
        refine ev_iconst (v := 4) dX12_least_177 cni_4 ?_
        refine ev_iald (j := 4) dX12_least_178 (by assumption) (ev_ixc (j := 4) rfl (by decide)) (by decide) ?_
        refine ev_iadd dX12_least_179 ?_
        refine ev_iload_n (i := 3) dX12_least_180 rfl rfl ?_
        refine ev_iload dX12_least_181 rfl ?_
        refine ev_c3 kX12_least_183 (c13_in) trivial (by decide) (by decide) (Nat.le_of_ble_eq_true rfl) ?_
        refine ev_topi (congrArg ev_b (show _ = sp_in (tr_o (fun q => s (7 * j + q)) (nI t) (nI c) (nI q) (nI l) 1 + tr_o (fun q => s (7 * j + q)) (nI t) (nI c) (nI q) (nI l) 4) lo hi from by rw [ho 1 (by omega), ho 4 (by omega)])) ?_
        refine ev_if_eqb (tgt := 259) dX12_least_186 (by decide) (fun h186 => ?_) (fun h186 => ?_)
        · skip
          refine ev_iinc (v := nI (l + 1)) dX12_least_259 rfl (nI_1 l) (Nat.le_of_ble_eq_true rfl) rfl ?_
          refine ev_goto (tgt := 97) dX12_least_262 (by decide) ?_
          exact ih (l + 1) M2 _ _ (by omega) ⟨_, _, _, _, _, _, _, _, _, _, _, _, hX4, by rw [la_l, la_step_no (mt_P_2 h186)]; exact hA⟩ (fun k hk => (hf2 k hk).trans (hf1 k hk))
        · skip
          refine ev_aload_n (i := 0) dX12_least_189 rfl rfl ?_
          refine ev_aload_n (i := 0) dX12_least_190 rfl rfl ?_
          refine ev_getf dX12_least_191 flX12_23 (by assumption) (by rfl) ?_
          refine ev_iconst (v := 2) dX12_least_194 cni_2 ?_
          refine ev_iload_n (i := 2) dX12_least_195 rfl rfl ?_
          refine ev_imul dX12_least_196 ?_
          refine ev_iald (j := 2 * b) dX12_least_197 (by assumption) (ev_ix20 b (by omega)) (by omega) ?_
          refine ev_aload_n (i := 0) dX12_least_198 rfl rfl ?_
          refine ev_getf dX12_least_199 flX12_23 (by assumption) (by rfl) ?_
          refine ev_iconst (v := 2) dX12_least_202 cni_2 ?_
          refine ev_iload_n (i := 2) dX12_least_203 rfl rfl ?_
          refine ev_imul dX12_least_204 ?_
          refine ev_iconst (v := 1) dX12_least_205 cni_1 ?_
          refine ev_iadd dX12_least_206 ?_
          refine ev_iald (j := 2 * b + 1) dX12_least_207 (by assumption) (ev_ix2 b 1 (by omega)) (by omega) ?_
          refine ev_d3 kX12_least_208 (m_flies hX4 (sk_congr ho (tr_sk hs (by omega) (by omega) (by omega) h164)) hw ht) (ev_rv_of (by assumption) rfl rfl) (by decide) (by decide) (Nat.le_of_ble_eq_true rfl) ?_
          intro r M3 hr
          obtain ⟨rfl, hX, hf3⟩ := hr
          have hX0 := hX
          rw [fx_ki_c ho] at hX
          obtain ⟨th, nx, tk, pl, va, fa, d0, d1, d2, dS, dB, dA, ik, h129, h130, h131, h132, h133, hk0, hk1, h134, h135, h136, h137, h138, h139, h140, h141, h142, h143, hsh⟩ := hX
          refine ev_aload_n (i := 0) dX12_least_211 rfl rfl ?_
          refine ev_getf dX12_least_212 flX12_162 (by assumption) (by rfl) ?_
          refine ev_iconst (v := 1) dX12_least_215 cni_1 ?_
          refine ev_icmp_ne (tgt := 259) dX12_least_216 (by decide) (fun h216 => ?_) (fun h216 => ?_)
          · skip
            refine ev_iinc (v := nI (l + 1)) dX12_least_259 rfl (nI_1 l) (Nat.le_of_ble_eq_true rfl) rfl ?_
            refine ev_goto (tgt := 97) dX12_least_262 (by decide) ?_
            exact ih (l + 1) M3 _ _ (by omega) ⟨_, _, _, _, _, _, _, _, _, _, _, _, hX0, by rw [la_l, la_step_no (mt_P_3 h216)]; exact hA⟩ (fun k hk => (hf3 k hk).trans ((hf2 k hk).trans (hf1 k hk)))
          · skip
            refine ev_aload_n (i := 0) dX12_least_219 rfl rfl ?_
            refine ev_getf dX12_least_220 flX12_50 (by assumption) (by rfl) ?_
            refine ev_iconst (v := 0) dX12_least_223 cni_0 ?_
            refine ev_iload dX12_least_224 rfl ?_
            refine md_st143 hX0 (j := 0) dX12_least_226 (ev_ixc (j := 0) rfl (by decide)) (by decide) (fun M4 hX hf4 => ?_)
            have hX0 := hX
            obtain ⟨th, nx, tk, pl, va, fa, d0, d1, d2, dS, dB, dA, ik, h129, h130, h131, h132, h133, hk0, hk1, h134, h135, h136, h137, h138, h139, h140, h141, h142, h143, hsh⟩ := hX
            refine ev_aload_n (i := 0) dX12_least_227 rfl rfl ?_
            refine ev_getf dX12_least_228 flX12_50 (by assumption) (by rfl) ?_
            refine ev_iconst (v := 1) dX12_least_231 cni_1 ?_
            refine ev_iload dX12_least_232 rfl ?_
            refine md_st143 hX0 (j := 1) dX12_least_234 (ev_ixc (j := 1) rfl (by decide)) (by decide) (fun M5 hX hf5 => ?_)
            have hX0 := hX
            obtain ⟨th, nx, tk, pl, va, fa, d0, d1, d2, dS, dB, dA, ik, h129, h130, h131, h132, h133, hk0, hk1, h134, h135, h136, h137, h138, h139, h140, h141, h142, h143, hsh⟩ := hX
            refine ev_aload_n (i := 0) dX12_least_235 rfl rfl ?_
            refine ev_getf dX12_least_236 flX12_50 (by assumption) (by rfl) ?_
            refine ev_iconst (v := 2) dX12_least_239 cni_2 ?_
            refine ev_iload dX12_least_240 rfl ?_
            refine md_st143 hX0 (j := 2) dX12_least_242 (ev_ixc (j := 2) rfl (by decide)) (by decide) (fun M6 hX hf6 => ?_)
            have hX0 := hX
            obtain ⟨th, nx, tk, pl, va, fa, d0, d1, d2, dS, dB, dA, ik, h129, h130, h131, h132, h133, hk0, hk1, h134, h135, h136, h137, h138, h139, h140, h141, h142, h143, hsh⟩ := hX
            refine ev_aload_n (i := 0) dX12_least_243 rfl rfl ?_
            refine ev_getf dX12_least_244 flX12_50 (by assumption) (by rfl) ?_
            refine ev_iconst (v := 3) dX12_least_247 cni_3 ?_
            refine ev_iload dX12_least_248 rfl ?_
            refine md_st143 hX0 (j := 3) dX12_least_250 (ev_ixc (j := 3) rfl (by decide)) (by decide) (fun M7 hX hf7 => ?_)
            have hX0 := hX
            obtain ⟨th, nx, tk, pl, va, fa, d0, d1, d2, dS, dB, dA, ik, h129, h130, h131, h132, h133, hk0, hk1, h134, h135, h136, h137, h138, h139, h140, h141, h142, h143, hsh⟩ := hX
            refine ev_aload_n (i := 0) dX12_least_251 rfl rfl ?_
            refine ev_getf dX12_least_252 flX12_50 (by assumption) (by rfl) ?_
            refine ev_iconst (v := 4) dX12_least_255 cni_4 ?_
            refine ev_iload dX12_least_256 rfl ?_
            refine md_st143 hX0 (j := 4) dX12_least_258 (ev_ixc (j := 4) rfl (by decide)) (by decide) (fun M8 hX hf8 => ?_)
            have hX0 := hX
            obtain ⟨th, nx, tk, pl, va, fa, d0, d1, d2, dS, dB, dA, ik, h129, h130, h131, h132, h133, hk0, hk1, h134, h135, h136, h137, h138, h139, h140, h141, h142, h143, hsh⟩ := hX
            refine ev_iinc (v := nI (l + 1)) dX12_least_259 rfl (nI_1 l) (Nat.le_of_ble_eq_true rfl) rfl ?_
            refine ev_goto (tgt := 97) dX12_least_262 (by decide) ?_
            exact ih (l + 1) M8 _ _ (by omega) ⟨_, _, _, _, _, _, _, _, _, _, _, _, hX0, by rw [la_l, la_step_y2 (mt_P_y h164 h186 h216) hlt]; exact act_note⟩ (fun k hk => (hf8 k hk).trans ((hf7 k hk).trans ((hf6 k hk).trans ((hf5 k hk).trans ((hf4 k hk).trans ((hf3 k hk).trans ((hf2 k hk).trans (hf1 k hk))))))))
    · skip
      refine ev_iload dX12_least_128 rfl ?_
      refine ev_aload_n (i := 0) dX12_least_130 rfl rfl ?_
      refine ev_getf dX12_least_131 flX12_50 (by assumption) (by rfl) ?_
      refine ev_iconst (v := 0) dX12_least_134 cni_0 ?_
      refine ev_iald (j := 0) dX12_least_135 (by assumption) (ev_ixc (j := 0) rfl (by decide)) (by decide) ?_
      refine ev_icmp_ge (tgt := 143) dX12_least_136 (by decide) (fun h136 => ?_) (fun h136 => ?_)
      · skip
        refine ev_iconst (v := 0) dX12_least_143 cni_0 ?_
        refine ev_istore dX12_least_144 (Nat.le_of_ble_eq_true rfl) rfl ?_
        refine ev_iload dX12_least_146 rfl ?_
        refine ev_if_eq (tgt := 259) dX12_least_148 (by decide) (fun h148 => ?_) (fun h148 => False.elim (absurd rfl h148))
        refine ev_iinc (v := nI (l + 1)) dX12_least_259 rfl (nI_1 l) (Nat.le_of_ble_eq_true rfl) rfl ?_
        refine ev_goto (tgt := 97) dX12_least_262 (by decide) ?_
        exact ih (l + 1) M1 _ _ (by omega) ⟨_, _, _, _, _, _, _, _, _, _, _, _, hX1, by rw [la_l, la_step_n2 (fun e => h125 (hA.1.trans e)) (hA.1 ▸ h136)]; exact hA⟩ hf1
      · skip
        have hlt : (la_l (mt_P tu (fun q => s (7 * j + q)) (bw (2 * b)) (bw (2 * b + 1)) lo hi) t c q l B).1 = -9 ∨ (nI t + nI c + nI q + nI l) < (la_l (mt_P tu (fun q => s (7 * j + q)) (bw (2 * b)) (bw (2 * b + 1)) lo hi) t c q l B).1 := Or.inr (hA.1 ▸ h136)
        refine ev_iconst (v := 1) dX12_least_139 cni_1 ?_
        refine ev_goto (tgt := 144) dX12_least_140 (by decide) ?_
        refine ev_istore dX12_least_144 (Nat.le_of_ble_eq_true rfl) rfl ?_
        refine ev_iload dX12_least_146 rfl ?_
        refine ev_if_eq (tgt := 259) dX12_least_148 (by decide) (fun h148 => False.elim (absurd h148 (by decide))) (fun h148 => ?_)
        refine ev_aload_n (i := 0) dX12_least_151 rfl rfl ?_
        refine ev_iload_n (i := 1) dX12_least_152 rfl rfl ?_
        refine ev_iload dX12_least_153 rfl ?_
        refine ev_iload dX12_least_155 rfl ?_
        refine ev_iload dX12_least_157 rfl ?_
        refine ev_iload dX12_least_159 rfl ?_
        refine ev_d6 kX12_least_161 (m_tries hX1 hj hc) (ev_rv_of (by assumption) rfl rfl) (by decide) (by decide) (Nat.le_of_ble_eq_true rfl) ?_
        intro r M2 hr
        obtain ⟨rfl, hy, hno, hf2⟩ := hr
        refine ev_if_eqb (tgt := 259) dX12_least_164 (by decide) (fun h164 => ?_) (fun h164 => ?_)
        · skip
          have hX := hno h164
          refine ev_iinc (v := nI (l + 1)) dX12_least_259 rfl (nI_1 l) (Nat.le_of_ble_eq_true rfl) rfl ?_
          refine ev_goto (tgt := 97) dX12_least_262 (by decide) ?_
          exact ih (l + 1) M2 _ _ (by omega) ⟨_, _, _, _, _, _, _, _, _, _, _, _, hX, by rw [la_l, la_step_no (mt_P_1 h164)]; exact hA⟩ (fun k hk => (hf2 k hk).trans (hf1 k hk))
        · skip
          obtain ⟨o2, ho, hX⟩ := hy h164
          have hX4 := hX
          obtain ⟨th, nx, tk, pl, va, fa, d0, d1, d2, dS, dB, dA, ik, h129, h130, h131, h132, h133, hk0, hk1, h134, h135, h136, h137, h138, h139, h140, h141, h142, h143, hsh⟩ := hX
          refine ev_aload_n (i := 0) dX12_least_167 rfl rfl ?_
          refine ev_getf dX12_least_168 flX12_41 (by assumption) (by rfl) ?_
          refine ev_iconst (v := 1) dX12_least_171 cni_1 ?_
          refine ev_iald (j := 1) dX12_least_172 (by assumption) (ev_ixc (j := 1) rfl (by decide)) (by decide) ?_
          refine ev_aload_n (i := 0) dX12_least_173 rfl rfl ?_
          refine ev_getf dX12_least_174 flX12_41 (by assumption) (by rfl) ?_
          refine ev_iconst (v := 4) dX12_least_177 cni_4 ?_
          refine ev_iald (j := 4) dX12_least_178 (by assumption) (ev_ixc (j := 4) rfl (by decide)) (by decide) ?_
          refine ev_iadd dX12_least_179 ?_
          refine ev_iload_n (i := 3) dX12_least_180 rfl rfl ?_
          refine ev_iload dX12_least_181 rfl ?_
          refine ev_c3 kX12_least_183 (c13_in) trivial (by decide) (by decide) (Nat.le_of_ble_eq_true rfl) ?_
          refine ev_topi (congrArg ev_b (show _ = sp_in (tr_o (fun q => s (7 * j + q)) (nI t) (nI c) (nI q) (nI l) 1 + tr_o (fun q => s (7 * j + q)) (nI t) (nI c) (nI q) (nI l) 4) lo hi from by rw [ho 1 (by omega), ho 4 (by omega)])) ?_
          refine ev_if_eqb (tgt := 259) dX12_least_186 (by decide) (fun h186 => ?_) (fun h186 => ?_)
          · skip
            refine ev_iinc (v := nI (l + 1)) dX12_least_259 rfl (nI_1 l) (Nat.le_of_ble_eq_true rfl) rfl ?_
            refine ev_goto (tgt := 97) dX12_least_262 (by decide) ?_
            exact ih (l + 1) M2 _ _ (by omega) ⟨_, _, _, _, _, _, _, _, _, _, _, _, hX4, by rw [la_l, la_step_no (mt_P_2 h186)]; exact hA⟩ (fun k hk => (hf2 k hk).trans (hf1 k hk))
          · skip
            refine ev_aload_n (i := 0) dX12_least_189 rfl rfl ?_
            refine ev_aload_n (i := 0) dX12_least_190 rfl rfl ?_
            refine ev_getf dX12_least_191 flX12_23 (by assumption) (by rfl) ?_
            refine ev_iconst (v := 2) dX12_least_194 cni_2 ?_
            refine ev_iload_n (i := 2) dX12_least_195 rfl rfl ?_
            refine ev_imul dX12_least_196 ?_
            refine ev_iald (j := 2 * b) dX12_least_197 (by assumption) (ev_ix20 b (by omega)) (by omega) ?_
            refine ev_aload_n (i := 0) dX12_least_198 rfl rfl ?_
            refine ev_getf dX12_least_199 flX12_23 (by assumption) (by rfl) ?_
            refine ev_iconst (v := 2) dX12_least_202 cni_2 ?_
            refine ev_iload_n (i := 2) dX12_least_203 rfl rfl ?_
            refine ev_imul dX12_least_204 ?_
            refine ev_iconst (v := 1) dX12_least_205 cni_1 ?_
            refine ev_iadd dX12_least_206 ?_
            refine ev_iald (j := 2 * b + 1) dX12_least_207 (by assumption) (ev_ix2 b 1 (by omega)) (by omega) ?_
            refine ev_d3 kX12_least_208 (m_flies hX4 (sk_congr ho (tr_sk hs (by omega) (by omega) (by omega) h164)) hw ht) (ev_rv_of (by assumption) rfl rfl) (by decide) (by decide) (Nat.le_of_ble_eq_true rfl) ?_
            intro r M3 hr
            obtain ⟨rfl, hX, hf3⟩ := hr
            have hX0 := hX
            rw [fx_ki_c ho] at hX
            obtain ⟨th, nx, tk, pl, va, fa, d0, d1, d2, dS, dB, dA, ik, h129, h130, h131, h132, h133, hk0, hk1, h134, h135, h136, h137, h138, h139, h140, h141, h142, h143, hsh⟩ := hX
            refine ev_aload_n (i := 0) dX12_least_211 rfl rfl ?_
            refine ev_getf dX12_least_212 flX12_162 (by assumption) (by rfl) ?_
            refine ev_iconst (v := 1) dX12_least_215 cni_1 ?_
            refine ev_icmp_ne (tgt := 259) dX12_least_216 (by decide) (fun h216 => ?_) (fun h216 => ?_)
            · skip
              refine ev_iinc (v := nI (l + 1)) dX12_least_259 rfl (nI_1 l) (Nat.le_of_ble_eq_true rfl) rfl ?_
              refine ev_goto (tgt := 97) dX12_least_262 (by decide) ?_
              exact ih (l + 1) M3 _ _ (by omega) ⟨_, _, _, _, _, _, _, _, _, _, _, _, hX0, by rw [la_l, la_step_no (mt_P_3 h216)]; exact hA⟩ (fun k hk => (hf3 k hk).trans ((hf2 k hk).trans (hf1 k hk)))
            · skip
              refine ev_aload_n (i := 0) dX12_least_219 rfl rfl ?_
              refine ev_getf dX12_least_220 flX12_50 (by assumption) (by rfl) ?_
              refine ev_iconst (v := 0) dX12_least_223 cni_0 ?_
              refine ev_iload dX12_least_224 rfl ?_
              refine md_st143 hX0 (j := 0) dX12_least_226 (ev_ixc (j := 0) rfl (by decide)) (by decide) (fun M4 hX hf4 => ?_)
              have hX0 := hX
              obtain ⟨th, nx, tk, pl, va, fa, d0, d1, d2, dS, dB, dA, ik, h129, h130, h131, h132, h133, hk0, hk1, h134, h135, h136, h137, h138, h139, h140, h141, h142, h143, hsh⟩ := hX
              refine ev_aload_n (i := 0) dX12_least_227 rfl rfl ?_
              refine ev_getf dX12_least_228 flX12_50 (by assumption) (by rfl) ?_
              refine ev_iconst (v := 1) dX12_least_231 cni_1 ?_
              refine ev_iload dX12_least_232 rfl ?_
              refine md_st143 hX0 (j := 1) dX12_least_234 (ev_ixc (j := 1) rfl (by decide)) (by decide) (fun M5 hX hf5 => ?_)
              have hX0 := hX
              obtain ⟨th, nx, tk, pl, va, fa, d0, d1, d2, dS, dB, dA, ik, h129, h130, h131, h132, h133, hk0, hk1, h134, h135, h136, h137, h138, h139, h140, h141, h142, h143, hsh⟩ := hX
              refine ev_aload_n (i := 0) dX12_least_235 rfl rfl ?_
              refine ev_getf dX12_least_236 flX12_50 (by assumption) (by rfl) ?_
              refine ev_iconst (v := 2) dX12_least_239 cni_2 ?_
              refine ev_iload dX12_least_240 rfl ?_
              refine md_st143 hX0 (j := 2) dX12_least_242 (ev_ixc (j := 2) rfl (by decide)) (by decide) (fun M6 hX hf6 => ?_)
              have hX0 := hX
              obtain ⟨th, nx, tk, pl, va, fa, d0, d1, d2, dS, dB, dA, ik, h129, h130, h131, h132, h133, hk0, hk1, h134, h135, h136, h137, h138, h139, h140, h141, h142, h143, hsh⟩ := hX
              refine ev_aload_n (i := 0) dX12_least_243 rfl rfl ?_
              refine ev_getf dX12_least_244 flX12_50 (by assumption) (by rfl) ?_
              refine ev_iconst (v := 3) dX12_least_247 cni_3 ?_
              refine ev_iload dX12_least_248 rfl ?_
              refine md_st143 hX0 (j := 3) dX12_least_250 (ev_ixc (j := 3) rfl (by decide)) (by decide) (fun M7 hX hf7 => ?_)
              have hX0 := hX
              obtain ⟨th, nx, tk, pl, va, fa, d0, d1, d2, dS, dB, dA, ik, h129, h130, h131, h132, h133, hk0, hk1, h134, h135, h136, h137, h138, h139, h140, h141, h142, h143, hsh⟩ := hX
              refine ev_aload_n (i := 0) dX12_least_251 rfl rfl ?_
              refine ev_getf dX12_least_252 flX12_50 (by assumption) (by rfl) ?_
              refine ev_iconst (v := 4) dX12_least_255 cni_4 ?_
              refine ev_iload dX12_least_256 rfl ?_
              refine md_st143 hX0 (j := 4) dX12_least_258 (ev_ixc (j := 4) rfl (by decide)) (by decide) (fun M8 hX hf8 => ?_)
              have hX0 := hX
              obtain ⟨th, nx, tk, pl, va, fa, d0, d1, d2, dS, dB, dA, ik, h129, h130, h131, h132, h133, hk0, hk1, h134, h135, h136, h137, h138, h139, h140, h141, h142, h143, hsh⟩ := hX
              refine ev_iinc (v := nI (l + 1)) dX12_least_259 rfl (nI_1 l) (Nat.le_of_ble_eq_true rfl) rfl ?_
              refine ev_goto (tgt := 97) dX12_least_262 (by decide) ?_
              exact ih (l + 1) M8 _ _ (by omega) ⟨_, _, _, _, _, _, _, _, _, _, _, _, hX0, by rw [la_l, la_step_y2 (mt_P_y h164 h186 h216) hlt]; exact act_note⟩ (fun k hk => (hf8 k hk).trans ((hf7 k hk).trans ((hf6 k hk).trans ((hf5 k hk).trans ((hf4 k hk).trans ((hf3 k hk).trans ((hf2 k hk).trans (hf1 k hk))))))))
theorem lm_least_s {G : ev_G} {n : Nat} {M : ev_M} {tn c0 c1 c2 sh : Nat} {tx s kp bw ar tu : Nat → Int32} {k0 k1 : Bool} {tr : Int64} {j : Nat} (hj : j < c0) (hc : c0 ≤ 12) {b : Nat} (hb : b < c1) (hc1 : c1 ≤ 3) (hs : sk_ok (fun q => s (7 * j + q))) (hw : bw_ok (bw (2 * b)) (bw (2 * b + 1))) (ht : tu_ok tu) {lo hi w : Int32} {Post : Option Value → ev_M → Prop} {t c : Nat} (hc16 : c < 16) {B : la_A} (K : ∀ (M1 : ev_M) (z0 z1 z2 : Option Value), md_act M1 tn c0 c1 c2 sh tx s kp bw ar tu k0 k1 tr (la_s (mt_P tu (fun q => s (7 * j + q)) (bw (2 * b)) (bw (2 * b + 1)) lo hi) t c 16 B) → (∀ k, k < 129 → M1 k = M k) → ev_E G mX12_least 5 0 0 n M1 271 [some (.ref 129), some (.int (nI j)), some (.int (nI b)), some (.int lo), some (.int hi), some (.int w), some (.int (nI t)), some (.int (nI c)), some (.int 16), z0, z1, z2] [] Post) : ∀ (m q : Nat) (M1 : ev_M) (z0 z1 z2 : Option Value), q + m = 16 → md_act M1 tn c0 c1 c2 sh tx s kp bw ar tu k0 k1 tr (la_s (mt_P tu (fun q => s (7 * j + q)) (bw (2 * b)) (bw (2 * b + 1)) lo hi) t c q B) → (∀ k, k < 129 → M1 k = M k) → ev_E G mX12_least 5 0 0 n M1 87 [some (.ref 129), some (.int (nI j)), some (.int (nI b)), some (.int lo), some (.int hi), some (.int w), some (.int (nI t)), some (.int (nI c)), some (.int (nI q)), z0, z1, z2] [] Post := by
  intro m
  induction m with
  | zero =>
    intro q M1 z0 z1 z2 hk hA0 hf1
    refine ev_iload dX12_least_87 rfl ?_
    refine ev_bipush (v := 16) dX12_least_89 cnb_16 ?_
    refine ev_icmp_ge (tgt := 271) dX12_least_91 (by decide) (fun h91 => ?_) (fun h91 => False.elim (Int32.not_le.mpr h91 (nI_le (a := 16) (b := q) (by omega) (by omega))))
    obtain rfl : q = 16 := by omega
    exact K M1 z0 z1 z2 hA0 hf1
  | succ m ih =>
    intro q M1 z0 z1 z2 hk hA0 hf1
    refine ev_iload dX12_least_87 rfl ?_
    refine ev_bipush (v := 16) dX12_least_89 cnb_16 ?_
    refine ev_icmp_ge (tgt := 271) dX12_least_91 (by decide) (fun h91 => False.elim (nI_ge (a := q) (b := 16) (by omega) (by decide) h91)) (fun h91 => ?_)
    refine ev_iconst (v := 0) dX12_least_94 cni_0 ?_
    refine ev_istore dX12_least_95 (Nat.le_of_ble_eq_true rfl) rfl ?_
    refine lm_least_l hj hc hb hc1 hs hw ht hc16 (by omega) (B := la_s (mt_P tu (fun q => s (7 * j + q)) (bw (2 * b)) (bw (2 * b + 1)) lo hi) t c q B) (fun M2 z z2 hA2 hf2 => by
      refine ev_iinc (v := nI (q + 1)) dX12_least_265 rfl (nI_1 q) (Nat.le_of_ble_eq_true rfl) rfl ?_
      refine ev_goto (tgt := 87) dX12_least_268 (by decide) ?_
      exact ih (q + 1) M2 _ z z2 (by omega) hA2 hf2) 16 0 M1 _ _ rfl hA0 hf1
theorem lm_least_c {G : ev_G} {n : Nat} {M : ev_M} {tn c0 c1 c2 sh : Nat} {tx s kp bw ar tu : Nat → Int32} {k0 k1 : Bool} {tr : Int64} {j : Nat} (hj : j < c0) (hc : c0 ≤ 12) {b : Nat} (hb : b < c1) (hc1 : c1 ≤ 3) (hs : sk_ok (fun q => s (7 * j + q))) (hw : bw_ok (bw (2 * b)) (bw (2 * b + 1))) (ht : tu_ok tu) {lo hi w : Int32} {Post : Option Value → ev_M → Prop} {t : Nat} {B : la_A} (K : ∀ (M1 : ev_M) (z0 z1 z2 z3 : Option Value), md_act M1 tn c0 c1 c2 sh tx s kp bw ar tu k0 k1 tr (la_c (mt_P tu (fun q => s (7 * j + q)) (bw (2 * b)) (bw (2 * b + 1)) lo hi) t 16 B) → (∀ k, k < 129 → M1 k = M k) → ev_E G mX12_least 5 0 0 n M1 277 [some (.ref 129), some (.int (nI j)), some (.int (nI b)), some (.int lo), some (.int hi), some (.int w), some (.int (nI t)), some (.int 16), z0, z1, z2, z3] [] Post) : ∀ (m c : Nat) (M1 : ev_M) (z0 z1 z2 z3 : Option Value), c + m = 16 → md_act M1 tn c0 c1 c2 sh tx s kp bw ar tu k0 k1 tr (la_c (mt_P tu (fun q => s (7 * j + q)) (bw (2 * b)) (bw (2 * b + 1)) lo hi) t c B) → (∀ k, k < 129 → M1 k = M k) → ev_E G mX12_least 5 0 0 n M1 77 [some (.ref 129), some (.int (nI j)), some (.int (nI b)), some (.int lo), some (.int hi), some (.int w), some (.int (nI t)), some (.int (nI c)), z0, z1, z2, z3] [] Post := by
  intro m
  induction m with
  | zero =>
    intro c M1 z0 z1 z2 z3 hk hA0 hf1
    refine ev_iload dX12_least_77 rfl ?_
    refine ev_bipush (v := 16) dX12_least_79 cnb_16 ?_
    refine ev_icmp_ge (tgt := 277) dX12_least_81 (by decide) (fun h81 => ?_) (fun h81 => False.elim (Int32.not_le.mpr h81 (nI_le (a := 16) (b := c) (by omega) (by omega))))
    obtain rfl : c = 16 := by omega
    exact K M1 z0 z1 z2 z3 hA0 hf1
  | succ m ih =>
    intro c M1 z0 z1 z2 z3 hk hA0 hf1
    refine ev_iload dX12_least_77 rfl ?_
    refine ev_bipush (v := 16) dX12_least_79 cnb_16 ?_
    refine ev_icmp_ge (tgt := 277) dX12_least_81 (by decide) (fun h81 => False.elim (nI_ge (a := c) (b := 16) (by omega) (by decide) h81)) (fun h81 => ?_)
    refine ev_iconst (v := 0) dX12_least_84 cni_0 ?_
    refine ev_istore dX12_least_85 (Nat.le_of_ble_eq_true rfl) rfl ?_
    refine lm_least_s hj hc hb hc1 hs hw ht (by omega) (B := la_c (mt_P tu (fun q => s (7 * j + q)) (bw (2 * b)) (bw (2 * b + 1)) lo hi) t c B) (fun M2 z0 z1 z2 hA2 hf2 => by
      refine ev_iinc (v := nI (c + 1)) dX12_least_271 rfl (nI_1 c) (Nat.le_of_ble_eq_true rfl) rfl ?_
      refine ev_goto (tgt := 77) dX12_least_274 (by decide) ?_
      exact ih (c + 1) M2 _ z0 z1 z2 (by omega) hA2 hf2) 16 0 M1 _ _ _ rfl hA0 hf1
theorem lm_least_t {G : ev_G} {n : Nat} {M : ev_M} {tn c0 c1 c2 sh : Nat} {tx s kp bw ar tu : Nat → Int32} {k0 k1 : Bool} {tr : Int64} {j : Nat} (hj : j < c0) (hc : c0 ≤ 12) {b : Nat} (hb : b < c1) (hc1 : c1 ≤ 3) (hs : sk_ok (fun q => s (7 * j + q))) (hw : bw_ok (bw (2 * b)) (bw (2 * b + 1))) (ht : tu_ok tu) {lo hi w : Int32} {Post : Option Value → ev_M → Prop} {B : la_A} (K : ∀ (M1 : ev_M) (z0 z1 z2 z3 z4 : Option Value), md_act M1 tn c0 c1 c2 sh tx s kp bw ar tu k0 k1 tr (la_t (mt_P tu (fun q => s (7 * j + q)) (bw (2 * b)) (bw (2 * b + 1)) lo hi) 2 B) → (∀ k, k < 129 → M1 k = M k) → ev_E G mX12_least 5 0 0 n M1 283 [some (.ref 129), some (.int (nI j)), some (.int (nI b)), some (.int lo), some (.int hi), some (.int w), some (.int 2), z0, z1, z2, z3, z4] [] Post) : ∀ (m t : Nat) (M1 : ev_M) (z0 z1 z2 z3 z4 : Option Value), t + m = 2 → md_act M1 tn c0 c1 c2 sh tx s kp bw ar tu k0 k1 tr (la_t (mt_P tu (fun q => s (7 * j + q)) (bw (2 * b)) (bw (2 * b + 1)) lo hi) t B) → (∀ k, k < 129 → M1 k = M k) → ev_E G mX12_least 5 0 0 n M1 68 [some (.ref 129), some (.int (nI j)), some (.int (nI b)), some (.int lo), some (.int hi), some (.int w), some (.int (nI t)), z0, z1, z2, z3, z4] [] Post := by
  intro m
  induction m with
  | zero =>
    intro t M1 z0 z1 z2 z3 z4 hk hA0 hf1
    refine ev_iload dX12_least_68 rfl ?_
    refine ev_iconst (v := 2) dX12_least_70 cni_2 ?_
    refine ev_icmp_ge (tgt := 283) dX12_least_71 (by decide) (fun h71 => ?_) (fun h71 => False.elim (Int32.not_le.mpr h71 (nI_le (a := 2) (b := t) (by omega) (by omega))))
    obtain rfl : t = 2 := by omega
    exact K M1 z0 z1 z2 z3 z4 hA0 hf1
  | succ m ih =>
    intro t M1 z0 z1 z2 z3 z4 hk hA0 hf1
    refine ev_iload dX12_least_68 rfl ?_
    refine ev_iconst (v := 2) dX12_least_70 cni_2 ?_
    refine ev_icmp_ge (tgt := 283) dX12_least_71 (by decide) (fun h71 => False.elim (nI_ge (a := t) (b := 2) (by omega) (by decide) h71)) (fun h71 => ?_)
    refine ev_iconst (v := 0) dX12_least_74 cni_0 ?_
    refine ev_istore dX12_least_75 (Nat.le_of_ble_eq_true rfl) rfl ?_
    refine lm_least_c hj hc hb hc1 hs hw ht (B := la_t (mt_P tu (fun q => s (7 * j + q)) (bw (2 * b)) (bw (2 * b + 1)) lo hi) t B) (fun M2 z0 z1 z2 z3 hA2 hf2 => by
      refine ev_iinc (v := nI (t + 1)) dX12_least_277 rfl (nI_1 t) (Nat.le_of_ble_eq_true rfl) rfl ?_
      refine ev_goto (tgt := 68) dX12_least_280 (by decide) ?_
      exact ih (t + 1) M2 _ z0 z1 z2 z3 (by omega) hA2 hf2) 16 0 M1 _ _ _ _ rfl hA0 hf1
/-- what is asked of the acts -/
def la_w (A : la_A) (w : Nat) : Int32 := if A.1 = -9 then -9 else if w = 0 then A.1 else if w = 1 then A.2.1 else if w = 2 then A.2.2.1 else if w = 3 then A.2.2.2.1 else A.2.2.2.2
theorem act_w {f : Nat → Int32} {A : la_A} (h : act_is f A) (h9 : ¬ f 0 = -9) : ∀ w, w < 5 → f w = la_w A w := by
  intro w hw
  obtain ⟨h0, h1, h2, h3, h4⟩ := h
  unfold la_w
  rw [if_neg (fun e => h9 (h0.trans e))]
  match w, hw with
  | 0, _ => exact h0
  | 1, _ => exact h1
  | 2, _ => exact h2
  | 3, _ => exact h3
  | 4, _ => exact h4
  | n + 5, h => omega
theorem act_9 {f : Nat → Int32} {A : la_A} (h : act_is f A) (h9 : f 0 = -9) (w : Nat) : -9 = la_w A w := by
  unfold la_w; rw [if_pos (h.1.symm.trans h9)]
theorem m_least {G : ev_G} {n : Nat} {M : ev_M} {tn c0 c1 c2 sh : Nat} {tx s kp bw ar tu : Nat → Int32} {k0 k1 : Bool} {tr : Int64} (hM : md_S M tn c0 c1 c2 sh tx s kp bw ar tu k0 k1 tr) {j : Nat} (hj : j < c0) (hc : c0 ≤ 12) {b : Nat} (hb : b < c1) (hc1 : c1 ≤ 3) (hs : sk_ok (fun q => s (7 * j + q))) (hw : bw_ok (bw (2 * b)) (bw (2 * b + 1))) (ht : tu_ok tu) {lo hi : Int32} {w : Nat} (hhi : sp_in hi 200 800 = true) (hlo : sp_in lo 200 hi = true) (hw5 : w < 5) : ev_Cal G mX12_least 5 0 0 [.ref 129, .int (nI j), .int (nI b), .int lo, .int hi, .int (nI w)] n M (fun r M1 => ∃ a1 a2 a3 a4 : Int32, r = some (.int (la_w (la_t (mt_P tu (fun q => s (7 * j + q)) (bw (2 * b)) (bw (2 * b + 1)) lo hi) 2 ((-9 : Int32), a1, a2, a3, a4)) w)) ∧ md_S M1 tn c0 c1 c2 sh tx s kp bw ar tu k0 k1 tr ∧ ∀ k, k < 129 → M1 k = M k) := by
  refine ev_Cal_of (L := [some (.ref 129), some (.int (nI j)), some (.int (nI b)), some (.int lo), some (.int hi), some (.int (nI w)), none, none, none, none, none, none]) (by decide +kernel) (Nat.le_of_ble_eq_true rfl) rfl ?_
  refine md_thr hM dX12_least_0 dX12_least_1 dX12_least_2 rfl rfl (fun M1 hM1 hf1 => ?_)
  obtain ⟨one, gof, dof, act, sp, of', ba, go, dr, ki, up, dn, hX⟩ := md_SX hM1
  have hX0 := hX
  obtain ⟨th, nx, tk, pl, va, fa, d0, d1, d2, dS, dB, dA, ik, h129, h130, h131, h132, h133, hk0, hk1, h134, h135, h136, h137, h138, h139, h140, h141, h142, h143, hsh⟩ := hX
  refine ev_aload_n (i := 0) dX12_least_5 rfl rfl ?_
  refine ev_iload_n (i := 1) dX12_least_6 rfl rfl ?_
  refine ev_c2 kX12_least_7 (c13_isStick h129) (ev_rv_of (by assumption) rfl rfl) (by decide) (by decide) (Nat.le_of_ble_eq_true rfl) ?_
  refine ev_if_eqb (tgt := 55) dX12_least_10 (by decide) (fun h10 => False.elim (Bool.false_ne_true (h10.symm.trans (sp_in_ix hj (by omega))))) (fun h10 => ?_)
  refine ev_aload_n (i := 0) dX12_least_13 rfl rfl ?_
  refine ev_iload_n (i := 2) dX12_least_14 rfl rfl ?_
  refine ev_c2 kX12_least_15 (c13_isBow h129) (ev_rv_of (by assumption) rfl rfl) (by decide) (by decide) (Nat.le_of_ble_eq_true rfl) ?_
  refine ev_if_eqb (tgt := 55) dX12_least_18 (by decide) (fun h18 => False.elim (Bool.false_ne_true (h18.symm.trans (sp_in_ix hb (by omega))))) (fun h18 => ?_)
  refine ev_iload dX12_least_21 rfl ?_
  refine ev_sipush (v := 200) dX12_least_23 cns_200 ?_
  refine ev_sipush (v := 800) dX12_least_26 cns_800 ?_
  refine ev_c3 kX12_least_29 (c13_in) trivial (by decide) (by decide) (Nat.le_of_ble_eq_true rfl) ?_
  refine ev_if_eqb (tgt := 55) dX12_least_32 (by decide) (fun h32 => False.elim (Bool.false_ne_true (h32.symm.trans (hhi)))) (fun h32 => ?_)
  refine ev_iload_n (i := 3) dX12_least_35 rfl rfl ?_
  refine ev_sipush (v := 200) dX12_least_36 cns_200 ?_
  refine ev_iload dX12_least_39 rfl ?_
  refine ev_c3 kX12_least_41 (c13_in) trivial (by decide) (by decide) (Nat.le_of_ble_eq_true rfl) ?_
  refine ev_if_eqb (tgt := 55) dX12_least_44 (by decide) (fun h44 => False.elim (Bool.false_ne_true (h44.symm.trans (hlo)))) (fun h44 => ?_)
  refine ev_iload dX12_least_47 rfl ?_
  refine ev_c1 kX12_least_49 (c13_isAct) trivial (by decide) (by decide) (Nat.le_of_ble_eq_true rfl) ?_
  refine ev_if_neb (tgt := 57) dX12_least_52 (by decide) (fun h52 => ?_) (fun h52 => False.elim (Bool.false_ne_true (h52.symm.trans (sp_in_t (nI_pos' (by omega)) (nI_le (a := w) (b := 4) (by omega) (by decide))))))
  refine ev_aload_n (i := 0) dX12_least_57 rfl rfl ?_
  refine ev_getf dX12_least_58 flX12_50 (by assumption) (by rfl) ?_
  refine ev_iconst (v := 0) dX12_least_61 cni_0 ?_
  refine ev_bipush (v := (-9)) dX12_least_62 cnb_m9 ?_
  refine md_st143 hX0 (j := 0) dX12_least_64 (ev_ixc (j := 0) rfl (by decide)) (by decide) (fun M2 hX hf2 => ?_)
  have hX0 := hX
  obtain ⟨th, nx, tk, pl, va, fa, d0, d1, d2, dS, dB, dA, ik, h129, h130, h131, h132, h133, hk0, hk1, h134, h135, h136, h137, h138, h139, h140, h141, h142, h143, hsh⟩ := hX
  refine ev_iconst (v := 0) dX12_least_65 cni_0 ?_
  refine ev_istore dX12_least_66 (Nat.le_of_ble_eq_true rfl) rfl ?_
  refine lm_least_t hj hc hb hc1 hs hw ht (B := ((-9 : Int32), act 1, act 2, act 3, act 4)) (fun M3 z0 z1 z2 z3 z4 hA0 hf3 => ?_) 2 0 M2 _ _ _ _ _ rfl ⟨_, _, _, _, _, _, _, _, _, _, _, _, hX0, ⟨rfl, rfl, rfl, rfl, rfl⟩⟩ (fun k hk => (hf2 k hk).trans (hf1 k hk))
  obtain ⟨one, gof, dof, act, sp, of', ba, go, dr, ki, up, dn, hX1, hA⟩ := hA0
  have hX := hX1
  obtain ⟨th, nx, tk, pl, va, fa, d0, d1, d2, dS, dB, dA, ik, h129, h130, h131, h132, h133, hk0, hk1, h134, h135, h136, h137, h138, h139, h140, h141, h142, h143, hsh⟩ := hX
  refine ev_aload_n (i := 0) dX12_least_283 rfl rfl ?_
  refine ev_getf dX12_least_284 flX12_50 (by assumption) (by rfl) ?_
  refine ev_iconst (v := 0) dX12_least_287 cni_0 ?_
  refine ev_iald (j := 0) dX12_least_288 (by assumption) (ev_ixc (j := 0) rfl (by decide)) (by decide) ?_
  refine ev_bipush (v := (-9)) dX12_least_289 cnb_m9 ?_
  refine ev_icmp_ne (tgt := 299) dX12_least_291 (by decide) (fun h291 => ?_) (fun h291 => ?_)
  · skip
    refine ev_aload_n (i := 0) dX12_least_299 rfl rfl ?_
    refine ev_getf dX12_least_300 flX12_50 (by assumption) (by rfl) ?_
    refine ev_iload dX12_least_303 rfl ?_
    refine ev_iald (j := w) dX12_least_305 (by assumption) (ev_ix_nI (by omega)) (by omega) ?_
    exact ev_reti dX12_least_306 rfl rfl (⟨_, _, _, _, by first | rw [act_w hA h291 w hw5] | rw [← act_9 hA h291 w], md_XS hX1, hf3⟩)
  · skip
    refine ev_bipush (v := (-9)) dX12_least_294 cnb_m9 ?_
    refine ev_goto (tgt := 306) dX12_least_296 (by decide) ?_
    exact ev_reti dX12_least_306 rfl rfl (⟨_, _, _, _, by first | rw [act_w hA h291 w hw5] | rw [← act_9 hA h291 w], md_XS hX1, hf3⟩)
theorem m_least_no {G : ev_G} {n : Nat} {M : ev_M} {tn c0 c1 c2 sh : Nat} {tx s kp bw ar tu : Nat → Int32} {k0 k1 : Bool} {tr : Int64} (hM : md_S M tn c0 c1 c2 sh tx s kp bw ar tu k0 k1 tr) {x xb lo hi w : Int32} (h : (sp_in x 0 (nI c0 - 1) && sp_in xb 0 (nI c1 - 1) && sp_in hi 200 800 && sp_in lo 200 hi && sp_in w 0 4) = false) : ev_Cal G mX12_least 5 0 0 [.ref 129, .int x, .int xb, .int lo, .int hi, .int w] n M (md_is M (.int (-1)) tn c0 c1 c2 sh tx s kp bw ar tu k0 k1 tr) := by
  refine ev_Cal_of (L := [some (.ref 129), some (.int x), some (.int xb), some (.int lo), some (.int hi), some (.int w), none, none, none, none, none, none]) (by decide +kernel) (Nat.le_of_ble_eq_true rfl) rfl ?_
  refine md_thr hM dX12_least_0 dX12_least_1 dX12_least_2 rfl rfl (fun M1 hM1 hf1 => ?_)
  obtain ⟨one, gof, dof, act, sp, of', ba, go, dr, ki, up, dn, hX⟩ := md_SX hM1
  have hX0 := hX
  obtain ⟨th, nx, tk, pl, va, fa, d0, d1, d2, dS, dB, dA, ik, h129, h130, h131, h132, h133, hk0, hk1, h134, h135, h136, h137, h138, h139, h140, h141, h142, h143, hsh⟩ := hX
  refine ev_aload_n (i := 0) dX12_least_5 rfl rfl ?_
  refine ev_iload_n (i := 1) dX12_least_6 rfl rfl ?_
  refine ev_c2 kX12_least_7 (c13_isStick h129) (ev_rv_of (by assumption) rfl rfl) (by decide) (by decide) (Nat.le_of_ble_eq_true rfl) ?_
  refine ev_if_eqb (tgt := 55) dX12_least_10 (by decide) (fun h10 => ?_) (fun h10 => ?_)
  · skip
    refine ev_iconst (v := (-1)) dX12_least_55 cni_m1 ?_
    exact ev_reti dX12_least_56 rfl rfl (⟨rfl, md_XS hX0, hf1⟩)
  · skip
    refine ev_aload_n (i := 0) dX12_least_13 rfl rfl ?_
    refine ev_iload_n (i := 2) dX12_least_14 rfl rfl ?_
    refine ev_c2 kX12_least_15 (c13_isBow h129) (ev_rv_of (by assumption) rfl rfl) (by decide) (by decide) (Nat.le_of_ble_eq_true rfl) ?_
    refine ev_if_eqb (tgt := 55) dX12_least_18 (by decide) (fun h18 => ?_) (fun h18 => ?_)
    · skip
      refine ev_iconst (v := (-1)) dX12_least_55 cni_m1 ?_
      exact ev_reti dX12_least_56 rfl rfl (⟨rfl, md_XS hX0, hf1⟩)
    · skip
      refine ev_iload dX12_least_21 rfl ?_
      refine ev_sipush (v := 200) dX12_least_23 cns_200 ?_
      refine ev_sipush (v := 800) dX12_least_26 cns_800 ?_
      refine ev_c3 kX12_least_29 (c13_in) trivial (by decide) (by decide) (Nat.le_of_ble_eq_true rfl) ?_
      refine ev_if_eqb (tgt := 55) dX12_least_32 (by decide) (fun h32 => ?_) (fun h32 => ?_)
      · skip
        refine ev_iconst (v := (-1)) dX12_least_55 cni_m1 ?_
        exact ev_reti dX12_least_56 rfl rfl (⟨rfl, md_XS hX0, hf1⟩)
      · skip
        refine ev_iload_n (i := 3) dX12_least_35 rfl rfl ?_
        refine ev_sipush (v := 200) dX12_least_36 cns_200 ?_
        refine ev_iload dX12_least_39 rfl ?_
        refine ev_c3 kX12_least_41 (c13_in) trivial (by decide) (by decide) (Nat.le_of_ble_eq_true rfl) ?_
        refine ev_if_eqb (tgt := 55) dX12_least_44 (by decide) (fun h44 => ?_) (fun h44 => ?_)
        · skip
          refine ev_iconst (v := (-1)) dX12_least_55 cni_m1 ?_
          exact ev_reti dX12_least_56 rfl rfl (⟨rfl, md_XS hX0, hf1⟩)
        · skip
          refine ev_iload dX12_least_47 rfl ?_
          refine ev_c1 kX12_least_49 (c13_isAct) trivial (by decide) (by decide) (Nat.le_of_ble_eq_true rfl) ?_
          refine ev_if_neb (tgt := 57) dX12_least_52 (by decide) (fun h52 => False.elim (by rw [h10, h18, h32, h44, h52] at h; cases h)) (fun h52 => ?_)
          refine ev_iconst (v := (-1)) dX12_least_55 cni_m1 ?_
          exact ev_reti dX12_least_56 rfl rfl (⟨rfl, md_XS hX0, hf1⟩)
