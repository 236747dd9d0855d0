/-! ===== contracts: the model, feather, warm, least ===== -/
theorem md_st140 {G : ev_G} {y : ev_MI} {f rc ru n pc : Nat} {M : ev_M} {L : List (Option Value)} {st : List Value} {Post : Option Value → ev_M → Prop} {tn c0 c1 c2 sh : Nat} {tx s kp bw ar tu : Nat → Int32} {k0 k1 : Bool} {tr : Int64} {one gof dof act : Nat → Int32} {sp of' ba go dr ki : Int32} {up dn : Int64} (hX : md_X M tn c0 c1 c2 sh tx s kp bw ar tu k0 k1 tr one gof dof act sp of' ba go dr ki up dn) {j : Nat} {i x : Int32} (hd : decode y.2.1 pc = .ok (.iastore, 1)) (hx : ev_ix i j) (hj : j < 7)
    (k : ∀ M1 : ev_M, md_X M1 tn c0 c1 c2 sh tx s kp bw ar tu k0 k1 tr (upd one j x) gof dof act sp of' ba go dr ki up dn → (∀ k, k < 129 → M1 k = M k) → ev_E G y f rc ru n M1 (pc + 1) L st Post) : ev_E G y f rc ru n M pc L (.int x :: .int i :: .ref 140 :: st) Post := by
  obtain ⟨th, nx, tk, pl, va, fa, d0, d1, d2, dS, dB, dA, ik, h129, h130, h131, h132, h133, hk0, hk1, h134, h135, h136, h137, h138, h139, h140, h141, h142, h143, hsh⟩ := hX
  refine ev_iast hd h140 hx hj ?_
  exact k _ ⟨th, nx, tk, pl, va, fa, d0, d1, d2, dS, dB, dA, ik, (ev_set_ne (by decide)).trans h129, (ev_set_ne (by decide)).trans h130, (ev_set_ne (by decide)).trans h131, (ev_set_ne (by decide)).trans h132, (ev_set_ne (by decide)).trans h133, hk0, hk1, (ev_set_ne (by decide)).trans h134, (ev_set_ne (by decide)).trans h135, (ev_set_ne (by decide)).trans h136, (ev_set_ne (by decide)).trans h137, (ev_set_ne (by decide)).trans h138, (ev_set_ne (by decide)).trans h139, ev_set_eq, (ev_set_ne (by decide)).trans h141, (ev_set_ne (by decide)).trans h142, (ev_set_ne (by decide)).trans h143, hsh⟩ (fun k hk => ev_set_ne (by omega))
theorem md_st141 {G : ev_G} {y : ev_MI} {f rc ru n pc : Nat} {M : ev_M} {L : List (Option Value)} {st : List Value} {Post : Option Value → ev_M → Prop} {tn c0 c1 c2 sh : Nat} {tx s kp bw ar tu : Nat → Int32} {k0 k1 : Bool} {tr : Int64} {one gof dof act : Nat → Int32} {sp of' ba go dr ki : Int32} {up dn : Int64} (hX : md_X M tn c0 c1 c2 sh tx s kp bw ar tu k0 k1 tr one gof dof act sp of' ba go dr ki up dn) {j : Nat} {i x : Int32} (hd : decode y.2.1 pc = .ok (.iastore, 1)) (hx : ev_ix i j) (hj : j < 24)
    (k : ∀ M1 : ev_M, md_X M1 tn c0 c1 c2 sh tx s kp bw ar tu k0 k1 tr one (upd gof j x) dof act sp of' ba go dr ki up dn → (∀ k, k < 129 → M1 k = M k) → ev_E G y f rc ru n M1 (pc + 1) L st Post) : ev_E G y f rc ru n M pc L (.int x :: .int i :: .ref 141 :: st) Post := by
  obtain ⟨th, nx, tk, pl, va, fa, d0, d1, d2, dS, dB, dA, ik, h129, h130, h131, h132, h133, hk0, hk1, h134, h135, h136, h137, h138, h139, h140, h141, h142, h143, hsh⟩ := hX
  refine ev_iast hd h141 hx hj ?_
  exact k _ ⟨th, nx, tk, pl, va, fa, d0, d1, d2, dS, dB, dA, ik, (ev_set_ne (by decide)).trans h129, (ev_set_ne (by decide)).trans h130, (ev_set_ne (by decide)).trans h131, (ev_set_ne (by decide)).trans h132, (ev_set_ne (by decide)).trans h133, hk0, hk1, (ev_set_ne (by decide)).trans h134, (ev_set_ne (by decide)).trans h135, (ev_set_ne (by decide)).trans h136, (ev_set_ne (by decide)).trans h137, (ev_set_ne (by decide)).trans h138, (ev_set_ne (by decide)).trans h139, (ev_set_ne (by decide)).trans h140, ev_set_eq, (ev_set_ne (by decide)).trans h142, (ev_set_ne (by decide)).trans h143, hsh⟩ (fun k hk => ev_set_ne (by omega))
theorem md_st142 {G : ev_G} {y : ev_MI} {f rc ru n pc : Nat} {M : ev_M} {L : List (Option Value)} {st : List Value} {Post : Option Value → ev_M → Prop} {tn c0 c1 c2 sh : Nat} {tx s kp bw ar tu : Nat → Int32} {k0 k1 : Bool} {tr : Int64} {one gof dof act : Nat → Int32} {sp of' ba go dr ki : Int32} {up dn : Int64} (hX : md_X M tn c0 c1 c2 sh tx s kp bw ar tu k0 k1 tr one gof dof act sp of' ba go dr ki up dn) {j : Nat} {i x : Int32} (hd : decode y.2.1 pc = .ok (.iastore, 1)) (hx : ev_ix i j) (hj : j < 12)
    (k : ∀ M1 : ev_M, md_X M1 tn c0 c1 c2 sh tx s kp bw ar tu k0 k1 tr one gof (upd dof j x) act sp of' ba go dr ki up dn → (∀ k, k < 129 → M1 k = M k) → ev_E G y f rc ru n M1 (pc + 1) L st Post) : ev_E G y f rc ru n M pc L (.int x :: .int i :: .ref 142 :: st) Post := by
  obtain ⟨th, nx, tk, pl, va, fa, d0, d1, d2, dS, dB, dA, ik, h129, h130, h131, h132, h133, hk0, hk1, h134, h135, h136, h137, h138, h139, h140, h141, h142, h143, hsh⟩ := hX
  refine ev_iast hd h142 hx hj ?_
  exact k _ ⟨th, nx, tk, pl, va, fa, d0, d1, d2, dS, dB, dA, ik, (ev_set_ne (by decide)).trans h129, (ev_set_ne (by decide)).trans h130, (ev_set_ne (by decide)).trans h131, (ev_set_ne (by decide)).trans h132, (ev_set_ne (by decide)).trans h133, hk0, hk1, (ev_set_ne (by decide)).trans h134, (ev_set_ne (by decide)).trans h135, (ev_set_ne (by decide)).trans h136, (ev_set_ne (by decide)).trans h137, (ev_set_ne (by decide)).trans h138, (ev_set_ne (by decide)).trans h139, (ev_set_ne (by decide)).trans h140, (ev_set_ne (by decide)).trans h141, ev_set_eq, (ev_set_ne (by decide)).trans h143, hsh⟩ (fun k hk => ev_set_ne (by omega))
theorem md_st143 {G : ev_G} {y : ev_MI} {f rc ru n pc : Nat} {M : ev_M} {L : List (Option Value)} {st : List Value} {Post : Option Value → ev_M → Prop} {tn c0 c1 c2 sh : Nat} {tx s kp bw ar tu : Nat → Int32} {k0 k1 : Bool} {tr : Int64} {one gof dof act : Nat → Int32} {sp of' ba go dr ki : Int32} {up dn : Int64} (hX : md_X M tn c0 c1 c2 sh tx s kp bw ar tu k0 k1 tr one gof dof act sp of' ba go dr ki up dn) {j : Nat} {i x : Int32} (hd : decode y.2.1 pc = .ok (.iastore, 1)) (hx : ev_ix i j) (hj : j < 5)
    (k : ∀ M1 : ev_M, md_X M1 tn c0 c1 c2 sh tx s kp bw ar tu k0 k1 tr one gof dof (upd act j x) sp of' ba go dr ki up dn → (∀ k, k < 129 → M1 k = M k) → ev_E G y f rc ru n M1 (pc + 1) L st Post) : ev_E G y f rc ru n M pc L (.int x :: .int i :: .ref 143 :: st) Post := by
  obtain ⟨th, nx, tk, pl, va, fa, d0, d1, d2, dS, dB, dA, ik, h129, h130, h131, h132, h133, hk0, hk1, h134, h135, h136, h137, h138, h139, h140, h141, h142, h143, hsh⟩ := hX
  refine ev_iast hd h143 hx hj ?_
  exact k _ ⟨th, nx, tk, pl, va, fa, d0, d1, d2, dS, dB, dA, ik, (ev_set_ne (by decide)).trans h129, (ev_set_ne (by decide)).trans h130, (ev_set_ne (by decide)).trans h131, (ev_set_ne (by decide)).trans h132, (ev_set_ne (by decide)).trans h133, hk0, hk1, (ev_set_ne (by decide)).trans h134, (ev_set_ne (by decide)).trans h135, (ev_set_ne (by decide)).trans h136, (ev_set_ne (by decide)).trans h137, (ev_set_ne (by decide)).trans h138, (ev_set_ne (by decide)).trans h139, (ev_set_ne (by decide)).trans h140, (ev_set_ne (by decide)).trans h141, (ev_set_ne (by decide)).trans h142, ev_set_eq, hsh⟩ (fun k hk => ev_set_ne (by omega))
theorem sb_fe_c {tu o o2 : Nat → Int32} {dr wi far : Int32} (h : ∀ q, q < 7 → o q = o2 q) : sb_fe tu o dr wi far = sb_fe tu o2 dr wi far := by
  funext k; unfold sb_fe; rw [h 0 (by omega), h 1 (by omega), h 2 (by omega), h 3 (by omega), h 4 (by omega), h 6 (by omega)]
theorem sb_fe_v {tu o : Nat → Int32} {dr wi far : Int32} {k : Nat} : sp_abs (fx_go tu (upd o 5 (nI k)) dr wi) + fx_dr (upd o 5 (nI k)) dr * far / 100 = sb_fe tu o dr wi far k := rfl
theorem sk_upd5 {o : Nat → Int32} {k : Nat} (hk : k ≤ 9) (h : sk_ok o) : sk_ok (upd o 5 (nI k)) := by
  have e : (nI k).toInt = (k : Int) := nI_toInt (by omega)
  refine ⟨h.1, h.2.1, h.2.2.1, h.2.2.2.1, h.2.2.2.2.1, ?_, h.2.2.2.2.2.2⟩
  show 0 ≤ (nI k).toInt ∧ (nI k).toInt ≤ 9
  omega
theorem sp_bf_le {V : Nat → Int32} {k : Nat} (h : ¬ nI k = 0) (hk : k < 2 ^ 31) (h2 : (sp_bf V k).2 ≤ V k) : sp_bf V (k + 1) = sp_bf V k := sp_bf_0 (Nat.pos_of_ne_zero (fun e => h (by rw [e]; rfl))) h2
theorem sp_bf_z {V : Nat → Int32} {k : Nat} (h : nI k = 0) (hk : k < 2 ^ 31) : sp_bf V (k + 1) = (nI k, V k) := sp_bf_1 (fun q => nI_ne0 q hk h)
theorem lm_feather {G : ev_G} {n : Nat} {M : ev_M} {tn c0 c1 c2 sh : Nat} {tx s kp bw ar tu : Nat → Int32} {k0 k1 : Bool} {tr : Int64} {j : Nat} (hj : j < c0) (hc : c0 ≤ 12) {b : Nat} (hb : b < c1) (hc1 : c1 ≤ 3) (hs : sk_ok (fun q => s (7 * j + q))) (hw : bw_ok (bw (2 * b)) (bw (2 * b + 1))) (ht : tu_ok tu) {far : Int32} : ∀ (m k : Nat) (z : Option Value) (M1 : ev_M), k + m = 10 → md_S M1 tn c0 c1 c2 sh tx s kp bw ar tu k0 k1 tr → (∀ k, k < 129 → M1 k = M k) → ev_E G mX12_feather 5 0 0 n M1 42 [some (.ref 129), some (.int (nI j)), some (.int (nI b)), some (.int far), some (.int (sp_bf (sb_fe tu (fun q => s (7 * j + q)) (bw (2 * b)) (bw (2 * b + 1)) far) k).1), some (.int (sp_bf (sb_fe tu (fun q => s (7 * j + q)) (bw (2 * b)) (bw (2 * b + 1)) far) k).2), some (.int (nI k)), z] [] (md_is M (.int (sp_bf (sb_fe tu (fun q => s (7 * j + q)) (bw (2 * b)) (bw (2 * b + 1)) far) 10).1) tn c0 c1 c2 sh tx s kp bw ar tu k0 k1 tr) := by
  intro m
  induction m with
  | zero =>
    intro k z M1 hk hM1 hf1
    refine ev_iload dX12_feather_42 rfl ?_
    refine ev_bipush (v := 10) dX12_feather_44 cnb_10 ?_
    refine ev_icmp_ge (tgt := 151) dX12_feather_46 (by decide) (fun h46 => ?_) (fun h46 => False.elim (Int32.not_le.mpr h46 (nI_le (a := 10) (b := k) (by omega) (by omega))))
    obtain rfl : k = 10 := by omega
    refine ev_iload dX12_feather_151 rfl ?_
    exact ev_reti dX12_feather_153 rfl rfl (⟨rfl, hM1, hf1⟩)
  | succ m ih =>
    intro k z M1 hk hM1 hf1
    obtain ⟨one, gof, dof, act, sp, of', ba, go, dr, ki, up, dn, hX⟩ := md_SX hM1
    have hX0 := hX
    obtain ⟨th, nx, tk, pl, va, fa, d0, d1, d2, dS, dB, dA, ik, h129, h130, h131, h132, h133, hk0, hk1, h134, h135, h136, h137, h138, h139, h140, h141, h142, h143, hsh⟩ := hX
    refine ev_iload dX12_feather_42 rfl ?_
    refine ev_bipush (v := 10) dX12_feather_44 cnb_10 ?_
    refine ev_icmp_ge (tgt := 151) dX12_feather_46 (by decide) (fun h46 => False.elim (nI_ge (a := k) (b := 10) (by omega) (by decide) h46)) (fun h46 => ?_)
    refine ev_aload_n (i := 0) dX12_feather_49 rfl rfl ?_
    refine ev_iload_n (i := 1) dX12_feather_50 rfl rfl ?_
    refine ev_d2 kX12_feather_51 (m_lays hX0 hj hc) (ev_rv_of (by assumption) rfl rfl) (by decide) (by decide) (Nat.le_of_ble_eq_true rfl) ?_
    intro r M2 hr
    obtain ⟨rfl, ⟨o2, ho, hX⟩, hf2⟩ := hr
    have hX0 := hX
    obtain ⟨th, nx, tk, pl, va, fa, d0, d1, d2, dS, dB, dA, ik, h129, h130, h131, h132, h133, hk0, hk1, h134, h135, h136, h137, h138, h139, h140, h141, h142, h143, hsh⟩ := hX
    refine ev_aload_n (i := 0) dX12_feather_54 rfl rfl ?_
    refine ev_getf dX12_feather_55 flX12_41 (by assumption) (by rfl) ?_
    refine ev_iconst (v := 5) dX12_feather_58 cni_5 ?_
    refine ev_iload dX12_feather_59 rfl ?_
    refine md_st140 hX0 (j := 5) dX12_feather_61 (ev_ixc (j := 5) rfl (by decide)) (by decide) (fun M3 hX hf3 => ?_)
    have hX0 := hX
    obtain ⟨th, nx, tk, pl, va, fa, d0, d1, d2, dS, dB, dA, ik, h129, h130, h131, h132, h133, hk0, hk1, h134, h135, h136, h137, h138, h139, h140, h141, h142, h143, hsh⟩ := hX
    refine ev_aload_n (i := 0) dX12_feather_62 rfl rfl ?_
    refine ev_aload_n (i := 0) dX12_feather_63 rfl rfl ?_
    refine ev_getf dX12_feather_64 flX12_23 (by assumption) (by rfl) ?_
    refine ev_iconst (v := 2) dX12_feather_67 cni_2 ?_
    refine ev_iload_n (i := 2) dX12_feather_68 rfl rfl ?_
    refine ev_imul dX12_feather_69 ?_
    refine ev_iald (j := 2 * b) dX12_feather_70 (by assumption) (ev_ix20 b (by omega)) (by omega) ?_
    refine ev_aload_n (i := 0) dX12_feather_71 rfl rfl ?_
    refine ev_getf dX12_feather_72 flX12_23 (by assumption) (by rfl) ?_
    refine ev_iconst (v := 2) dX12_feather_75 cni_2 ?_
    refine ev_iload_n (i := 2) dX12_feather_76 rfl rfl ?_
    refine ev_imul dX12_feather_77 ?_
    refine ev_iconst (v := 1) dX12_feather_78 cni_1 ?_
    refine ev_iadd dX12_feather_79 ?_
    refine ev_iald (j := 2 * b + 1) dX12_feather_80 (by assumption) (ev_ix2 b 1 (by omega)) (by omega) ?_
    refine ev_d3 kX12_feather_81 (m_flies hX0 (sk_upd5 (by omega) (sk_congr ho hs)) hw ht) (ev_rv_of (by assumption) rfl rfl) (by decide) (by decide) (Nat.le_of_ble_eq_true rfl) ?_
    intro r M4 hr
    obtain ⟨rfl, hX, hf4⟩ := hr
    have hX0 := hX
    obtain ⟨th, nx, tk, pl, va, fa, d0, d1, d2, dS, dB, dA, ik, h129, h130, h131, h132, h133, hk0, hk1, h134, h135, h136, h137, h138, h139, h140, h141, h142, h143, hsh⟩ := hX
    refine ev_aload_n (i := 0) dX12_feather_84 rfl rfl ?_
    refine ev_getf dX12_feather_85 flX12_183 (by assumption) (by rfl) ?_
    refine ev_c1 kX12_feather_88 (c13_size) trivial (by decide) (by decide) (Nat.le_of_ble_eq_true rfl) ?_
    refine ev_aload_n (i := 0) dX12_feather_91 rfl rfl ?_
    refine ev_getf dX12_feather_92 flX12_186 (by assumption) (by rfl) ?_
    refine ev_iload_n (i := 3) dX12_feather_95 rfl rfl ?_
    refine ev_imul dX12_feather_96 ?_
    refine ev_bipush (v := 100) dX12_feather_97 cnb_100 ?_
    refine ev_idiv dX12_feather_99 (by decide) ?_
    refine ev_iadd dX12_feather_100 ?_
    refine ev_topi (x2 := (sb_fe tu (fun q => s (7 * j + q)) (bw (2 * b)) (bw (2 * b + 1)) far) k) (by rw [← sb_fe_c (tu := tu) (dr := bw (2 * b)) (wi := bw (2 * b + 1)) (far := far) ho]; rfl) ?_
    refine ev_istore dX12_feather_101 (Nat.le_of_ble_eq_true rfl) rfl ?_
    refine ev_iload dX12_feather_103 rfl ?_
    refine ev_if_eq (tgt := 115) dX12_feather_105 (by decide) (fun h105 => ?_) (fun h105 => ?_)
    · skip
      refine ev_iload dX12_feather_115 rfl ?_
      refine ev_goto (tgt := 122) dX12_feather_117 (by decide) ?_
      refine ev_istore dX12_feather_122 (Nat.le_of_ble_eq_true rfl) rfl ?_
      refine ev_iload dX12_feather_124 rfl ?_
      refine ev_if_eq (tgt := 136) dX12_feather_126 (by decide) (fun h126 => ?_) (fun h126 => False.elim (h126 h105))
      refine ev_iload dX12_feather_136 rfl ?_
      refine ev_goto (tgt := 143) dX12_feather_138 (by decide) ?_
      refine ev_istore dX12_feather_143 (Nat.le_of_ble_eq_true rfl) rfl ?_
      refine ev_iinc (v := nI (k + 1)) dX12_feather_145 rfl (nI_1 k) (Nat.le_of_ble_eq_true rfl) rfl ?_
      refine ev_goto (tgt := 42) dX12_feather_148 (by decide) ?_
      refine ev_loc (L2 := [some (.ref 129), some (.int (nI j)), some (.int (nI b)), some (.int far), some (.int (sp_bf (sb_fe tu (fun q => s (7 * j + q)) (bw (2 * b)) (bw (2 * b + 1)) far) (k + 1)).1), some (.int (sp_bf (sb_fe tu (fun q => s (7 * j + q)) (bw (2 * b)) (bw (2 * b + 1)) far) (k + 1)).2), some (.int (nI (k + 1))), some (.int ((sb_fe tu (fun q => s (7 * j + q)) (bw (2 * b)) (bw (2 * b + 1)) far) k))]) (by first | (rw [sp_bf_z (V := (sb_fe tu (fun q => s (7 * j + q)) (bw (2 * b)) (bw (2 * b + 1)) far)) h105 (by omega)]; rfl) | (rw [sp_bf_2 (V := (sb_fe tu (fun q => s (7 * j + q)) (bw (2 * b)) (bw (2 * b + 1)) far)) h112]; rfl) | (rw [sp_bf_le (V := (sb_fe tu (fun q => s (7 * j + q)) (bw (2 * b)) (bw (2 * b + 1)) far)) h105 (by omega) h112]; rfl)) (ih (k + 1) _ M4 (by omega) (md_XS hX0) (fun k hk => (hf4 k hk).trans ((hf3 k hk).trans ((hf2 k hk).trans (hf1 k hk)))))
    · skip
      refine ev_iload dX12_feather_108 rfl ?_
      refine ev_iload dX12_feather_110 rfl ?_
      refine ev_icmp_ge (tgt := 120) dX12_feather_112 (by decide) (fun h112 => ?_) (fun h112 => ?_)
      · skip
        refine ev_iload dX12_feather_120 rfl ?_
        refine ev_istore dX12_feather_122 (Nat.le_of_ble_eq_true rfl) rfl ?_
        refine ev_iload dX12_feather_124 rfl ?_
        refine ev_if_eq (tgt := 136) dX12_feather_126 (by decide) (fun h126 => False.elim (h105 h126)) (fun h126 => ?_)
        refine ev_iload dX12_feather_129 rfl ?_
        refine ev_iload dX12_feather_131 rfl ?_
        refine ev_icmp_ge (tgt := 141) dX12_feather_133 (by decide) (fun h133 => ?_) (fun h133 => False.elim (Int32.not_le.mpr h133 h112))
        refine ev_iload dX12_feather_141 rfl ?_
        refine ev_istore dX12_feather_143 (Nat.le_of_ble_eq_true rfl) rfl ?_
        refine ev_iinc (v := nI (k + 1)) dX12_feather_145 rfl (nI_1 k) (Nat.le_of_ble_eq_true rfl) rfl ?_
        refine ev_goto (tgt := 42) dX12_feather_148 (by decide) ?_
        refine ev_loc (L2 := [some (.ref 129), some (.int (nI j)), some (.int (nI b)), some (.int far), some (.int (sp_bf (sb_fe tu (fun q => s (7 * j + q)) (bw (2 * b)) (bw (2 * b + 1)) far) (k + 1)).1), some (.int (sp_bf (sb_fe tu (fun q => s (7 * j + q)) (bw (2 * b)) (bw (2 * b + 1)) far) (k + 1)).2), some (.int (nI (k + 1))), some (.int ((sb_fe tu (fun q => s (7 * j + q)) (bw (2 * b)) (bw (2 * b + 1)) far) k))]) (by first | (rw [sp_bf_z (V := (sb_fe tu (fun q => s (7 * j + q)) (bw (2 * b)) (bw (2 * b + 1)) far)) h105 (by omega)]; rfl) | (rw [sp_bf_2 (V := (sb_fe tu (fun q => s (7 * j + q)) (bw (2 * b)) (bw (2 * b + 1)) far)) h112]; rfl) | (rw [sp_bf_le (V := (sb_fe tu (fun q => s (7 * j + q)) (bw (2 * b)) (bw (2 * b + 1)) far)) h105 (by omega) h112]; rfl)) (ih (k + 1) _ M4 (by omega) (md_XS hX0) (fun k hk => (hf4 k hk).trans ((hf3 k hk).trans ((hf2 k hk).trans (hf1 k hk)))))
      · skip
        refine ev_iload dX12_feather_115 rfl ?_
        refine ev_goto (tgt := 122) dX12_feather_117 (by decide) ?_
        refine ev_istore dX12_feather_122 (Nat.le_of_ble_eq_true rfl) rfl ?_
        refine ev_iload dX12_feather_124 rfl ?_
        refine ev_if_eq (tgt := 136) dX12_feather_126 (by decide) (fun h126 => False.elim (h105 h126)) (fun h126 => ?_)
        refine ev_iload dX12_feather_129 rfl ?_
        refine ev_iload dX12_feather_131 rfl ?_
        refine ev_icmp_ge (tgt := 141) dX12_feather_133 (by decide) (fun h133 => False.elim (Int32.not_le.mpr h112 h133)) (fun h133 => ?_)
        refine ev_iload dX12_feather_136 rfl ?_
        refine ev_goto (tgt := 143) dX12_feather_138 (by decide) ?_
        refine ev_istore dX12_feather_143 (Nat.le_of_ble_eq_true rfl) rfl ?_
        refine ev_iinc (v := nI (k + 1)) dX12_feather_145 rfl (nI_1 k) (Nat.le_of_ble_eq_true rfl) rfl ?_
        refine ev_goto (tgt := 42) dX12_feather_148 (by decide) ?_
        refine ev_loc (L2 := [some (.ref 129), some (.int (nI j)), some (.int (nI b)), some (.int far), some (.int (sp_bf (sb_fe tu (fun q => s (7 * j + q)) (bw (2 * b)) (bw (2 * b + 1)) far) (k + 1)).1), some (.int (sp_bf (sb_fe tu (fun q => s (7 * j + q)) (bw (2 * b)) (bw (2 * b + 1)) far) (k + 1)).2), some (.int (nI (k + 1))), some (.int ((sb_fe tu (fun q => s (7 * j + q)) (bw (2 * b)) (bw (2 * b + 1)) far) k))]) (by first | (rw [sp_bf_z (V := (sb_fe tu (fun q => s (7 * j + q)) (bw (2 * b)) (bw (2 * b + 1)) far)) h105 (by omega)]; rfl) | (rw [sp_bf_2 (V := (sb_fe tu (fun q => s (7 * j + q)) (bw (2 * b)) (bw (2 * b + 1)) far)) h112]; rfl) | (rw [sp_bf_le (V := (sb_fe tu (fun q => s (7 * j + q)) (bw (2 * b)) (bw (2 * b + 1)) far)) h105 (by omega) h112]; rfl)) (ih (k + 1) _ M4 (by omega) (md_XS hX0) (fun k hk => (hf4 k hk).trans ((hf3 k hk).trans ((hf2 k hk).trans (hf1 k hk)))))
theorem m_feather {G : ev_G} {n : Nat} {M : ev_M} {tn c0 c1 c2 sh : Nat} {tx s kp bw ar tu : Nat → Int32} {k0 k1 : Bool} {tr : Int64} (hM : md_S M tn c0 c1 c2 sh tx s kp bw ar tu k0 k1 tr) {j : Nat} (hj : j < c0) (hc : c0 ≤ 12) {b : Nat} (hb : b < c1) (hc1 : c1 ≤ 3) (hs : sk_ok (fun q => s (7 * j + q))) (hw : bw_ok (bw (2 * b)) (bw (2 * b + 1))) (ht : tu_ok tu) {far : Int32} (hfar : sp_in far 0 99 = true) : ev_Cal G mX12_feather 5 0 0 [.ref 129, .int (nI j), .int (nI b), .int far] n M (md_is M (.int (sp_bf (sb_fe tu (fun q => s (7 * j + q)) (bw (2 * b)) (bw (2 * b + 1)) far) 10).1) tn c0 c1 c2 sh tx s kp bw ar tu k0 k1 tr) := by
  refine ev_Cal_of (L := [some (.ref 129), some (.int (nI j)), some (.int (nI b)), some (.int far), none, none, none, none]) (by decide +kernel) (Nat.le_of_ble_eq_true rfl) rfl ?_
  refine md_thr hM dX12_feather_0 dX12_feather_1 dX12_feather_2 rfl rfl (fun M1 hM1 hf1 => ?_)
  obtain ⟨one, gof, dof, act, sp, of', ba, go, dr, ki, up, dn, hX⟩ := md_SX hM1
  have hX0 := hX
  obtain ⟨th, nx, tk, pl, va, fa, d0, d1, d2, dS, dB, dA, ik, h129, h130, h131, h132, h133, hk0, hk1, h134, h135, h136, h137, h138, h139, h140, h141, h142, h143, hsh⟩ := hX
  refine ev_aload_n (i := 0) dX12_feather_5 rfl rfl ?_
  refine ev_iload_n (i := 1) dX12_feather_6 rfl rfl ?_
  refine ev_c2 kX12_feather_7 (c13_isStick h129) (ev_rv_of (by assumption) rfl rfl) (by decide) (by decide) (Nat.le_of_ble_eq_true rfl) ?_
  refine ev_if_eqb (tgt := 31) dX12_feather_10 (by decide) (fun h10 => False.elim (Bool.false_ne_true (h10.symm.trans (sp_in_ix hj (by omega))))) (fun h10 => ?_)
  refine ev_aload_n (i := 0) dX12_feather_13 rfl rfl ?_
  refine ev_iload_n (i := 2) dX12_feather_14 rfl rfl ?_
  refine ev_c2 kX12_feather_15 (c13_isBow h129) (ev_rv_of (by assumption) rfl rfl) (by decide) (by decide) (Nat.le_of_ble_eq_true rfl) ?_
  refine ev_if_eqb (tgt := 31) dX12_feather_18 (by decide) (fun h18 => False.elim (Bool.false_ne_true (h18.symm.trans (sp_in_ix hb (by omega))))) (fun h18 => ?_)
  refine ev_iload_n (i := 3) dX12_feather_21 rfl rfl ?_
  refine ev_iconst (v := 0) dX12_feather_22 cni_0 ?_
  refine ev_bipush (v := 99) dX12_feather_23 cnb_99 ?_
  refine ev_c3 kX12_feather_25 (c13_in) trivial (by decide) (by decide) (Nat.le_of_ble_eq_true rfl) ?_
  refine ev_if_neb (tgt := 33) dX12_feather_28 (by decide) (fun h28 => ?_) (fun h28 => False.elim (Bool.false_ne_true (h28.symm.trans (hfar))))
  refine ev_iconst (v := 0) dX12_feather_33 cni_0 ?_
  refine ev_istore dX12_feather_34 (Nat.le_of_ble_eq_true rfl) rfl ?_
  refine ev_iconst (v := 0) dX12_feather_36 cni_0 ?_
  refine ev_istore dX12_feather_37 (Nat.le_of_ble_eq_true rfl) rfl ?_
  refine ev_iconst (v := 0) dX12_feather_39 cni_0 ?_
  refine ev_istore dX12_feather_40 (Nat.le_of_ble_eq_true rfl) rfl ?_
  exact lm_feather hj hc hb hc1 hs hw ht 10 0 none M1 rfl hM1 hf1
theorem m_feather_no {G : ev_G} {n : Nat} {M : ev_M} {tn c0 c1 c2 sh : Nat} {tx s kp bw ar tu : Nat → Int32} {k0 k1 : Bool} {tr : Int64} (hM : md_S M tn c0 c1 c2 sh tx s kp bw ar tu k0 k1 tr) {x xb far : Int32} (h : (sp_in x 0 (nI c0 - 1) && sp_in xb 0 (nI c1 - 1) && sp_in far 0 99) = false) : ev_Cal G mX12_feather 5 0 0 [.ref 129, .int x, .int xb, .int far] n M (md_is M (.int (-1)) tn c0 c1 c2 sh tx s kp bw ar tu k0 k1 tr) := by
  refine ev_Cal_of (L := [some (.ref 129), some (.int x), some (.int xb), some (.int far), none, none, none, none]) (by decide +kernel) (Nat.le_of_ble_eq_true rfl) rfl ?_
  refine md_thr hM dX12_feather_0 dX12_feather_1 dX12_feather_2 rfl rfl (fun M1 hM1 hf1 => ?_)
  obtain ⟨one, gof, dof, act, sp, of', ba, go, dr, ki, up, dn, hX⟩ := md_SX hM1
  have hX0 := hX
  obtain ⟨th, nx, tk, pl, va, fa, d0, d1, d2, dS, dB, dA, ik, h129, h130, h131, h132, h133, hk0, hk1, h134, h135, h136, h137, h138, h139, h140, h141, h142, h143, hsh⟩ := hX
  refine ev_aload_n (i := 0) dX12_feather_5 rfl rfl ?_
  refine ev_iload_n (i := 1) dX12_feather_6 rfl rfl ?_
  refine ev_c2 kX12_feather_7 (c13_isStick h129) (ev_rv_of (by assumption) rfl rfl) (by decide) (by decide) (Nat.le_of_ble_eq_true rfl) ?_
  refine ev_if_eqb (tgt := 31) dX12_feather_10 (by decide) (fun h10 => ?_) (fun h10 => ?_)
  · skip
    refine ev_iconst (v := (-1)) dX12_feather_31 cni_m1 ?_
    exact ev_reti dX12_feather_32 rfl rfl (⟨rfl, md_XS hX0, hf1⟩)
  · skip
    refine ev_aload_n (i := 0) dX12_feather_13 rfl rfl ?_
    refine ev_iload_n (i := 2) dX12_feather_14 rfl rfl ?_
    refine ev_c2 kX12_feather_15 (c13_isBow h129) (ev_rv_of (by assumption) rfl rfl) (by decide) (by decide) (Nat.le_of_ble_eq_true rfl) ?_
    refine ev_if_eqb (tgt := 31) dX12_feather_18 (by decide) (fun h18 => ?_) (fun h18 => ?_)
    · skip
      refine ev_iconst (v := (-1)) dX12_feather_31 cni_m1 ?_
      exact ev_reti dX12_feather_32 rfl rfl (⟨rfl, md_XS hX0, hf1⟩)
    · skip
      refine ev_iload_n (i := 3) dX12_feather_21 rfl rfl ?_
      refine ev_iconst (v := 0) dX12_feather_22 cni_0 ?_
      refine ev_bipush (v := 99) dX12_feather_23 cnb_99 ?_
      refine ev_c3 kX12_feather_25 (c13_in) trivial (by decide) (by decide) (Nat.le_of_ble_eq_true rfl) ?_
      refine ev_if_neb (tgt := 33) dX12_feather_28 (by decide) (fun h28 => False.elim (by rw [h10, h18, h28] at h; cases h)) (fun h28 => ?_)
      refine ev_iconst (v := (-1)) dX12_feather_31 cni_m1 ?_
      exact ev_reti dX12_feather_32 rfl rfl (⟨rfl, md_XS hX0, hf1⟩)
theorem sb_wm_0 {tu s : Nat → Int32} {dr wi kk : Int32} {i : Nat} : sb_wm tu s dr wi kk 0 i = (sp_clean (tu 0) (fx_of (fun q => s (7 * i + q)) dr wi) && !sp_clean (tu 0) (fx_of (fun q => s (7 * i + q)) (sp_max 1 (dr - kk)) wi)) := by unfold sb_wm; rw [if_pos rfl]; rfl
theorem sb_wm_1 {tu s : Nat → Int32} {dr wi kk : Int32} {i : Nat} : sb_wm tu s dr wi kk 1 i = (!sp_clean (tu 0) (fx_of (fun q => s (7 * i + q)) dr wi) && sp_clean (tu 0) (fx_of (fun q => s (7 * i + q)) (sp_max 1 (dr - kk)) wi)) := by unfold sb_wm; rw [if_neg (by decide)]; rfl
theorem sp_max_ge {a b : Int32} (h : a ≤ b) : sp_max a b = b := by
  unfold sp_max; split
  · rfl
  · rename_i q; exact Int32.le_antisymm h (Int32.not_lt.mp q)
theorem sp_max_lt {a b : Int32} (h : b < a) : sp_max a b = a := by
  unfold sp_max; rw [if_neg (Int32.not_lt.mpr (Int32.le_of_lt h))]
theorem bw_warm {dr wi kk : Int32} (h : bw_ok dr wi) (hk : 0 ≤ kk.toInt ∧ kk.toInt ≤ 20) : bw_ok (sp_max 1 (dr - kk)) wi := by
  refine ⟨?_, h.2⟩
  have e : (dr - kk).toInt = dr.toInt - kk.toInt := ti_sub (A := 70) (B := 20) (rb_of h.1.1 h.1.2 (by omega) (by omega)) (rb_of hk.1 hk.2 (by omega) (by omega)) (by omega)
  have e1 : (1 : Int32).toInt = 1 := by decide +kernel
  have := h.1
  unfold sp_max; split
  · rename_i q; have := Int32.lt_iff_toInt_lt.mp q; omega
  · omega
theorem sp_ki {tu o : Nat → Int32} {dr wi : Int32} (h : fx_ki tu o dr wi = 1) : sp_clean (tu 0) (fx_of o dr wi) = true := sp_clean_t (sl := tu 1) h
theorem sp_ki_no {tu o : Nat → Int32} {dr wi : Int32} (h : ¬ fx_ki tu o dr wi = 1) : sp_clean (tu 0) (fx_of o dr wi) = false := sp_clean_f (sl := tu 1) h
theorem nI_add0 (a : Int32) : a + 0 = a := Int32.add_zero a
theorem lm_warm_0 {G : ev_G} {n : Nat} {M : ev_M} {tn c0 c1 c2 sh : Nat} {tx s kp bw ar tu : Nat → Int32} {k0 k1 : Bool} {tr : Int64} {b : Nat} (hb : b < c1) (hc1 : c1 ≤ 3) (hc : c0 ≤ 12) (hs : ∀ i, i < c0 → sk_ok (fun q => s (7 * i + q))) (hw : bw_ok (bw (2 * b)) (bw (2 * b + 1))) (ht : tu_ok tu) {kk : Int32} (hkk : 0 ≤ kk.toInt ∧ kk.toInt ≤ 20) : ∀ (m i : Nat) (z : Option Value) (M1 : ev_M) (one gof dof act : Nat → Int32) (sp of' ba go dr ki : Int32) (up dn : Int64), i + m = c0 → md_X M1 tn c0 c1 c2 sh tx s kp bw ar tu k0 k1 tr one gof dof act sp of' ba go dr ki up dn → (∀ k, k < 129 → M1 k = M k) → ev_E G mX12_warm 6 0 0 n M1 70 [some (.ref 129), some (.int (nI b)), some (.int kk), some (.int 0), some (.int (sp_max 1 (bw (2 * b) - kk))), some (.int (sp_cnt (sb_wm tu s (bw (2 * b)) (bw (2 * b + 1)) kk 0) i)), some (.int (nI i)), z] [] (md_is M (.int (sp_cnt (sb_wm tu s (bw (2 * b)) (bw (2 * b + 1)) kk 0) c0)) tn c0 c1 c2 sh tx s kp bw ar tu k0 k1 tr) := by
  intro m
  induction m with
  | zero =>
    intro i z M1 one gof dof act sp of' ba go dr ki up dn hk hX0 hf1
    have hX := hX0
    obtain ⟨th, nx, tk, pl, va, fa, d0, d1, d2, dS, dB, dA, ik, h129, h130, h131, h132, h133, hk0, hk1, h134, h135, h136, h137, h138, h139, h140, h141, h142, h143, hsh⟩ := hX
    refine ev_iload dX12_warm_70 rfl ?_
    refine ev_aload_n (i := 0) dX12_warm_72 rfl rfl ?_
    refine ev_getf dX12_warm_73 flX12_127 (by assumption) (by rfl) ?_
    refine ev_icmp_ge (tgt := 166) dX12_warm_76 (by decide) (fun h76 => ?_) (fun h76 => False.elim (Int32.not_le.mpr h76 (nI_le (a := c0) (b := i) (by omega) (by omega))))
    obtain rfl : i = c0 := by omega
    refine ev_iload dX12_warm_166 rfl ?_
    exact ev_reti dX12_warm_168 rfl rfl (⟨rfl, md_XS hX0, hf1⟩)
  | succ m ih =>
    intro i z M1 one gof dof act sp of' ba go dr ki up dn hk hX0 hf1
    have hX := hX0
    obtain ⟨th, nx, tk, pl, va, fa, d0, d1, d2, dS, dB, dA, ik, h129, h130, h131, h132, h133, hk0, hk1, h134, h135, h136, h137, h138, h139, h140, h141, h142, h143, hsh⟩ := hX
    refine ev_iload dX12_warm_70 rfl ?_
    refine ev_aload_n (i := 0) dX12_warm_72 rfl rfl ?_
    refine ev_getf dX12_warm_73 flX12_127 (by assumption) (by rfl) ?_
    refine ev_icmp_ge (tgt := 166) dX12_warm_76 (by decide) (fun h76 => False.elim (nI_ge (a := i) (b := c0) (by omega) (by omega) h76)) (fun h76 => ?_)
    refine ev_aload_n (i := 0) dX12_warm_79 rfl rfl ?_
    refine ev_iload dX12_warm_80 rfl ?_
    refine ev_iload_n (i := 1) dX12_warm_82 rfl rfl ?_
    refine ev_d3 kX12_warm_83 (m_fliesWith (j := i) hX0 (by omega) hc hb hc1 (hs i (by omega)) hw ht) (ev_rv_of (by assumption) rfl rfl) (by decide) (by decide) (Nat.le_of_ble_eq_true rfl) ?_
    intro r M2 hr
    obtain ⟨rfl, ⟨o2, ho, hX⟩, hf2⟩ := hr
    have hX0 := hX
    obtain ⟨th, nx, tk, pl, va, fa, d0, d1, d2, dS, dB, dA, ik, h129, h130, h131, h132, h133, hk0, hk1, h134, h135, h136, h137, h138, h139, h140, h141, h142, h143, hsh⟩ := hX
    refine ev_aload_n (i := 0) dX12_warm_86 rfl rfl ?_
    refine ev_getf dX12_warm_87 flX12_162 (by assumption) (by rfl) ?_
    refine ev_iconst (v := 1) dX12_warm_90 cni_1 ?_
    refine ev_icmp_ne (tgt := 98) dX12_warm_91 (by decide) (fun h91 => ?_) (fun h91 => ?_)
    · skip
      refine ev_iconst (v := 0) dX12_warm_98 cni_0 ?_
      refine ev_istore dX12_warm_99 (Nat.le_of_ble_eq_true rfl) rfl ?_
      refine ev_aload_n (i := 0) dX12_warm_101 rfl rfl ?_
      refine ev_iload dX12_warm_102 rfl ?_
      refine ev_aload_n (i := 0) dX12_warm_104 rfl rfl ?_
      refine ev_getf dX12_warm_105 flX12_23 (by assumption) (by rfl) ?_
      refine ev_iconst (v := 2) dX12_warm_108 cni_2 ?_
      refine ev_iload_n (i := 1) dX12_warm_109 rfl rfl ?_
      refine ev_imul dX12_warm_110 ?_
      refine ev_iconst (v := 1) dX12_warm_111 cni_1 ?_
      refine ev_iadd dX12_warm_112 ?_
      refine ev_iald (j := 2 * b + 1) dX12_warm_113 (by assumption) (ev_ix2 b 1 (by omega)) (by omega) ?_
      refine ev_d3 kX12_warm_114 (m_flies hX0 (sk_congr ho (hs i (by omega))) (bw_warm hw hkk) ht) (ev_rv_of (by assumption) rfl rfl) (by decide) (by decide) (Nat.le_of_ble_eq_true rfl) ?_
      intro r M3 hr
      obtain ⟨rfl, hX, hf3⟩ := hr
      rw [fx_sp_c ho, fx_of_c ho, fx_ba_c ho, fx_go_c ho, fx_dr_c ho, fx_ki_c ho] at hX
      have hX0 := hX
      obtain ⟨th, nx, tk, pl, va, fa, d0, d1, d2, dS, dB, dA, ik, h129, h130, h131, h132, h133, hk0, hk1, h134, h135, h136, h137, h138, h139, h140, h141, h142, h143, hsh⟩ := hX
      refine ev_iload dX12_warm_117 rfl ?_
      refine ev_iload_n (i := 3) dX12_warm_119 rfl rfl ?_
      refine ev_if_ne (tgt := 139) dX12_warm_120 (by decide) (fun h120 => False.elim (absurd rfl h120)) (fun h120 => ?_)
      refine ev_iload dX12_warm_123 rfl ?_
      refine ev_if_eq (tgt := 156) dX12_warm_125 (by decide) (fun h125 => ?_) (fun h125 => False.elim (absurd rfl h125))
      refine ev_iconst (v := 0) dX12_warm_156 cni_0 ?_
      refine ev_iadd dX12_warm_157 ?_
      refine ev_istore dX12_warm_158 (Nat.le_of_ble_eq_true rfl) rfl ?_
      refine ev_iinc (v := nI (i + 1)) dX12_warm_160 rfl (nI_1 i) (Nat.le_of_ble_eq_true rfl) rfl ?_
      refine ev_goto (tgt := 70) dX12_warm_163 (by decide) ?_
      refine ev_loc (L2 := [some (.ref 129), some (.int (nI b)), some (.int kk), some (.int 0), some (.int (sp_max 1 (bw (2 * b) - kk))), some (.int (sp_cnt (sb_wm tu s (bw (2 * b)) (bw (2 * b + 1)) kk 0) (i + 1))), some (.int (nI (i + 1))), some (.int 0)]) (by first | (rw [sp_cnt_1 (P := (sb_wm tu s (bw (2 * b)) (bw (2 * b + 1)) kk 0)) (k := i) (by first | (rw [sb_wm_0, (sp_ki_no h91), (sp_ki h133)]; rfl) | (rw [sb_wm_0, (sp_ki_no h91), (sp_ki_no h133)]; rfl) | (rw [sb_wm_0, (sp_ki_no h91)]; rfl) | (rw [sb_wm_0, (sp_ki_no h91)]; simp))]; rfl) | (rw [sp_cnt_0 (P := (sb_wm tu s (bw (2 * b)) (bw (2 * b + 1)) kk 0)) (k := i) (by first | (rw [sb_wm_0, (sp_ki_no h91), (sp_ki h133)]; rfl) | (rw [sb_wm_0, (sp_ki_no h91), (sp_ki_no h133)]; rfl) | (rw [sb_wm_0, (sp_ki_no h91)]; rfl) | (rw [sb_wm_0, (sp_ki_no h91)]; simp)), nI_add0 (sp_cnt (sb_wm tu s (bw (2 * b)) (bw (2 * b + 1)) kk 0) i)]; rfl))  (ih (i + 1) _ M3 _ _ _ _ _ _ _ _ _ _ _ _ (by omega) hX0 (fun k hk => (hf3 k hk).trans ((hf2 k hk).trans (hf1 k hk))))
    · skip
      refine ev_iconst (v := 1) dX12_warm_94 cni_1 ?_
      refine ev_goto (tgt := 99) dX12_warm_95 (by decide) ?_
      refine ev_istore dX12_warm_99 (Nat.le_of_ble_eq_true rfl) rfl ?_
      refine ev_aload_n (i := 0) dX12_warm_101 rfl rfl ?_
      refine ev_iload dX12_warm_102 rfl ?_
      refine ev_aload_n (i := 0) dX12_warm_104 rfl rfl ?_
      refine ev_getf dX12_warm_105 flX12_23 (by assumption) (by rfl) ?_
      refine ev_iconst (v := 2) dX12_warm_108 cni_2 ?_
      refine ev_iload_n (i := 1) dX12_warm_109 rfl rfl ?_
      refine ev_imul dX12_warm_110 ?_
      refine ev_iconst (v := 1) dX12_warm_111 cni_1 ?_
      refine ev_iadd dX12_warm_112 ?_
      refine ev_iald (j := 2 * b + 1) dX12_warm_113 (by assumption) (ev_ix2 b 1 (by omega)) (by omega) ?_
      refine ev_d3 kX12_warm_114 (m_flies hX0 (sk_congr ho (hs i (by omega))) (bw_warm hw hkk) ht) (ev_rv_of (by assumption) rfl rfl) (by decide) (by decide) (Nat.le_of_ble_eq_true rfl) ?_
      intro r M3 hr
      obtain ⟨rfl, hX, hf3⟩ := hr
      rw [fx_sp_c ho, fx_of_c ho, fx_ba_c ho, fx_go_c ho, fx_dr_c ho, fx_ki_c ho] at hX
      have hX0 := hX
      obtain ⟨th, nx, tk, pl, va, fa, d0, d1, d2, dS, dB, dA, ik, h129, h130, h131, h132, h133, hk0, hk1, h134, h135, h136, h137, h138, h139, h140, h141, h142, h143, hsh⟩ := hX
      refine ev_iload dX12_warm_117 rfl ?_
      refine ev_iload_n (i := 3) dX12_warm_119 rfl rfl ?_
      refine ev_if_ne (tgt := 139) dX12_warm_120 (by decide) (fun h120 => False.elim (absurd rfl h120)) (fun h120 => ?_)
      refine ev_iload dX12_warm_123 rfl ?_
      refine ev_if_eq (tgt := 156) dX12_warm_125 (by decide) (fun h125 => False.elim (absurd h125 (by decide))) (fun h125 => ?_)
      refine ev_aload_n (i := 0) dX12_warm_128 rfl rfl ?_
      refine ev_getf dX12_warm_129 flX12_162 (by assumption) (by rfl) ?_
      refine ev_iconst (v := 1) dX12_warm_132 cni_1 ?_
      refine ev_icmp_eq (tgt := 156) dX12_warm_133 (by decide) (fun h133 => ?_) (fun h133 => ?_)
      · skip
        refine ev_iconst (v := 0) dX12_warm_156 cni_0 ?_
        refine ev_iadd dX12_warm_157 ?_
        refine ev_istore dX12_warm_158 (Nat.le_of_ble_eq_true rfl) rfl ?_
        refine ev_iinc (v := nI (i + 1)) dX12_warm_160 rfl (nI_1 i) (Nat.le_of_ble_eq_true rfl) rfl ?_
        refine ev_goto (tgt := 70) dX12_warm_163 (by decide) ?_
        refine ev_loc (L2 := [some (.ref 129), some (.int (nI b)), some (.int kk), some (.int 0), some (.int (sp_max 1 (bw (2 * b) - kk))), some (.int (sp_cnt (sb_wm tu s (bw (2 * b)) (bw (2 * b + 1)) kk 0) (i + 1))), some (.int (nI (i + 1))), some (.int 1)]) (by first | (rw [sp_cnt_1 (P := (sb_wm tu s (bw (2 * b)) (bw (2 * b + 1)) kk 0)) (k := i) (by first | (rw [sb_wm_0, (sp_ki h91), (sp_ki h133)]; rfl) | (rw [sb_wm_0, (sp_ki h91), (sp_ki_no h133)]; rfl) | (rw [sb_wm_0, (sp_ki h91)]; rfl) | (rw [sb_wm_0, (sp_ki h91)]; simp))]; rfl) | (rw [sp_cnt_0 (P := (sb_wm tu s (bw (2 * b)) (bw (2 * b + 1)) kk 0)) (k := i) (by first | (rw [sb_wm_0, (sp_ki h91), (sp_ki h133)]; rfl) | (rw [sb_wm_0, (sp_ki h91), (sp_ki_no h133)]; rfl) | (rw [sb_wm_0, (sp_ki h91)]; rfl) | (rw [sb_wm_0, (sp_ki h91)]; simp)), nI_add0 (sp_cnt (sb_wm tu s (bw (2 * b)) (bw (2 * b + 1)) kk 0) i)]; rfl))  (ih (i + 1) _ M3 _ _ _ _ _ _ _ _ _ _ _ _ (by omega) hX0 (fun k hk => (hf3 k hk).trans ((hf2 k hk).trans (hf1 k hk))))
      · skip
        refine ev_goto (tgt := 152) dX12_warm_136 (by decide) ?_
        refine ev_iconst (v := 1) dX12_warm_152 cni_1 ?_
        refine ev_goto (tgt := 157) dX12_warm_153 (by decide) ?_
        refine ev_iadd dX12_warm_157 ?_
        refine ev_istore dX12_warm_158 (Nat.le_of_ble_eq_true rfl) rfl ?_
        refine ev_iinc (v := nI (i + 1)) dX12_warm_160 rfl (nI_1 i) (Nat.le_of_ble_eq_true rfl) rfl ?_
        refine ev_goto (tgt := 70) dX12_warm_163 (by decide) ?_
        refine ev_loc (L2 := [some (.ref 129), some (.int (nI b)), some (.int kk), some (.int 0), some (.int (sp_max 1 (bw (2 * b) - kk))), some (.int (sp_cnt (sb_wm tu s (bw (2 * b)) (bw (2 * b + 1)) kk 0) (i + 1))), some (.int (nI (i + 1))), some (.int 1)]) (by first | (rw [sp_cnt_1 (P := (sb_wm tu s (bw (2 * b)) (bw (2 * b + 1)) kk 0)) (k := i) (by first | (rw [sb_wm_0, (sp_ki h91), (sp_ki h133)]; rfl) | (rw [sb_wm_0, (sp_ki h91), (sp_ki_no h133)]; rfl) | (rw [sb_wm_0, (sp_ki h91)]; rfl) | (rw [sb_wm_0, (sp_ki h91)]; simp))]; rfl) | (rw [sp_cnt_0 (P := (sb_wm tu s (bw (2 * b)) (bw (2 * b + 1)) kk 0)) (k := i) (by first | (rw [sb_wm_0, (sp_ki h91), (sp_ki h133)]; rfl) | (rw [sb_wm_0, (sp_ki h91), (sp_ki_no h133)]; rfl) | (rw [sb_wm_0, (sp_ki h91)]; rfl) | (rw [sb_wm_0, (sp_ki h91)]; simp)), nI_add0 (sp_cnt (sb_wm tu s (bw (2 * b)) (bw (2 * b + 1)) kk 0) i)]; rfl))  (ih (i + 1) _ M3 _ _ _ _ _ _ _ _ _ _ _ _ (by omega) hX0 (fun k hk => (hf3 k hk).trans ((hf2 k hk).trans (hf1 k hk))))
theorem m_warm_0 {G : ev_G} {n : Nat} {M : ev_M} {tn c0 c1 c2 sh : Nat} {tx s kp bw ar tu : Nat → Int32} {k0 k1 : Bool} {tr : Int64} (hM : md_S M tn c0 c1 c2 sh tx s kp bw ar tu k0 k1 tr) {b : Nat} (hb : b < c1) (hc1 : c1 ≤ 3) (hc : c0 ≤ 12) (hs : ∀ i, i < c0 → sk_ok (fun q => s (7 * i + q))) (hw : bw_ok (bw (2 * b)) (bw (2 * b + 1))) (ht : tu_ok tu) {kk : Int32} (hkr : sp_in kk 0 20 = true) : ev_Cal G mX12_warm 6 0 0 [.ref 129, .int (nI b), .int kk, .int 0] n M (md_is M (.int (sp_cnt (sb_wm tu s (bw (2 * b)) (bw (2 * b + 1)) kk 0) c0)) tn c0 c1 c2 sh tx s kp bw ar tu k0 k1 tr) := by
  refine ev_Cal_of (L := [some (.ref 129), some (.int (nI b)), some (.int kk), some (.int 0), none, none, none, none]) (by decide +kernel) (Nat.le_of_ble_eq_true rfl) rfl ?_
  refine md_thr hM dX12_warm_0 dX12_warm_1 dX12_warm_2 rfl rfl (fun M1 hM1 hf1 => ?_)
  obtain ⟨one, gof, dof, act, sp, of', ba, go, dr, ki, up, dn, hX⟩ := md_SX hM1
  have hX0 := hX
  obtain ⟨th, nx, tk, pl, va, fa, d0, d1, d2, dS, dB, dA, ik, h129, h130, h131, h132, h133, hk0, hk1, h134, h135, h136, h137, h138, h139, h140, h141, h142, h143, hsh⟩ := hX
  refine ev_aload_n (i := 0) dX12_warm_5 rfl rfl ?_
  refine ev_iload_n (i := 1) dX12_warm_6 rfl rfl ?_
  refine ev_c2 kX12_warm_7 (c13_isBow h129) (ev_rv_of (by assumption) rfl rfl) (by decide) (by decide) (Nat.le_of_ble_eq_true rfl) ?_
  refine ev_if_eqb (tgt := 32) dX12_warm_10 (by decide) (fun h10 => False.elim (Bool.false_ne_true (h10.symm.trans (sp_in_ix hb (by omega))))) (fun h10 => ?_)
  refine ev_iload_n (i := 2) dX12_warm_13 rfl rfl ?_
  refine ev_iconst (v := 0) dX12_warm_14 cni_0 ?_
  refine ev_bipush (v := 20) dX12_warm_15 cnb_20 ?_
  refine ev_c3 kX12_warm_17 (c13_in) trivial (by decide) (by decide) (Nat.le_of_ble_eq_true rfl) ?_
  refine ev_if_eqb (tgt := 32) dX12_warm_20 (by decide) (fun h20 => False.elim (Bool.false_ne_true (h20.symm.trans (hkr)))) (fun h20 => ?_)
  refine ev_iload_n (i := 3) dX12_warm_23 rfl rfl ?_
  refine ev_iconst (v := 0) dX12_warm_24 cni_0 ?_
  refine ev_iconst (v := 1) dX12_warm_25 cni_1 ?_
  refine ev_c3 kX12_warm_26 (c13_in) trivial (by decide) (by decide) (Nat.le_of_ble_eq_true rfl) ?_
  refine ev_if_neb (tgt := 34) dX12_warm_29 (by decide) (fun h29 => ?_) (fun h29 => False.elim (Bool.false_ne_true (h29.symm.trans (by decide))))
  refine ev_aload_n (i := 0) dX12_warm_34 rfl rfl ?_
  refine ev_getf dX12_warm_35 flX12_23 (by assumption) (by rfl) ?_
  refine ev_iconst (v := 2) dX12_warm_38 cni_2 ?_
  refine ev_iload_n (i := 1) dX12_warm_39 rfl rfl ?_
  refine ev_imul dX12_warm_40 ?_
  refine ev_iald (j := 2 * b) dX12_warm_41 (by assumption) (ev_ix20 b (by omega)) (by omega) ?_
  refine ev_iload_n (i := 2) dX12_warm_42 rfl rfl ?_
  refine ev_isub dX12_warm_43 ?_
  refine ev_iconst (v := 1) dX12_warm_44 cni_1 ?_
  refine ev_icmp_ge (tgt := 52) dX12_warm_45 (by decide) (fun h45 => ?_) (fun h45 => ?_)
  · skip
    refine ev_aload_n (i := 0) dX12_warm_52 rfl rfl ?_
    refine ev_getf dX12_warm_53 flX12_23 (by assumption) (by rfl) ?_
    refine ev_iconst (v := 2) dX12_warm_56 cni_2 ?_
    refine ev_iload_n (i := 1) dX12_warm_57 rfl rfl ?_
    refine ev_imul dX12_warm_58 ?_
    refine ev_iald (j := 2 * b) dX12_warm_59 (by assumption) (ev_ix20 b (by omega)) (by omega) ?_
    refine ev_iload_n (i := 2) dX12_warm_60 rfl rfl ?_
    refine ev_isub dX12_warm_61 ?_
    refine ev_topi (x2 := (sp_max 1 (bw (2 * b) - kk))) (by first | rw [sp_max_lt h45] | rw [sp_max_ge h45]) ?_
    refine ev_istore dX12_warm_62 (Nat.le_of_ble_eq_true rfl) rfl ?_
    refine ev_iconst (v := 0) dX12_warm_64 cni_0 ?_
    refine ev_istore dX12_warm_65 (Nat.le_of_ble_eq_true rfl) rfl ?_
    refine ev_iconst (v := 0) dX12_warm_67 cni_0 ?_
    refine ev_istore dX12_warm_68 (Nat.le_of_ble_eq_true rfl) rfl ?_
    exact lm_warm_0 hb hc1 hc hs hw ht (sp_in_to (a := 0) (b := 20) hkr (by decide +kernel) (by decide +kernel)) c0 0 none M1 _ _ _ _ _ _ _ _ _ _ _ _ (Nat.zero_add _) hX0 hf1
  · skip
    refine ev_iconst (v := 1) dX12_warm_48 cni_1 ?_
    refine ev_goto (tgt := 62) dX12_warm_49 (by decide) ?_
    refine ev_topi (x2 := (sp_max 1 (bw (2 * b) - kk))) (by first | rw [sp_max_lt h45] | rw [sp_max_ge h45]) ?_
    refine ev_istore dX12_warm_62 (Nat.le_of_ble_eq_true rfl) rfl ?_
    refine ev_iconst (v := 0) dX12_warm_64 cni_0 ?_
    refine ev_istore dX12_warm_65 (Nat.le_of_ble_eq_true rfl) rfl ?_
    refine ev_iconst (v := 0) dX12_warm_67 cni_0 ?_
    refine ev_istore dX12_warm_68 (Nat.le_of_ble_eq_true rfl) rfl ?_
    exact lm_warm_0 hb hc1 hc hs hw ht (sp_in_to (a := 0) (b := 20) hkr (by decide +kernel) (by decide +kernel)) c0 0 none M1 _ _ _ _ _ _ _ _ _ _ _ _ (Nat.zero_add _) hX0 hf1
theorem lm_warm_1 {G : ev_G} {n : Nat} {M : ev_M} {tn c0 c1 c2 sh : Nat} {tx s kp bw ar tu : Nat → Int32} {k0 k1 : Bool} {tr : Int64} {b : Nat} (hb : b < c1) (hc1 : c1 ≤ 3) (hc : c0 ≤ 12) (hs : ∀ i, i < c0 → sk_ok (fun q => s (7 * i + q))) (hw : bw_ok (bw (2 * b)) (bw (2 * b + 1))) (ht : tu_ok tu) {kk : Int32} (hkk : 0 ≤ kk.toInt ∧ kk.toInt ≤ 20) : ∀ (m i : Nat) (z : Option Value) (M1 : ev_M) (one gof dof act : Nat → Int32) (sp of' ba go dr ki : Int32) (up dn : Int64), i + m = c0 → md_X M1 tn c0 c1 c2 sh tx s kp bw ar tu k0 k1 tr one gof dof act sp of' ba go dr ki up dn → (∀ k, k < 129 → M1 k = M k) → ev_E G mX12_warm 6 0 0 n M1 70 [some (.ref 129), some (.int (nI b)), some (.int kk), some (.int 1), some (.int (sp_max 1 (bw (2 * b) - kk))), some (.int (sp_cnt (sb_wm tu s (bw (2 * b)) (bw (2 * b + 1)) kk 1) i)), some (.int (nI i)), z] [] (md_is M (.int (sp_cnt (sb_wm tu s (bw (2 * b)) (bw (2 * b + 1)) kk 1) c0)) tn c0 c1 c2 sh tx s kp bw ar tu k0 k1 tr) := by
  intro m
  induction m with
  | zero =>
    intro i z M1 one gof dof act sp of' ba go dr ki up dn hk hX0 hf1
    have hX := hX0
    obtain ⟨th, nx, tk, pl, va, fa, d0, d1, d2, dS, dB, dA, ik, h129, h130, h131, h132, h133, hk0, hk1, h134, h135, h136, h137, h138, h139, h140, h141, h142, h143, hsh⟩ := hX
    refine ev_iload dX12_warm_70 rfl ?_
    refine ev_aload_n (i := 0) dX12_warm_72 rfl rfl ?_
    refine ev_getf dX12_warm_73 flX12_127 (by assumption) (by rfl) ?_
    refine ev_icmp_ge (tgt := 166) dX12_warm_76 (by decide) (fun h76 => ?_) (fun h76 => False.elim (Int32.not_le.mpr h76 (nI_le (a := c0) (b := i) (by omega) (by omega))))
    obtain rfl : i = c0 := by omega
    refine ev_iload dX12_warm_166 rfl ?_
    exact ev_reti dX12_warm_168 rfl rfl (⟨rfl, md_XS hX0, hf1⟩)
  | succ m ih =>
    intro i z M1 one gof dof act sp of' ba go dr ki up dn hk hX0 hf1
    have hX := hX0
    obtain ⟨th, nx, tk, pl, va, fa, d0, d1, d2, dS, dB, dA, ik, h129, h130, h131, h132, h133, hk0, hk1, h134, h135, h136, h137, h138, h139, h140, h141, h142, h143, hsh⟩ := hX
    refine ev_iload dX12_warm_70 rfl ?_
    refine ev_aload_n (i := 0) dX12_warm_72 rfl rfl ?_
    refine ev_getf dX12_warm_73 flX12_127 (by assumption) (by rfl) ?_
    refine ev_icmp_ge (tgt := 166) dX12_warm_76 (by decide) (fun h76 => False.elim (nI_ge (a := i) (b := c0) (by omega) (by omega) h76)) (fun h76 => ?_)
    refine ev_aload_n (i := 0) dX12_warm_79 rfl rfl ?_
    refine ev_iload dX12_warm_80 rfl ?_
    refine ev_iload_n (i := 1) dX12_warm_82 rfl rfl ?_
    refine ev_d3 kX12_warm_83 (m_fliesWith (j := i) hX0 (by omega) hc hb hc1 (hs i (by omega)) hw ht) (ev_rv_of (by assumption) rfl rfl) (by decide) (by decide) (Nat.le_of_ble_eq_true rfl) ?_
    intro r M2 hr
    obtain ⟨rfl, ⟨o2, ho, hX⟩, hf2⟩ := hr
    have hX0 := hX
    obtain ⟨th, nx, tk, pl, va, fa, d0, d1, d2, dS, dB, dA, ik, h129, h130, h131, h132, h133, hk0, hk1, h134, h135, h136, h137, h138, h139, h140, h141, h142, h143, hsh⟩ := hX
    refine ev_aload_n (i := 0) dX12_warm_86 rfl rfl ?_
    refine ev_getf dX12_warm_87 flX12_162 (by assumption) (by rfl) ?_
    refine ev_iconst (v := 1) dX12_warm_90 cni_1 ?_
    refine ev_icmp_ne (tgt := 98) dX12_warm_91 (by decide) (fun h91 => ?_) (fun h91 => ?_)
    · skip
      refine ev_iconst (v := 0) dX12_warm_98 cni_0 ?_
      refine ev_istore dX12_warm_99 (Nat.le_of_ble_eq_true rfl) rfl ?_
      refine ev_aload_n (i := 0) dX12_warm_101 rfl rfl ?_
      refine ev_iload dX12_warm_102 rfl ?_
      refine ev_aload_n (i := 0) dX12_warm_104 rfl rfl ?_
      refine ev_getf dX12_warm_105 flX12_23 (by assumption) (by rfl) ?_
      refine ev_iconst (v := 2) dX12_warm_108 cni_2 ?_
      refine ev_iload_n (i := 1) dX12_warm_109 rfl rfl ?_
      refine ev_imul dX12_warm_110 ?_
      refine ev_iconst (v := 1) dX12_warm_111 cni_1 ?_
      refine ev_iadd dX12_warm_112 ?_
      refine ev_iald (j := 2 * b + 1) dX12_warm_113 (by assumption) (ev_ix2 b 1 (by omega)) (by omega) ?_
      refine ev_d3 kX12_warm_114 (m_flies hX0 (sk_congr ho (hs i (by omega))) (bw_warm hw hkk) ht) (ev_rv_of (by assumption) rfl rfl) (by decide) (by decide) (Nat.le_of_ble_eq_true rfl) ?_
      intro r M3 hr
      obtain ⟨rfl, hX, hf3⟩ := hr
      rw [fx_sp_c ho, fx_of_c ho, fx_ba_c ho, fx_go_c ho, fx_dr_c ho, fx_ki_c ho] at hX
      have hX0 := hX
      obtain ⟨th, nx, tk, pl, va, fa, d0, d1, d2, dS, dB, dA, ik, h129, h130, h131, h132, h133, hk0, hk1, h134, h135, h136, h137, h138, h139, h140, h141, h142, h143, hsh⟩ := hX
      refine ev_iload dX12_warm_117 rfl ?_
      refine ev_iload_n (i := 3) dX12_warm_119 rfl rfl ?_
      refine ev_if_ne (tgt := 139) dX12_warm_120 (by decide) (fun h120 => ?_) (fun h120 => False.elim (absurd h120 (by decide)))
      refine ev_iload dX12_warm_139 rfl ?_
      refine ev_if_ne (tgt := 156) dX12_warm_141 (by decide) (fun h141 => False.elim (absurd rfl h141)) (fun h141 => ?_)
      refine ev_aload_n (i := 0) dX12_warm_144 rfl rfl ?_
      refine ev_getf dX12_warm_145 flX12_162 (by assumption) (by rfl) ?_
      refine ev_iconst (v := 1) dX12_warm_148 cni_1 ?_
      refine ev_icmp_ne (tgt := 156) dX12_warm_149 (by decide) (fun h149 => ?_) (fun h149 => ?_)
      · skip
        refine ev_iconst (v := 0) dX12_warm_156 cni_0 ?_
        refine ev_iadd dX12_warm_157 ?_
        refine ev_istore dX12_warm_158 (Nat.le_of_ble_eq_true rfl) rfl ?_
        refine ev_iinc (v := nI (i + 1)) dX12_warm_160 rfl (nI_1 i) (Nat.le_of_ble_eq_true rfl) rfl ?_
        refine ev_goto (tgt := 70) dX12_warm_163 (by decide) ?_
        refine ev_loc (L2 := [some (.ref 129), some (.int (nI b)), some (.int kk), some (.int 1), some (.int (sp_max 1 (bw (2 * b) - kk))), some (.int (sp_cnt (sb_wm tu s (bw (2 * b)) (bw (2 * b + 1)) kk 1) (i + 1))), some (.int (nI (i + 1))), some (.int 0)]) (by first | (rw [sp_cnt_1 (P := (sb_wm tu s (bw (2 * b)) (bw (2 * b + 1)) kk 1)) (k := i) (by first | (rw [sb_wm_1, (sp_ki_no h91), (sp_ki h149)]; rfl) | (rw [sb_wm_1, (sp_ki_no h91), (sp_ki_no h149)]; rfl) | (rw [sb_wm_1, (sp_ki_no h91)]; rfl) | (rw [sb_wm_1, (sp_ki_no h91)]; simp))]; rfl) | (rw [sp_cnt_0 (P := (sb_wm tu s (bw (2 * b)) (bw (2 * b + 1)) kk 1)) (k := i) (by first | (rw [sb_wm_1, (sp_ki_no h91), (sp_ki h149)]; rfl) | (rw [sb_wm_1, (sp_ki_no h91), (sp_ki_no h149)]; rfl) | (rw [sb_wm_1, (sp_ki_no h91)]; rfl) | (rw [sb_wm_1, (sp_ki_no h91)]; simp)), nI_add0 (sp_cnt (sb_wm tu s (bw (2 * b)) (bw (2 * b + 1)) kk 1) i)]; rfl))  (ih (i + 1) _ M3 _ _ _ _ _ _ _ _ _ _ _ _ (by omega) hX0 (fun k hk => (hf3 k hk).trans ((hf2 k hk).trans (hf1 k hk))))
      · skip
        refine ev_iconst (v := 1) dX12_warm_152 cni_1 ?_
        refine ev_goto (tgt := 157) dX12_warm_153 (by decide) ?_
        refine ev_iadd dX12_warm_157 ?_
        refine ev_istore dX12_warm_158 (Nat.le_of_ble_eq_true rfl) rfl ?_
        refine ev_iinc (v := nI (i + 1)) dX12_warm_160 rfl (nI_1 i) (Nat.le_of_ble_eq_true rfl) rfl ?_
        refine ev_goto (tgt := 70) dX12_warm_163 (by decide) ?_
        refine ev_loc (L2 := [some (.ref 129), some (.int (nI b)), some (.int kk), some (.int 1), some (.int (sp_max 1 (bw (2 * b) - kk))), some (.int (sp_cnt (sb_wm tu s (bw (2 * b)) (bw (2 * b + 1)) kk 1) (i + 1))), some (.int (nI (i + 1))), some (.int 0)]) (by first | (rw [sp_cnt_1 (P := (sb_wm tu s (bw (2 * b)) (bw (2 * b + 1)) kk 1)) (k := i) (by first | (rw [sb_wm_1, (sp_ki_no h91), (sp_ki h149)]; rfl) | (rw [sb_wm_1, (sp_ki_no h91), (sp_ki_no h149)]; rfl) | (rw [sb_wm_1, (sp_ki_no h91)]; rfl) | (rw [sb_wm_1, (sp_ki_no h91)]; simp))]; rfl) | (rw [sp_cnt_0 (P := (sb_wm tu s (bw (2 * b)) (bw (2 * b + 1)) kk 1)) (k := i) (by first | (rw [sb_wm_1, (sp_ki_no h91), (sp_ki h149)]; rfl) | (rw [sb_wm_1, (sp_ki_no h91), (sp_ki_no h149)]; rfl) | (rw [sb_wm_1, (sp_ki_no h91)]; rfl) | (rw [sb_wm_1, (sp_ki_no h91)]; simp)), nI_add0 (sp_cnt (sb_wm tu s (bw (2 * b)) (bw (2 * b + 1)) kk 1) i)]; rfl))  (ih (i + 1) _ M3 _ _ _ _ _ _ _ _ _ _ _ _ (by omega) hX0 (fun k hk => (hf3 k hk).trans ((hf2 k hk).trans (hf1 k hk))))
    · skip
      refine ev_iconst (v := 1) dX12_warm_94 cni_1 ?_
      refine ev_goto (tgt := 99) dX12_warm_95 (by decide) ?_
      refine ev_istore dX12_warm_99 (Nat.le_of_ble_eq_true rfl) rfl ?_
      refine ev_aload_n (i := 0) dX12_warm_101 rfl rfl ?_
      refine ev_iload dX12_warm_102 rfl ?_
      refine ev_aload_n (i := 0) dX12_warm_104 rfl rfl ?_
      refine ev_getf dX12_warm_105 flX12_23 (by assumption) (by rfl) ?_
      refine ev_iconst (v := 2) dX12_warm_108 cni_2 ?_
      refine ev_iload_n (i := 1) dX12_warm_109 rfl rfl ?_
      refine ev_imul dX12_warm_110 ?_
      refine ev_iconst (v := 1) dX12_warm_111 cni_1 ?_
      refine ev_iadd dX12_warm_112 ?_
      refine ev_iald (j := 2 * b + 1) dX12_warm_113 (by assumption) (ev_ix2 b 1 (by omega)) (by omega) ?_
      refine ev_d3 kX12_warm_114 (m_flies hX0 (sk_congr ho (hs i (by omega))) (bw_warm hw hkk) ht) (ev_rv_of (by assumption) rfl rfl) (by decide) (by decide) (Nat.le_of_ble_eq_true rfl) ?_
      intro r M3 hr
      obtain ⟨rfl, hX, hf3⟩ := hr
      rw [fx_sp_c ho, fx_of_c ho, fx_ba_c ho, fx_go_c ho, fx_dr_c ho, fx_ki_c ho] at hX
      have hX0 := hX
      obtain ⟨th, nx, tk, pl, va, fa, d0, d1, d2, dS, dB, dA, ik, h129, h130, h131, h132, h133, hk0, hk1, h134, h135, h136, h137, h138, h139, h140, h141, h142, h143, hsh⟩ := hX
      refine ev_iload dX12_warm_117 rfl ?_
      refine ev_iload_n (i := 3) dX12_warm_119 rfl rfl ?_
      refine ev_if_ne (tgt := 139) dX12_warm_120 (by decide) (fun h120 => ?_) (fun h120 => False.elim (absurd h120 (by decide)))
      refine ev_iload dX12_warm_139 rfl ?_
      refine ev_if_ne (tgt := 156) dX12_warm_141 (by decide) (fun h141 => ?_) (fun h141 => False.elim (absurd h141 (by decide)))
      refine ev_iconst (v := 0) dX12_warm_156 cni_0 ?_
      refine ev_iadd dX12_warm_157 ?_
      refine ev_istore dX12_warm_158 (Nat.le_of_ble_eq_true rfl) rfl ?_
      refine ev_iinc (v := nI (i + 1)) dX12_warm_160 rfl (nI_1 i) (Nat.le_of_ble_eq_true rfl) rfl ?_
      refine ev_goto (tgt := 70) dX12_warm_163 (by decide) ?_
      refine ev_loc (L2 := [some (.ref 129), some (.int (nI b)), some (.int kk), some (.int 1), some (.int (sp_max 1 (bw (2 * b) - kk))), some (.int (sp_cnt (sb_wm tu s (bw (2 * b)) (bw (2 * b + 1)) kk 1) (i + 1))), some (.int (nI (i + 1))), some (.int 1)]) (by first | (rw [sp_cnt_1 (P := (sb_wm tu s (bw (2 * b)) (bw (2 * b + 1)) kk 1)) (k := i) (by first | (rw [sb_wm_1, (sp_ki h91), (sp_ki h149)]; rfl) | (rw [sb_wm_1, (sp_ki h91), (sp_ki_no h149)]; rfl) | (rw [sb_wm_1, (sp_ki h91)]; rfl) | (rw [sb_wm_1, (sp_ki h91)]; simp))]; rfl) | (rw [sp_cnt_0 (P := (sb_wm tu s (bw (2 * b)) (bw (2 * b + 1)) kk 1)) (k := i) (by first | (rw [sb_wm_1, (sp_ki h91), (sp_ki h149)]; rfl) | (rw [sb_wm_1, (sp_ki h91), (sp_ki_no h149)]; rfl) | (rw [sb_wm_1, (sp_ki h91)]; rfl) | (rw [sb_wm_1, (sp_ki h91)]; simp)), nI_add0 (sp_cnt (sb_wm tu s (bw (2 * b)) (bw (2 * b + 1)) kk 1) i)]; rfl))  (ih (i + 1) _ M3 _ _ _ _ _ _ _ _ _ _ _ _ (by omega) hX0 (fun k hk => (hf3 k hk).trans ((hf2 k hk).trans (hf1 k hk))))
theorem m_warm_1 {G : ev_G} {n : Nat} {M : ev_M} {tn c0 c1 c2 sh : Nat} {tx s kp bw ar tu : Nat → Int32} {k0 k1 : Bool} {tr : Int64} (hM : md_S M tn c0 c1 c2 sh tx s kp bw ar tu k0 k1 tr) {b : Nat} (hb : b < c1) (hc1 : c1 ≤ 3) (hc : c0 ≤ 12) (hs : ∀ i, i < c0 → sk_ok (fun q => s (7 * i + q))) (hw : bw_ok (bw (2 * b)) (bw (2 * b + 1))) (ht : tu_ok tu) {kk : Int32} (hkr : sp_in kk 0 20 = true) : ev_Cal G mX12_warm 6 0 0 [.ref 129, .int (nI b), .int kk, .int 1] n M (md_is M (.int (sp_cnt (sb_wm tu s (bw (2 * b)) (bw (2 * b + 1)) kk 1) c0)) tn c0 c1 c2 sh tx s kp bw ar tu k0 k1 tr) := by
  refine ev_Cal_of (L := [some (.ref 129), some (.int (nI b)), some (.int kk), some (.int 1), none, none, none, none]) (by decide +kernel) (Nat.le_of_ble_eq_true rfl) rfl ?_
  refine md_thr hM dX12_warm_0 dX12_warm_1 dX12_warm_2 rfl rfl (fun M1 hM1 hf1 => ?_)
  obtain ⟨one, gof, dof, act, sp, of', ba, go, dr, ki, up, dn, hX⟩ := md_SX hM1
  have hX0 := hX
  obtain ⟨th, nx, tk, pl, va, fa, d0, d1, d2, dS, dB, dA, ik, h129, h130, h131, h132, h133, hk0, hk1, h134, h135, h136, h137, h138, h139, h140, h141, h142, h143, hsh⟩ := hX
  refine ev_aload_n (i := 0) dX12_warm_5 rfl rfl ?_
  refine ev_iload_n (i := 1) dX12_warm_6 rfl rfl ?_
  refine ev_c2 kX12_warm_7 (c13_isBow h129) (ev_rv_of (by assumption) rfl rfl) (by decide) (by decide) (Nat.le_of_ble_eq_true rfl) ?_
  refine ev_if_eqb (tgt := 32) dX12_warm_10 (by decide) (fun h10 => False.elim (Bool.false_ne_true (h10.symm.trans (sp_in_ix hb (by omega))))) (fun h10 => ?_)
  refine ev_iload_n (i := 2) dX12_warm_13 rfl rfl ?_
  refine ev_iconst (v := 0) dX12_warm_14 cni_0 ?_
  refine ev_bipush (v := 20) dX12_warm_15 cnb_20 ?_
  refine ev_c3 kX12_warm_17 (c13_in) trivial (by decide) (by decide) (Nat.le_of_ble_eq_true rfl) ?_
  refine ev_if_eqb (tgt := 32) dX12_warm_20 (by decide) (fun h20 => False.elim (Bool.false_ne_true (h20.symm.trans (hkr)))) (fun h20 => ?_)
  refine ev_iload_n (i := 3) dX12_warm_23 rfl rfl ?_
  refine ev_iconst (v := 0) dX12_warm_24 cni_0 ?_
  refine ev_iconst (v := 1) dX12_warm_25 cni_1 ?_
  refine ev_c3 kX12_warm_26 (c13_in) trivial (by decide) (by decide) (Nat.le_of_ble_eq_true rfl) ?_
  refine ev_if_neb (tgt := 34) dX12_warm_29 (by decide) (fun h29 => ?_) (fun h29 => False.elim (Bool.false_ne_true (h29.symm.trans (by decide))))
  refine ev_aload_n (i := 0) dX12_warm_34 rfl rfl ?_
  refine ev_getf dX12_warm_35 flX12_23 (by assumption) (by rfl) ?_
  refine ev_iconst (v := 2) dX12_warm_38 cni_2 ?_
  refine ev_iload_n (i := 1) dX12_warm_39 rfl rfl ?_
  refine ev_imul dX12_warm_40 ?_
  refine ev_iald (j := 2 * b) dX12_warm_41 (by assumption) (ev_ix20 b (by omega)) (by omega) ?_
  refine ev_iload_n (i := 2) dX12_warm_42 rfl rfl ?_
  refine ev_isub dX12_warm_43 ?_
  refine ev_iconst (v := 1) dX12_warm_44 cni_1 ?_
  refine ev_icmp_ge (tgt := 52) dX12_warm_45 (by decide) (fun h45 => ?_) (fun h45 => ?_)
  · skip
    refine ev_aload_n (i := 0) dX12_warm_52 rfl rfl ?_
    refine ev_getf dX12_warm_53 flX12_23 (by assumption) (by rfl) ?_
    refine ev_iconst (v := 2) dX12_warm_56 cni_2 ?_
    refine ev_iload_n (i := 1) dX12_warm_57 rfl rfl ?_
    refine ev_imul dX12_warm_58 ?_
    refine ev_iald (j := 2 * b) dX12_warm_59 (by assumption) (ev_ix20 b (by omega)) (by omega) ?_
    refine ev_iload_n (i := 2) dX12_warm_60 rfl rfl ?_
    refine ev_isub dX12_warm_61 ?_
    refine ev_topi (x2 := (sp_max 1 (bw (2 * b) - kk))) (by first | rw [sp_max_lt h45] | rw [sp_max_ge h45]) ?_
    refine ev_istore dX12_warm_62 (Nat.le_of_ble_eq_true rfl) rfl ?_
    refine ev_iconst (v := 0) dX12_warm_64 cni_0 ?_
    refine ev_istore dX12_warm_65 (Nat.le_of_ble_eq_true rfl) rfl ?_
    refine ev_iconst (v := 0) dX12_warm_67 cni_0 ?_
    refine ev_istore dX12_warm_68 (Nat.le_of_ble_eq_true rfl) rfl ?_
    exact lm_warm_1 hb hc1 hc hs hw ht (sp_in_to (a := 0) (b := 20) hkr (by decide +kernel) (by decide +kernel)) c0 0 none M1 _ _ _ _ _ _ _ _ _ _ _ _ (Nat.zero_add _) hX0 hf1
  · skip
    refine ev_iconst (v := 1) dX12_warm_48 cni_1 ?_
    refine ev_goto (tgt := 62) dX12_warm_49 (by decide) ?_
    refine ev_topi (x2 := (sp_max 1 (bw (2 * b) - kk))) (by first | rw [sp_max_lt h45] | rw [sp_max_ge h45]) ?_
    refine ev_istore dX12_warm_62 (Nat.le_of_ble_eq_true rfl) rfl ?_
    refine ev_iconst (v := 0) dX12_warm_64 cni_0 ?_
    refine ev_istore dX12_warm_65 (Nat.le_of_ble_eq_true rfl) rfl ?_
    refine ev_iconst (v := 0) dX12_warm_67 cni_0 ?_
    refine ev_istore dX12_warm_68 (Nat.le_of_ble_eq_true rfl) rfl ?_
    exact lm_warm_1 hb hc1 hc hs hw ht (sp_in_to (a := 0) (b := 20) hkr (by decide +kernel) (by decide +kernel)) c0 0 none M1 _ _ _ _ _ _ _ _ _ _ _ _ (Nat.zero_add _) hX0 hf1
theorem m_warm_no {G : ev_G} {n : Nat} {M : ev_M} {tn c0 c1 c2 sh : Nat} {tx s kp bw ar tu : Nat → Int32} {k0 k1 : Bool} {tr : Int64} (hM : md_S M tn c0 c1 c2 sh tx s kp bw ar tu k0 k1 tr) {xb kk w : Int32} (h : (sp_in xb 0 (nI c1 - 1) && sp_in kk 0 20 && sp_in w 0 1) = false) : ev_Cal G mX12_warm 6 0 0 [.ref 129, .int xb, .int kk, .int w] n M (md_is M (.int (-1)) tn c0 c1 c2 sh tx s kp bw ar tu k0 k1 tr) := by
  refine ev_Cal_of (L := [some (.ref 129), some (.int xb), some (.int kk), some (.int w), none, none, none, none]) (by decide +kernel) (Nat.le_of_ble_eq_true rfl) rfl ?_
  refine md_thr hM dX12_warm_0 dX12_warm_1 dX12_warm_2 rfl rfl (fun M1 hM1 hf1 => ?_)
  obtain ⟨one, gof, dof, act, sp, of', ba, go, dr, ki, up, dn, hX⟩ := md_SX hM1
  have hX0 := hX
  obtain ⟨th, nx, tk, pl, va, fa, d0, d1, d2, dS, dB, dA, ik, h129, h130, h131, h132, h133, hk0, hk1, h134, h135, h136, h137, h138, h139, h140, h141, h142, h143, hsh⟩ := hX
  refine ev_aload_n (i := 0) dX12_warm_5 rfl rfl ?_
  refine ev_iload_n (i := 1) dX12_warm_6 rfl rfl ?_
  refine ev_c2 kX12_warm_7 (c13_isBow h129) (ev_rv_of (by assumption) rfl rfl) (by decide) (by decide) (Nat.le_of_ble_eq_true rfl) ?_
  refine ev_if_eqb (tgt := 32) dX12_warm_10 (by decide) (fun h10 => ?_) (fun h10 => ?_)
  · skip
    refine ev_iconst (v := (-1)) dX12_warm_32 cni_m1 ?_
    exact ev_reti dX12_warm_33 rfl rfl (⟨rfl, md_XS hX0, hf1⟩)
  · skip
    refine ev_iload_n (i := 2) dX12_warm_13 rfl rfl ?_
    refine ev_iconst (v := 0) dX12_warm_14 cni_0 ?_
    refine ev_bipush (v := 20) dX12_warm_15 cnb_20 ?_
    refine ev_c3 kX12_warm_17 (c13_in) trivial (by decide) (by decide) (Nat.le_of_ble_eq_true rfl) ?_
    refine ev_if_eqb (tgt := 32) dX12_warm_20 (by decide) (fun h20 => ?_) (fun h20 => ?_)
    · skip
      refine ev_iconst (v := (-1)) dX12_warm_32 cni_m1 ?_
      exact ev_reti dX12_warm_33 rfl rfl (⟨rfl, md_XS hX0, hf1⟩)
    · skip
      refine ev_iload_n (i := 3) dX12_warm_23 rfl rfl ?_
      refine ev_iconst (v := 0) dX12_warm_24 cni_0 ?_
      refine ev_iconst (v := 1) dX12_warm_25 cni_1 ?_
      refine ev_c3 kX12_warm_26 (c13_in) trivial (by decide) (by decide) (Nat.le_of_ble_eq_true rfl) ?_
      refine ev_if_neb (tgt := 34) dX12_warm_29 (by decide) (fun h29 => False.elim (by rw [h10, h20, h29] at h; cases h)) (fun h29 => ?_)
      refine ev_iconst (v := (-1)) dX12_warm_32 cni_m1 ?_
      exact ev_reti dX12_warm_33 rfl rfl (⟨rfl, md_XS hX0, hf1⟩)
