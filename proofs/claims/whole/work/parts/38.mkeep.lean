/-! ===== contracts: the model, shoot, keep, back, type ===== -/
theorem md_st131 {G : ev_G} {y : ev_MI} {f rc ru n pc : Nat} {M : ev_M} {L : List (Option Value)} {st : List Value} {Post : Option Value → ev_M → Prop} {tn c0 c1 c2 sh : Nat} {tx s kp bw ar tu : Nat → Int32} {k0 k1 : Bool} {tr : Int64} {one gof dof act : Nat → Int32} {sp of' ba go dr ki : Int32} {up dn : Int64} (hX : md_X M tn c0 c1 c2 sh tx s kp bw ar tu k0 k1 tr one gof dof act sp of' ba go dr ki up dn) {j sh2 : Nat} {i x : Int32} (hd : decode y.2.1 pc = .ok (.iastore, 1)) (hx : ev_ix i j) (hj : j < 386) (h85 : upd s j x 85 = nI sh2)
    (k : ∀ M1 : ev_M, md_X M1 tn c0 c1 c2 sh2 tx (upd s j x) kp bw ar tu k0 k1 tr one gof dof act sp of' ba go dr ki up dn → (∀ k, k < 129 → M1 k = M k) → ev_E G y f rc ru n M1 (pc + 1) L st Post) : ev_E G y f rc ru n M pc L (.int x :: .int i :: .ref 131 :: st) Post := by
  obtain ⟨th, nx, tk, pl, va, fa, d0, d1, d2, dS, dB, dA, ik, h129, h130, h131, h132, h133, hk0, hk1, h134, h135, h136, h137, h138, h139, h140, h141, h142, h143, hsh⟩ := hX
  refine ev_iast hd h131 hx hj ?_
  exact k _ ⟨th, nx, tk, pl, va, fa, d0, d1, d2, dS, dB, dA, ik, (ev_set_ne (by decide)).trans h129, (ev_set_ne (by decide)).trans h130, ev_set_eq, (ev_set_ne (by decide)).trans h132, (ev_set_ne (by decide)).trans h133, hk0, hk1, (ev_set_ne (by decide)).trans h134, (ev_set_ne (by decide)).trans h135, (ev_set_ne (by decide)).trans h136, (ev_set_ne (by decide)).trans h137, (ev_set_ne (by decide)).trans h138, (ev_set_ne (by decide)).trans h139, (ev_set_ne (by decide)).trans h140, (ev_set_ne (by decide)).trans h141, (ev_set_ne (by decide)).trans h142, (ev_set_ne (by decide)).trans h143, h85⟩ (fun k hk => ev_set_ne (by omega))
theorem md_st132 {G : ev_G} {y : ev_MI} {f rc ru n pc : Nat} {M : ev_M} {L : List (Option Value)} {st : List Value} {Post : Option Value → ev_M → Prop} {tn c0 c1 c2 sh : Nat} {tx s kp bw ar tu : Nat → Int32} {k0 k1 : Bool} {tr : Int64} {one gof dof act : Nat → Int32} {sp of' ba go dr ki : Int32} {up dn : Int64} (hX : md_X M tn c0 c1 c2 sh tx s kp bw ar tu k0 k1 tr one gof dof act sp of' ba go dr ki up dn) {j : Nat} {i x : Int32} (hd : decode y.2.1 pc = .ok (.iastore, 1)) (hx : ev_ix i j) (hj : j < 772)
    (k : ∀ M1 : ev_M, md_X M1 tn c0 c1 c2 sh tx s (upd kp j x) bw ar tu k0 k1 tr one gof dof act sp of' ba go dr ki up dn → (∀ k, k < 129 → M1 k = M k) → ev_E G y f rc ru n M1 (pc + 1) L st Post) : ev_E G y f rc ru n M pc L (.int x :: .int i :: .ref 132 :: st) Post := by
  obtain ⟨th, nx, tk, pl, va, fa, d0, d1, d2, dS, dB, dA, ik, h129, h130, h131, h132, h133, hk0, hk1, h134, h135, h136, h137, h138, h139, h140, h141, h142, h143, hsh⟩ := hX
  refine ev_iast hd h132 hx hj ?_
  exact k _ ⟨th, nx, tk, pl, va, fa, d0, d1, d2, dS, dB, dA, ik, (ev_set_ne (by decide)).trans h129, (ev_set_ne (by decide)).trans h130, (ev_set_ne (by decide)).trans h131, ev_set_eq, (ev_set_ne (by decide)).trans h133, hk0, hk1, (ev_set_ne (by decide)).trans h134, (ev_set_ne (by decide)).trans h135, (ev_set_ne (by decide)).trans h136, (ev_set_ne (by decide)).trans h137, (ev_set_ne (by decide)).trans h138, (ev_set_ne (by decide)).trans h139, (ev_set_ne (by decide)).trans h140, (ev_set_ne (by decide)).trans h141, (ev_set_ne (by decide)).trans h142, (ev_set_ne (by decide)).trans h143, hsh⟩ (fun k hk => ev_set_ne (by omega))
theorem md_st130 {G : ev_G} {y : ev_MI} {f rc ru n pc : Nat} {M : ev_M} {L : List (Option Value)} {st : List Value} {Post : Option Value → ev_M → Prop} {tn c0 c1 c2 sh : Nat} {tx s kp bw ar tu : Nat → Int32} {k0 k1 : Bool} {tr : Int64} {one gof dof act : Nat → Int32} {sp of' ba go dr ki : Int32} {up dn : Int64} (hX : md_X M tn c0 c1 c2 sh tx s kp bw ar tu k0 k1 tr one gof dof act sp of' ba go dr ki up dn) {j : Nat} {i x : Int32} (hd : decode y.2.1 pc = .ok (.iastore, 1)) (hx : ev_ix i j) (hj : j < 400)
    (k : ∀ M1 : ev_M, md_X M1 tn c0 c1 c2 sh (upd tx j x) s kp bw ar tu k0 k1 tr one gof dof act sp of' ba go dr ki up dn → (∀ k, k < 129 → M1 k = M k) → ev_E G y f rc ru n M1 (pc + 1) L st Post) : ev_E G y f rc ru n M pc L (.int x :: .int i :: .ref 130 :: st) Post := by
  obtain ⟨th, nx, tk, pl, va, fa, d0, d1, d2, dS, dB, dA, ik, h129, h130, h131, h132, h133, hk0, hk1, h134, h135, h136, h137, h138, h139, h140, h141, h142, h143, hsh⟩ := hX
  refine ev_iast hd h130 hx hj ?_
  exact k _ ⟨th, nx, tk, pl, va, fa, d0, d1, d2, dS, dB, dA, ik, (ev_set_ne (by decide)).trans h129, ev_set_eq, (ev_set_ne (by decide)).trans h131, (ev_set_ne (by decide)).trans h132, (ev_set_ne (by decide)).trans h133, hk0, hk1, (ev_set_ne (by decide)).trans h134, (ev_set_ne (by decide)).trans h135, (ev_set_ne (by decide)).trans h136, (ev_set_ne (by decide)).trans h137, (ev_set_ne (by decide)).trans h138, (ev_set_ne (by decide)).trans h139, (ev_set_ne (by decide)).trans h140, (ev_set_ne (by decide)).trans h141, (ev_set_ne (by decide)).trans h142, (ev_set_ne (by decide)).trans h143, hsh⟩ (fun k hk => ev_set_ne (by omega))
theorem md_sttn {G : ev_G} {y : ev_MI} {f rc ru n pc : Nat} {M : ev_M} {L : List (Option Value)} {st : List Value} {Post : Option Value → ev_M → Prop} {tn c0 c1 c2 sh : Nat} {tx s kp bw ar tu : Nat → Int32} {k0 k1 : Bool} {tr : Int64} {one gof dof act : Nat → Int32} {sp of' ba go dr ki : Int32} {up dn : Int64} (hX : md_X M tn c0 c1 c2 sh tx s kp bw ar tu k0 k1 tr one gof dof act sp of' ba go dr ki up dn) {tn2 : Nat} (hd : decode y.2.1 pc = .ok (.putfield 61, 3)) (hy : y.1.cls = RX12)
    (k : ∀ M1 : ev_M, md_X M1 tn2 c0 c1 c2 sh tx s kp bw ar tu k0 k1 tr one gof dof act sp of' ba go dr ki up dn → (∀ k, k < 129 → M1 k = M k) → ev_E G y f rc ru n M1 (pc + 3) L st Post) : ev_E G y f rc ru n M pc L (.int (nI tn2) :: .ref 129 :: st) Post := by
  obtain ⟨th, nx, tk, pl, va, fa, d0, d1, d2, dS, dB, dA, ik, h129, h130, h131, h132, h133, hk0, hk1, h134, h135, h136, h137, h138, h139, h140, h141, h142, h143, hsh⟩ := hX
  refine ev_puti hd (by rw [hy]; exact fpX12_61) h129 (Nat.le_of_ble_eq_true rfl) ?_
  exact k _ ⟨th, nx, tk, pl, va, fa, d0, d1, d2, dS, dB, dA, ik, ev_set_eq, (ev_set_ne (by decide)).trans h130, (ev_set_ne (by decide)).trans h131, (ev_set_ne (by decide)).trans h132, (ev_set_ne (by decide)).trans h133, hk0, hk1, (ev_set_ne (by decide)).trans h134, (ev_set_ne (by decide)).trans h135, (ev_set_ne (by decide)).trans h136, (ev_set_ne (by decide)).trans h137, (ev_set_ne (by decide)).trans h138, (ev_set_ne (by decide)).trans h139, (ev_set_ne (by decide)).trans h140, (ev_set_ne (by decide)).trans h141, (ev_set_ne (by decide)).trans h142, (ev_set_ne (by decide)).trans h143, hsh⟩ (fun k hk => ev_set_ne (by omega))
theorem md_st133_0 {G : ev_G} {y : ev_MI} {f rc ru n pc : Nat} {M : ev_M} {L : List (Option Value)} {st : List Value} {Post : Option Value → ev_M → Prop} {tn c0 c1 c2 sh : Nat} {tx s kp bw ar tu : Nat → Int32} {k0 k1 : Bool} {tr : Int64} {one gof dof act : Nat → Int32} {sp of' ba go dr ki : Int32} {up dn : Int64} (hX : md_X M tn c0 c1 c2 sh tx s kp bw ar tu k0 k1 tr one gof dof act sp of' ba go dr ki up dn) (hd : decode y.2.1 pc = .ok (.bastore, 1))
    (k : ∀ M1 : ev_M, md_X M1 tn c0 c1 c2 sh tx s kp bw ar tu true k1 tr one gof dof act sp of' ba go dr ki up dn → (∀ k, k < 129 → M1 k = M k) → ev_E G y f rc ru n M1 (pc + 1) L st Post) : ev_E G y f rc ru n M pc L (.int 1 :: .int 0 :: .ref 133 :: st) Post := by
  obtain ⟨th, nx, tk, pl, va, fa, d0, d1, d2, dS, dB, dA, ik, h129, h130, h131, h132, h133, hk0, hk1, h134, h135, h136, h137, h138, h139, h140, h141, h142, h143, hsh⟩ := hX
  refine ev_zast (x := true) (j := 0) hd h133 (ev_ixc (j := 0) rfl (by decide)) (by decide) ?_
  exact k _ ⟨th, nx, tk, pl, va, fa, d0, d1, d2, dS, dB, dA, _, (ev_set_ne (by decide)).trans h129, (ev_set_ne (by decide)).trans h130, (ev_set_ne (by decide)).trans h131, (ev_set_ne (by decide)).trans h132, ev_set_eq, rfl, hk1, (ev_set_ne (by decide)).trans h134, (ev_set_ne (by decide)).trans h135, (ev_set_ne (by decide)).trans h136, (ev_set_ne (by decide)).trans h137, (ev_set_ne (by decide)).trans h138, (ev_set_ne (by decide)).trans h139, (ev_set_ne (by decide)).trans h140, (ev_set_ne (by decide)).trans h141, (ev_set_ne (by decide)).trans h142, (ev_set_ne (by decide)).trans h143, hsh⟩ (fun k hk => ev_set_ne (by omega))
theorem md_st133_1 {G : ev_G} {y : ev_MI} {f rc ru n pc : Nat} {M : ev_M} {L : List (Option Value)} {st : List Value} {Post : Option Value → ev_M → Prop} {tn c0 c1 c2 sh : Nat} {tx s kp bw ar tu : Nat → Int32} {k0 k1 : Bool} {tr : Int64} {one gof dof act : Nat → Int32} {sp of' ba go dr ki : Int32} {up dn : Int64} (hX : md_X M tn c0 c1 c2 sh tx s kp bw ar tu k0 k1 tr one gof dof act sp of' ba go dr ki up dn) (hd : decode y.2.1 pc = .ok (.bastore, 1))
    (k : ∀ M1 : ev_M, md_X M1 tn c0 c1 c2 sh tx s kp bw ar tu k0 true tr one gof dof act sp of' ba go dr ki up dn → (∀ k, k < 129 → M1 k = M k) → ev_E G y f rc ru n M1 (pc + 1) L st Post) : ev_E G y f rc ru n M pc L (.int 1 :: .int 1 :: .ref 133 :: st) Post := by
  obtain ⟨th, nx, tk, pl, va, fa, d0, d1, d2, dS, dB, dA, ik, h129, h130, h131, h132, h133, hk0, hk1, h134, h135, h136, h137, h138, h139, h140, h141, h142, h143, hsh⟩ := hX
  refine ev_zast (x := true) (j := 1) hd h133 (ev_ixc (j := 1) rfl (by decide)) (by decide) ?_
  exact k _ ⟨th, nx, tk, pl, va, fa, d0, d1, d2, dS, dB, dA, _, (ev_set_ne (by decide)).trans h129, (ev_set_ne (by decide)).trans h130, (ev_set_ne (by decide)).trans h131, (ev_set_ne (by decide)).trans h132, ev_set_eq, hk0, rfl, (ev_set_ne (by decide)).trans h134, (ev_set_ne (by decide)).trans h135, (ev_set_ne (by decide)).trans h136, (ev_set_ne (by decide)).trans h137, (ev_set_ne (by decide)).trans h138, (ev_set_ne (by decide)).trans h139, (ev_set_ne (by decide)).trans h140, (ev_set_ne (by decide)).trans h141, (ev_set_ne (by decide)).trans h142, (ev_set_ne (by decide)).trans h143, hsh⟩ (fun k hk => ev_set_ne (by omega))
/-- the sheet and the lot behind a shot -/
def sh_S (s : Nat → Int32) (sh : Nat) (l i b a x y : Int32) : Nat → Int32 := upd (upd (upd (upd (upd (upd (upd s 84 l) (86 + 5 * sh) i) (86 + 5 * sh + 1) b) (86 + 5 * sh + 2) a) (86 + 5 * sh + 3) x) (86 + 5 * sh + 4) y) 85 (nI (sh + 1))
theorem wa_n0 {w : Int32} (h : 0 ≤ w.toInt ∧ w.toInt ≤ 20) : ¬ 2 * w + 1 = 0 := by
  have r : rb w 20 := rb_of h.1 h.2 (by omega) (by omega)
  have e1 : (2 * w).toInt = 2 * w.toInt := by rw [ti_mul (A := 2) (rb_l (by decide +kernel)) r (by omega), ti_2]
  have r2 : rb (2 * w) 40 := rb_mul (A := 2) (rb_l (by decide +kernel)) r (by omega) (by omega)
  have e2 : (2 * w + 1).toInt = 2 * w.toInt + 1 := by rw [ti_add (B := 1) r2 (rb_l (by decide +kernel)) (by omega), e1, show (1 : Int32).toInt = 1 from by decide +kernel]
  exact ne_ti (by omega)
theorem m_shoot {G : ev_G} {n : Nat} {M : ev_M} {tn c0 c1 c2 sh : Nat} {tx s kp bw ar tu : Nat → Int32} {k0 k1 : Bool} {tr : Int64} (hM : md_S M tn c0 c1 c2 sh tx s kp bw ar tu k0 k1 tr) {j : Nat} (hj : j < c0) (hc : c0 ≤ 12) {b : Nat} (hb : b < c1) (hc1 : c1 ≤ 3) {a : Nat} (ha : a < c2) (hc2 : c2 ≤ 3) (hwa : 0 ≤ (ar (2 * a + 1)).toInt ∧ (ar (2 * a + 1)).toInt ≤ 20) (hs : sk_ok (fun q => s (7 * j + q))) (hw : bw_ok (bw (2 * b)) (bw (2 * b + 1))) (ht : tu_ok tu) (hsz : sh < 60) : ev_Cal G mX12_shoot 6 0 0 [.ref 129, .int (nI j), .int (nI b), .int (nI a)] n M (md_is M (.int (fx_go tu (fun q => s (7 * j + q)) (bw (2 * b)) (bw (2 * b + 1)) + ar (2 * a) + sp_rem (((s 84 * 1103515245 + 12345) >>> (16 &&& 31)) &&& 65535) (2 * ar (2 * a + 1) + 1) - ar (2 * a + 1))) tn c0 c1 c2 (sh + 1) tx (sh_S s sh (s 84 * 1103515245 + 12345) (nI j) (nI b) (nI a) (fx_go tu (fun q => s (7 * j + q)) (bw (2 * b)) (bw (2 * b + 1)) + ar (2 * a) + sp_rem (((s 84 * 1103515245 + 12345) >>> (16 &&& 31)) &&& 65535) (2 * ar (2 * a + 1) + 1) - ar (2 * a + 1)) (fx_dr (fun q => s (7 * j + q)) (bw (2 * b)))) kp bw ar tu k0 k1 tr) := by
  refine ev_Cal_of (L := [some (.ref 129), some (.int (nI j)), some (.int (nI b)), some (.int (nI a)), none, none, none]) (by decide +kernel) (Nat.le_of_ble_eq_true rfl) rfl ?_
  refine md_thr hM dX12_shoot_0 dX12_shoot_1 dX12_shoot_2 rfl rfl (fun M1 hM1 hf1 => ?_)
  obtain ⟨one, gof, dof, act, sp, of', ba, go, dr, ki, up, dn, hX⟩ := md_SX hM1
  have hX0 := hX
  obtain ⟨th, nx, tk, pl, va, fa, d0, d1, d2, dS, dB, dA, ik, h129, h130, h131, h132, h133, hk0, hk1, h134, h135, h136, h137, h138, h139, h140, h141, h142, h143, hsh⟩ := hX
  refine ev_aload_n (i := 0) dX12_shoot_5 rfl rfl ?_
  refine ev_iload_n (i := 1) dX12_shoot_6 rfl rfl ?_
  refine ev_c2 kX12_shoot_7 (c13_isStick h129) (ev_rv_of (by assumption) rfl rfl) (by decide) (by decide) (Nat.le_of_ble_eq_true rfl) ?_
  refine ev_if_eqb (tgt := 47) dX12_shoot_10 (by decide) (fun h10 => False.elim (Bool.false_ne_true (h10.symm.trans (sp_in_ix hj (by omega))))) (fun h10 => ?_)
  refine ev_aload_n (i := 0) dX12_shoot_13 rfl rfl ?_
  refine ev_iload_n (i := 2) dX12_shoot_14 rfl rfl ?_
  refine ev_c2 kX12_shoot_15 (c13_isBow h129) (ev_rv_of (by assumption) rfl rfl) (by decide) (by decide) (Nat.le_of_ble_eq_true rfl) ?_
  refine ev_if_eqb (tgt := 47) dX12_shoot_18 (by decide) (fun h18 => False.elim (Bool.false_ne_true (h18.symm.trans (sp_in_ix hb (by omega))))) (fun h18 => ?_)
  refine ev_iload_n (i := 3) dX12_shoot_21 rfl rfl ?_
  refine ev_iconst (v := 0) dX12_shoot_22 cni_0 ?_
  refine ev_aload_n (i := 0) dX12_shoot_23 rfl rfl ?_
  refine ev_getf dX12_shoot_24 flX12_133 (by assumption) (by rfl) ?_
  refine ev_iconst (v := 1) dX12_shoot_27 cni_1 ?_
  refine ev_isub dX12_shoot_28 ?_
  refine ev_c3 kX12_shoot_29 (c13_in) trivial (by decide) (by decide) (Nat.le_of_ble_eq_true rfl) ?_
  refine ev_if_eqb (tgt := 47) dX12_shoot_32 (by decide) (fun h32 => False.elim (Bool.false_ne_true (h32.symm.trans (sp_in_ix ha (by omega))))) (fun h32 => ?_)
  refine ev_aload_n (i := 0) dX12_shoot_35 rfl rfl ?_
  refine ev_getf dX12_shoot_36 flX12_13 (by assumption) (by rfl) ?_
  refine ev_bipush (v := 85) dX12_shoot_39 cnb_85 ?_
  refine ev_iald (j := 85) dX12_shoot_41 (by assumption) (ev_ixc (j := 85) rfl (by decide)) (by decide) ?_
  refine ev_topi hsh ?_
  refine ev_bipush (v := 60) dX12_shoot_42 cnb_60 ?_
  refine ev_icmp_ne (tgt := 50) dX12_shoot_44 (by decide) (fun h44 => ?_) (fun h44 => False.elim (absurd ((nI_eq (a := sh) (b := 60) (by omega) (by omega)).mp h44) (by omega)))
  refine ev_aload_n (i := 0) dX12_shoot_50 rfl rfl ?_
  refine ev_iload_n (i := 1) dX12_shoot_51 rfl rfl ?_
  refine ev_iload_n (i := 2) dX12_shoot_52 rfl rfl ?_
  refine ev_d3 kX12_shoot_53 (m_fliesWith hX0 hj hc hb hc1 hs hw ht) (ev_rv_of (by assumption) rfl rfl) (by decide) (by decide) (Nat.le_of_ble_eq_true rfl) ?_
  intro r M2 hr
  obtain ⟨rfl, ⟨o2, ho, hX⟩, hf2⟩ := hr
  have hX0 := hX
  obtain ⟨th, nx, tk, pl, va, fa, d0, d1, d2, dS, dB, dA, ik, h129, h130, h131, h132, h133, hk0, hk1, h134, h135, h136, h137, h138, h139, h140, h141, h142, h143, hsh⟩ := hX
  refine ev_aload_n (i := 0) dX12_shoot_56 rfl rfl ?_
  refine ev_getf dX12_shoot_57 flX12_26 (by assumption) (by rfl) ?_
  refine ev_iconst (v := 2) dX12_shoot_60 cni_2 ?_
  refine ev_iload_n (i := 3) dX12_shoot_61 rfl rfl ?_
  refine ev_imul dX12_shoot_62 ?_
  refine ev_iconst (v := 1) dX12_shoot_63 cni_1 ?_
  refine ev_iadd dX12_shoot_64 ?_
  refine ev_iald (j := 2 * a + 1) dX12_shoot_65 (by assumption) (ev_ix2 a 1 (by omega)) (by omega) ?_
  refine ev_istore dX12_shoot_66 (Nat.le_of_ble_eq_true rfl) rfl ?_
  refine ev_aload_n (i := 0) dX12_shoot_68 rfl rfl ?_
  refine ev_getf dX12_shoot_69 flX12_13 (by assumption) (by rfl) ?_
  refine ev_bipush (v := 84) dX12_shoot_72 cnb_84 ?_
  refine ev_aload_n (i := 0) dX12_shoot_74 rfl rfl ?_
  refine ev_getf dX12_shoot_75 flX12_13 (by assumption) (by rfl) ?_
  refine ev_bipush (v := 84) dX12_shoot_78 cnb_84 ?_
  refine ev_iald (j := 84) dX12_shoot_80 (by assumption) (ev_ixc (j := 84) rfl (by decide)) (by decide) ?_
  refine ev_ldc dX12_shoot_81 coX12_205 ?_
  refine ev_imul dX12_shoot_83 ?_
  refine ev_sipush (v := 12345) dX12_shoot_84 cns_12345 ?_
  refine ev_iadd dX12_shoot_87 ?_
  refine md_st131 hX0 (j := 84) dX12_shoot_88 (ev_ixc (j := 84) rfl (by decide)) (by decide) ((if_neg (by decide)).trans hsh) (fun M3 hX hf3 => ?_)
  have hX0 := hX
  obtain ⟨th, nx, tk, pl, va, fa, d0, d1, d2, dS, dB, dA, ik, h129, h130, h131, h132, h133, hk0, hk1, h134, h135, h136, h137, h138, h139, h140, h141, h142, h143, hsh⟩ := hX
  refine ev_aload_n (i := 0) dX12_shoot_89 rfl rfl ?_
  refine ev_getf dX12_shoot_90 flX12_13 (by assumption) (by rfl) ?_
  refine ev_bipush (v := 84) dX12_shoot_93 cnb_84 ?_
  refine ev_iald (j := 84) dX12_shoot_95 (by assumption) (ev_ixc (j := 84) rfl (by decide)) (by decide) ?_
  refine ev_topi (x2 := (s 84 * 1103515245 + 12345)) (if_pos rfl) ?_
  refine ev_bipush (v := 16) dX12_shoot_96 cnb_16 ?_
  refine ev_ishr dX12_shoot_98 ?_
  refine ev_ldc dX12_shoot_99 coX12_206 ?_
  refine ev_iand dX12_shoot_101 ?_
  refine ev_iconst (v := 2) dX12_shoot_102 cni_2 ?_
  refine ev_iload dX12_shoot_103 rfl ?_
  refine ev_imul dX12_shoot_105 ?_
  refine ev_iconst (v := 1) dX12_shoot_106 cni_1 ?_
  refine ev_iadd dX12_shoot_107 ?_
  refine ev_irem dX12_shoot_108 (wa_n0 hwa) ?_
  refine ev_topi (x2 := sp_rem (((s 84 * 1103515245 + 12345) >>> (16 &&& 31)) &&& 65535) (2 * ar (2 * a + 1) + 1)) (by rw [sp_rem, if_neg (wa_n0 hwa)]) ?_
  refine ev_istore dX12_shoot_109 (Nat.le_of_ble_eq_true rfl) rfl ?_
  refine ev_bipush (v := 86) dX12_shoot_111 cnb_86 ?_
  refine ev_iconst (v := 5) dX12_shoot_113 cni_5 ?_
  refine ev_aload_n (i := 0) dX12_shoot_114 rfl rfl ?_
  refine ev_getf dX12_shoot_115 flX12_13 (by assumption) (by rfl) ?_
  refine ev_bipush (v := 85) dX12_shoot_118 cnb_85 ?_
  refine ev_iald (j := 85) dX12_shoot_120 (by assumption) (ev_ixc (j := 85) rfl (by decide)) (by decide) ?_
  refine ev_topi hsh ?_
  refine ev_imul dX12_shoot_121 ?_
  refine ev_iadd dX12_shoot_122 ?_
  refine ev_topi (x2 := nI (86 + 5 * sh)) (by show nI 86 + nI 5 * nI sh = _; rw [nI_mul, nI_add]) ?_
  refine ev_istore dX12_shoot_123 (Nat.le_of_ble_eq_true rfl) rfl ?_
  refine ev_aload_n (i := 0) dX12_shoot_125 rfl rfl ?_
  refine ev_getf dX12_shoot_126 flX12_13 (by assumption) (by rfl) ?_
  refine ev_iload dX12_shoot_129 rfl ?_
  refine ev_iload_n (i := 1) dX12_shoot_131 rfl rfl ?_
  refine md_st131 hX0 (j := 86 + 5 * sh) dX12_shoot_132 (ev_ix_nI (by omega)) (by omega) ((if_neg (by omega)).trans hsh) (fun M4 hX hf4 => ?_)
  have hX0 := hX
  obtain ⟨th, nx, tk, pl, va, fa, d0, d1, d2, dS, dB, dA, ik, h129, h130, h131, h132, h133, hk0, hk1, h134, h135, h136, h137, h138, h139, h140, h141, h142, h143, hsh⟩ := hX
  refine ev_aload_n (i := 0) dX12_shoot_133 rfl rfl ?_
  refine ev_getf dX12_shoot_134 flX12_13 (by assumption) (by rfl) ?_
  refine ev_iload dX12_shoot_137 rfl ?_
  refine ev_iconst (v := 1) dX12_shoot_139 cni_1 ?_
  refine ev_iadd dX12_shoot_140 ?_
  refine ev_iload_n (i := 2) dX12_shoot_141 rfl rfl ?_
  refine md_st131 hX0 (j := 86 + 5 * sh + 1) dX12_shoot_142 (ev_ixa (86 + 5 * sh) 1 (by omega)) (by omega) ((if_neg (by omega)).trans hsh) (fun M5 hX hf5 => ?_)
  have hX0 := hX
  obtain ⟨th, nx, tk, pl, va, fa, d0, d1, d2, dS, dB, dA, ik, h129, h130, h131, h132, h133, hk0, hk1, h134, h135, h136, h137, h138, h139, h140, h141, h142, h143, hsh⟩ := hX
  refine ev_aload_n (i := 0) dX12_shoot_143 rfl rfl ?_
  refine ev_getf dX12_shoot_144 flX12_13 (by assumption) (by rfl) ?_
  refine ev_iload dX12_shoot_147 rfl ?_
  refine ev_iconst (v := 2) dX12_shoot_149 cni_2 ?_
  refine ev_iadd dX12_shoot_150 ?_
  refine ev_iload_n (i := 3) dX12_shoot_151 rfl rfl ?_
  refine md_st131 hX0 (j := 86 + 5 * sh + 2) dX12_shoot_152 (ev_ixa (86 + 5 * sh) 2 (by omega)) (by omega) ((if_neg (by omega)).trans hsh) (fun M6 hX hf6 => ?_)
  have hX0 := hX
  obtain ⟨th, nx, tk, pl, va, fa, d0, d1, d2, dS, dB, dA, ik, h129, h130, h131, h132, h133, hk0, hk1, h134, h135, h136, h137, h138, h139, h140, h141, h142, h143, hsh⟩ := hX
  refine ev_aload_n (i := 0) dX12_shoot_153 rfl rfl ?_
  refine ev_getf dX12_shoot_154 flX12_13 (by assumption) (by rfl) ?_
  refine ev_iload dX12_shoot_157 rfl ?_
  refine ev_iconst (v := 3) dX12_shoot_159 cni_3 ?_
  refine ev_iadd dX12_shoot_160 ?_
  refine ev_aload_n (i := 0) dX12_shoot_161 rfl rfl ?_
  refine ev_getf dX12_shoot_162 flX12_183 (by assumption) (by rfl) ?_
  refine ev_aload_n (i := 0) dX12_shoot_165 rfl rfl ?_
  refine ev_getf dX12_shoot_166 flX12_26 (by assumption) (by rfl) ?_
  refine ev_iconst (v := 2) dX12_shoot_169 cni_2 ?_
  refine ev_iload_n (i := 3) dX12_shoot_170 rfl rfl ?_
  refine ev_imul dX12_shoot_171 ?_
  refine ev_iald (j := 2 * a) dX12_shoot_172 (by assumption) (ev_ix20 a (by omega)) (by omega) ?_
  refine ev_iadd dX12_shoot_173 ?_
  refine ev_iload dX12_shoot_174 rfl ?_
  refine ev_iadd dX12_shoot_176 ?_
  refine ev_iload dX12_shoot_177 rfl ?_
  refine ev_isub dX12_shoot_179 ?_
  refine md_st131 hX0 (j := 86 + 5 * sh + 3) dX12_shoot_180 (ev_ixa (86 + 5 * sh) 3 (by omega)) (by omega) ((if_neg (by omega)).trans hsh) (fun M7 hX hf7 => ?_)
  have hX0 := hX
  obtain ⟨th, nx, tk, pl, va, fa, d0, d1, d2, dS, dB, dA, ik, h129, h130, h131, h132, h133, hk0, hk1, h134, h135, h136, h137, h138, h139, h140, h141, h142, h143, hsh⟩ := hX
  refine ev_aload_n (i := 0) dX12_shoot_181 rfl rfl ?_
  refine ev_getf dX12_shoot_182 flX12_13 (by assumption) (by rfl) ?_
  refine ev_iload dX12_shoot_185 rfl ?_
  refine ev_iconst (v := 4) dX12_shoot_187 cni_4 ?_
  refine ev_iadd dX12_shoot_188 ?_
  refine ev_aload_n (i := 0) dX12_shoot_189 rfl rfl ?_
  refine ev_getf dX12_shoot_190 flX12_186 (by assumption) (by rfl) ?_
  refine md_st131 hX0 (j := 86 + 5 * sh + 4) dX12_shoot_193 (ev_ixa (86 + 5 * sh) 4 (by omega)) (by omega) ((if_neg (by omega)).trans hsh) (fun M8 hX hf8 => ?_)
  have hX0 := hX
  obtain ⟨th, nx, tk, pl, va, fa, d0, d1, d2, dS, dB, dA, ik, h129, h130, h131, h132, h133, hk0, hk1, h134, h135, h136, h137, h138, h139, h140, h141, h142, h143, hsh⟩ := hX
  refine ev_aload_n (i := 0) dX12_shoot_194 rfl rfl ?_
  refine ev_getf dX12_shoot_195 flX12_13 (by assumption) (by rfl) ?_
  refine ev_bipush (v := 85) dX12_shoot_198 cnb_85 ?_
  refine ev_dup2 dX12_shoot_200 rfl rfl ?_
  refine ev_iald (j := 85) dX12_shoot_201 (by assumption) (ev_ixc (j := 85) rfl (by decide)) (by decide) ?_
  refine ev_topi hsh ?_
  refine ev_iconst (v := 1) dX12_shoot_202 cni_1 ?_
  refine ev_iadd dX12_shoot_203 ?_
  refine ev_topi (nI_1 sh) ?_
  refine md_st131 hX0 (j := 85) dX12_shoot_204 (ev_ixc (j := 85) rfl (by decide)) (by decide) (if_pos rfl) (fun M9 hX hf9 => ?_)
  have hX0 := hX
  obtain ⟨th, nx, tk, pl, va, fa, d0, d1, d2, dS, dB, dA, ik, h129, h130, h131, h132, h133, hk0, hk1, h134, h135, h136, h137, h138, h139, h140, h141, h142, h143, hsh⟩ := hX
  refine ev_aload_n (i := 0) dX12_shoot_205 rfl rfl ?_
  refine ev_getf dX12_shoot_206 flX12_13 (by assumption) (by rfl) ?_
  refine ev_iload dX12_shoot_209 rfl ?_
  refine ev_iconst (v := 3) dX12_shoot_211 cni_3 ?_
  refine ev_iadd dX12_shoot_212 ?_
  refine ev_iald (j := 86 + 5 * sh + 3) dX12_shoot_213 (by assumption) (ev_ixa (86 + 5 * sh) 3 (by omega)) (by omega) ?_
  refine ev_topi (x2 := (fx_go tu (fun q => s (7 * j + q)) (bw (2 * b)) (bw (2 * b + 1)) + ar (2 * a) + sp_rem (((s 84 * 1103515245 + 12345) >>> (16 &&& 31)) &&& 65535) (2 * ar (2 * a + 1) + 1) - ar (2 * a + 1))) (by show sh_S _ _ _ _ _ _ _ _ _ = _; unfold sh_S; simp only [upd]; rw [if_neg (by omega), if_neg (by omega), if_pos trivial]) ?_
  exact ev_reti dX12_shoot_214 rfl rfl (⟨rfl, md_XS hX0, fun k hk => (hf9 k hk).trans ((hf8 k hk).trans ((hf7 k hk).trans ((hf6 k hk).trans ((hf5 k hk).trans ((hf4 k hk).trans ((hf3 k hk).trans ((hf2 k hk).trans (hf1 k hk))))))))⟩)
theorem m_shoot_no {G : ev_G} {n : Nat} {M : ev_M} {tn c0 c1 c2 sh : Nat} {tx s kp bw ar tu : Nat → Int32} {k0 k1 : Bool} {tr : Int64} (hM : md_S M tn c0 c1 c2 sh tx s kp bw ar tu k0 k1 tr) (hsz : sh ≤ 60) {x xb xa : Int32} (h : (sp_in x 0 (nI c0 - 1) && sp_in xb 0 (nI c1 - 1) && sp_in xa 0 (nI c2 - 1)) = false ∨ sh = 60) : ev_Cal G mX12_shoot 6 0 0 [.ref 129, .int x, .int xb, .int xa] n M (md_is M (.int (-1000000)) tn c0 c1 c2 sh tx s kp bw ar tu k0 k1 tr) := by
  refine ev_Cal_of (L := [some (.ref 129), some (.int x), some (.int xb), some (.int xa), none, none, none]) (by decide +kernel) (Nat.le_of_ble_eq_true rfl) rfl ?_
  refine md_thr hM dX12_shoot_0 dX12_shoot_1 dX12_shoot_2 rfl rfl (fun M1 hM1 hf1 => ?_)
  obtain ⟨one, gof, dof, act, sp, of', ba, go, dr, ki, up, dn, hX⟩ := md_SX hM1
  have hX0 := hX
  obtain ⟨th, nx, tk, pl, va, fa, d0, d1, d2, dS, dB, dA, ik, h129, h130, h131, h132, h133, hk0, hk1, h134, h135, h136, h137, h138, h139, h140, h141, h142, h143, hsh⟩ := hX
  refine ev_aload_n (i := 0) dX12_shoot_5 rfl rfl ?_
  refine ev_iload_n (i := 1) dX12_shoot_6 rfl rfl ?_
  refine ev_c2 kX12_shoot_7 (c13_isStick h129) (ev_rv_of (by assumption) rfl rfl) (by decide) (by decide) (Nat.le_of_ble_eq_true rfl) ?_
  refine ev_if_eqb (tgt := 47) dX12_shoot_10 (by decide) (fun h10 => ?_) (fun h10 => ?_)
  · skip
    refine ev_ldc dX12_shoot_47 coX12_143 ?_
    exact ev_reti dX12_shoot_49 rfl rfl (⟨rfl, md_XS hX0, hf1⟩)
  · skip
    refine ev_aload_n (i := 0) dX12_shoot_13 rfl rfl ?_
    refine ev_iload_n (i := 2) dX12_shoot_14 rfl rfl ?_
    refine ev_c2 kX12_shoot_15 (c13_isBow h129) (ev_rv_of (by assumption) rfl rfl) (by decide) (by decide) (Nat.le_of_ble_eq_true rfl) ?_
    refine ev_if_eqb (tgt := 47) dX12_shoot_18 (by decide) (fun h18 => ?_) (fun h18 => ?_)
    · skip
      refine ev_ldc dX12_shoot_47 coX12_143 ?_
      exact ev_reti dX12_shoot_49 rfl rfl (⟨rfl, md_XS hX0, hf1⟩)
    · skip
      refine ev_iload_n (i := 3) dX12_shoot_21 rfl rfl ?_
      refine ev_iconst (v := 0) dX12_shoot_22 cni_0 ?_
      refine ev_aload_n (i := 0) dX12_shoot_23 rfl rfl ?_
      refine ev_getf dX12_shoot_24 flX12_133 (by assumption) (by rfl) ?_
      refine ev_iconst (v := 1) dX12_shoot_27 cni_1 ?_
      refine ev_isub dX12_shoot_28 ?_
      refine ev_c3 kX12_shoot_29 (c13_in) trivial (by decide) (by decide) (Nat.le_of_ble_eq_true rfl) ?_
      refine ev_if_eqb (tgt := 47) dX12_shoot_32 (by decide) (fun h32 => ?_) (fun h32 => ?_)
      · skip
        refine ev_ldc dX12_shoot_47 coX12_143 ?_
        exact ev_reti dX12_shoot_49 rfl rfl (⟨rfl, md_XS hX0, hf1⟩)
      · skip
        refine ev_aload_n (i := 0) dX12_shoot_35 rfl rfl ?_
        refine ev_getf dX12_shoot_36 flX12_13 (by assumption) (by rfl) ?_
        refine ev_bipush (v := 85) dX12_shoot_39 cnb_85 ?_
        refine ev_iald (j := 85) dX12_shoot_41 (by assumption) (ev_ixc (j := 85) rfl (by decide)) (by decide) ?_
        refine ev_topi hsh ?_
        refine ev_bipush (v := 60) dX12_shoot_42 cnb_60 ?_
        refine ev_icmp_ne (tgt := 50) dX12_shoot_44 (by decide) (fun h44 => False.elim (h.elim (fun q => by rw [h10, h18, h32] at q; cases q) (fun q => h44 (by rw [q]; rfl)))) (fun h44 => ?_)
        refine ev_ldc dX12_shoot_47 coX12_143 ?_
        exact ev_reti dX12_shoot_49 rfl rfl (⟨rfl, md_XS hX0, hf1⟩)
/-- k places from o on are those of s -/
def kq_k (kp s : Nat → Int32) (o k : Nat) : Nat → Int32 := fun q => if o ≤ q ∧ q < o + k then s (q - o) else kp q
theorem kq_0 {kp s : Nat → Int32} {o : Nat} : kq_k kp s o 0 = kp := by funext q; exact if_neg (by omega)
theorem kq_1 {kp s : Nat → Int32} {o k : Nat} : upd (kq_k kp s o k) (o + k) (s k) = kq_k kp s o (k + 1) := by
  funext q
  simp only [upd, kq_k]
  by_cases h : q = o + k
  · rw [if_pos h, if_pos (by omega), h, Nat.add_sub_cancel_left]
  · rw [if_neg h]
    by_cases h2 : o ≤ q ∧ q < o + k
    · rw [if_pos h2, if_pos (by omega)]
    · rw [if_neg h2, if_neg (by omega)]
def bq_k (kp s : Nat → Int32) (o k : Nat) : Nat → Int32 := fun q => if q < k then kp (o + q) else s q
theorem bq_0 {kp s : Nat → Int32} {o : Nat} : bq_k kp s o 0 = s := by funext q; exact if_neg (by omega)
theorem bq_1 {kp s : Nat → Int32} {o k : Nat} : upd (bq_k kp s o k) k (kp (o + k)) = bq_k kp s o (k + 1) := by
  funext q
  simp only [upd, bq_k]
  by_cases h : q = k
  · rw [if_pos h, if_pos (by omega), h]
  · rw [if_neg h]
    by_cases h2 : q < k
    · rw [if_pos h2, if_pos (by omega)]
    · rw [if_neg h2, if_neg (by omega)]
theorem l_keep_0 {G : ev_G} {n : Nat} {M : ev_M} {tn c0 c1 c2 sh : Nat} {tx s kp bw ar tu : Nat → Int32} {k0 k1 : Bool} {tr : Int64} : ∀ (m k : Nat) (M1 : ev_M), k + m = 386 → md_S M1 tn c0 c1 c2 sh tx s (kq_k kp s 0 k) bw ar tu k0 k1 tr → (∀ k, k < 129 → M1 k = M k) → ev_E G mX12_keep 2 0 0 n M1 18 [some (.ref 129), some (.int 0), some (.int (nI k))] [] (md_is M (.int (nI sh)) tn c0 c1 c2 sh tx s (kq_k kp s 0 386) bw ar tu true k1 tr) := by
  intro m
  induction m with
  | zero =>
    intro k M1 hk hM1 hf1
    obtain ⟨one, gof, dof, act, sp, of', ba, go, dr, ki, up, dn, hX⟩ := md_SX hM1
    have hX0 := hX
    obtain ⟨th, nx, tk, pl, va, fa, d0, d1, d2, dS, dB, dA, ik, h129, h130, h131, h132, h133, hk0, hk1, h134, h135, h136, h137, h138, h139, h140, h141, h142, h143, hsh⟩ := hX
    refine ev_iload_n (i := 2) dX12_keep_18 rfl rfl ?_
    refine ev_sipush (v := 386) dX12_keep_19 cns_386 ?_
    refine ev_icmp_ge (tgt := 49) dX12_keep_22 (by decide) (fun h22 => ?_) (fun h22 => False.elim (Int32.not_le.mpr h22 (nI_le (a := 386) (b := k) (by omega) (by omega))))
    have hkk : k = 386 := by omega
    subst hkk
    refine ev_aload_n (i := 0) dX12_keep_49 rfl rfl ?_
    refine ev_getf dX12_keep_50 flX12_19 (by assumption) (by rfl) ?_
    refine ev_iload_n (i := 1) dX12_keep_53 rfl rfl ?_
    refine ev_iconst (v := 1) dX12_keep_54 cni_1 ?_
    refine md_st133_0 hX0 dX12_keep_55 (fun M2 hX hf2 => ?_)
    have hX0 := hX
    obtain ⟨th, nx, tk, pl, va, fa, d0, d1, d2, dS, dB, dA, ik, h129, h130, h131, h132, h133, hk0, hk1, h134, h135, h136, h137, h138, h139, h140, h141, h142, h143, hsh⟩ := hX
    refine ev_aload_n (i := 0) dX12_keep_56 rfl rfl ?_
    refine ev_getf dX12_keep_57 flX12_13 (by assumption) (by rfl) ?_
    refine ev_bipush (v := 85) dX12_keep_60 cnb_85 ?_
    refine ev_iald (j := 85) dX12_keep_62 (by assumption) (ev_ixc (j := 85) rfl (by decide)) (by decide) ?_
    refine ev_topi hsh ?_
    exact ev_reti dX12_keep_63 rfl rfl (⟨rfl, md_XS hX0, fun k hk => (hf2 k hk).trans (hf1 k hk)⟩)
  | succ m ih =>
    intro k M1 hk hM1 hf1
    obtain ⟨one, gof, dof, act, sp, of', ba, go, dr, ki, up, dn, hX⟩ := md_SX hM1
    have hX0 := hX
    obtain ⟨th, nx, tk, pl, va, fa, d0, d1, d2, dS, dB, dA, ik, h129, h130, h131, h132, h133, hk0, hk1, h134, h135, h136, h137, h138, h139, h140, h141, h142, h143, hsh⟩ := hX
    refine ev_iload_n (i := 2) dX12_keep_18 rfl rfl ?_
    refine ev_sipush (v := 386) dX12_keep_19 cns_386 ?_
    refine ev_icmp_ge (tgt := 49) dX12_keep_22 (by decide) (fun h22 => False.elim (nI_ge (a := k) (b := 386) (by omega) (by decide) h22)) (fun h22 => ?_)
    refine ev_aload_n (i := 0) dX12_keep_25 rfl rfl ?_
    refine ev_getf dX12_keep_26 flX12_16 (by assumption) (by rfl) ?_
    refine ev_sipush (v := 386) dX12_keep_29 cns_386 ?_
    refine ev_iload_n (i := 1) dX12_keep_32 rfl rfl ?_
    refine ev_imul dX12_keep_33 ?_
    refine ev_iload_n (i := 2) dX12_keep_34 rfl rfl ?_
    refine ev_iadd dX12_keep_35 ?_
    refine ev_aload_n (i := 0) dX12_keep_36 rfl rfl ?_
    refine ev_getf dX12_keep_37 flX12_13 (by assumption) (by rfl) ?_
    refine ev_iload_n (i := 2) dX12_keep_40 rfl rfl ?_
    refine ev_iald (j := k) dX12_keep_41 (by assumption) (ev_ix_nI (by omega)) (by omega) ?_
    refine md_st132 hX0 (j := 0 + k) dX12_keep_42 (ev_ixc (by show nI 386 * nI 0 + nI k = _; rw [nI_mul, nI_add]) (by omega)) (by omega) (fun M2 hX hf2 => ?_)
    have hX0 := hX
    obtain ⟨th, nx, tk, pl, va, fa, d0, d1, d2, dS, dB, dA, ik, h129, h130, h131, h132, h133, hk0, hk1, h134, h135, h136, h137, h138, h139, h140, h141, h142, h143, hsh⟩ := hX
    refine ev_iinc (v := nI (k + 1)) dX12_keep_43 rfl (nI_1 k) (Nat.le_of_ble_eq_true rfl) rfl ?_
    refine ev_goto (tgt := 18) dX12_keep_46 (by decide) ?_
    rw [kq_1] at hX0
    exact ih (k + 1) M2 (by omega) (md_XS hX0) (fun k hk => (hf2 k hk).trans (hf1 k hk))
theorem m_keep_0 {G : ev_G} {n : Nat} {M : ev_M} {tn c0 c1 c2 sh : Nat} {tx s kp bw ar tu : Nat → Int32} {k0 k1 : Bool} {tr : Int64} (hM : md_S M tn c0 c1 c2 sh tx s kp bw ar tu k0 k1 tr) : ev_Cal G mX12_keep 2 0 0 [.ref 129, .int 0] n M (md_is M (.int (nI sh)) tn c0 c1 c2 sh tx s (kq_k kp s 0 386) bw ar tu true k1 tr) := by
  refine ev_Cal_of (L := [some (.ref 129), some (.int 0), none]) (by decide +kernel) (Nat.le_of_ble_eq_true rfl) rfl ?_
  refine md_thr hM dX12_keep_0 dX12_keep_1 dX12_keep_2 rfl rfl (fun M1 hM1 hf1 => ?_)
  obtain ⟨one, gof, dof, act, sp, of', ba, go, dr, ki, up, dn, hX⟩ := md_SX hM1
  have hX0 := hX
  obtain ⟨th, nx, tk, pl, va, fa, d0, d1, d2, dS, dB, dA, ik, h129, h130, h131, h132, h133, hk0, hk1, h134, h135, h136, h137, h138, h139, h140, h141, h142, h143, hsh⟩ := hX
  refine ev_iload_n (i := 1) dX12_keep_5 rfl rfl ?_
  refine ev_iconst (v := 0) dX12_keep_6 cni_0 ?_
  refine ev_iconst (v := 1) dX12_keep_7 cni_1 ?_
  refine ev_c3 kX12_keep_8 (c13_in) trivial (by decide) (by decide) (Nat.le_of_ble_eq_true rfl) ?_
  refine ev_if_neb (tgt := 16) dX12_keep_11 (by decide) (fun h11 => ?_) (fun h11 => False.elim (Bool.false_ne_true (h11.symm.trans (by decide))))
  refine ev_iconst (v := 0) dX12_keep_16 cni_0 ?_
  refine ev_istore_n (i := 2) dX12_keep_17 rfl (Nat.le_of_ble_eq_true rfl) rfl ?_
  exact l_keep_0 386 0 M1 rfl (by rw [kq_0]; exact hM1) hf1
theorem bq_85 {kp s : Nat → Int32} {o sh m : Nat} (h1 : s 85 = nI sh) (h2 : kp (o + 85) = nI m) (k : Nat) : bq_k kp s o k 85 = nI (if k ≤ 85 then sh else m) := by
  unfold bq_k
  by_cases h : k ≤ 85
  · rw [if_neg (by omega), if_pos h]; exact h1
  · rw [if_pos (by omega), if_neg h]; exact h2
theorem l_back_0 {G : ev_G} {n : Nat} {M : ev_M} {tn c0 c1 c2 sh : Nat} {tx s kp bw ar tu : Nat → Int32} {k0 k1 : Bool} {tr : Int64} {m : Nat} (hsh0 : s 85 = nI sh) (hm : kp (0 + 85) = nI m) : ∀ (q k : Nat) (M1 : ev_M), k + q = 386 → md_S M1 tn c0 c1 c2 ((if k ≤ 85 then sh else m)) tx (bq_k kp s 0 k) kp bw ar tu k0 k1 tr → (∀ k, k < 129 → M1 k = M k) → ev_E G mX12_back 2 0 0 n M1 30 [some (.ref 129), some (.int 0), some (.int (nI k))] [] (md_is M (.int (nI m)) tn c0 c1 c2 m tx (bq_k kp s 0 386) kp bw ar tu k0 k1 tr) := by
  intro q
  induction q with
  | zero =>
    intro k M1 hk hM1 hf1
    obtain ⟨one, gof, dof, act, sp, of', ba, go, dr, ki, up, dn, hX⟩ := md_SX hM1
    have hX0 := hX
    obtain ⟨th, nx, tk, pl, va, fa, d0, d1, d2, dS, dB, dA, ik, h129, h130, h131, h132, h133, hk0, hk1, h134, h135, h136, h137, h138, h139, h140, h141, h142, h143, hsh⟩ := hX
    refine ev_iload_n (i := 2) dX12_back_30 rfl rfl ?_
    refine ev_sipush (v := 386) dX12_back_31 cns_386 ?_
    refine ev_icmp_ge (tgt := 61) dX12_back_34 (by decide) (fun h34 => ?_) (fun h34 => False.elim (Int32.not_le.mpr h34 (nI_le (a := 386) (b := k) (by omega) (by omega))))
    have hkk : k = 386 := by omega
    subst hkk
    refine ev_aload_n (i := 0) dX12_back_61 rfl rfl ?_
    refine ev_getf dX12_back_62 flX12_13 (by assumption) (by rfl) ?_
    refine ev_bipush (v := 85) dX12_back_65 cnb_85 ?_
    refine ev_iald (j := 85) dX12_back_67 (by assumption) (ev_ixc (j := 85) rfl (by decide)) (by decide) ?_
    refine ev_topi hsh ?_
    exact ev_reti dX12_back_68 rfl rfl (⟨rfl, md_XS hX0, hf1⟩)
  | succ q ih =>
    intro k M1 hk hM1 hf1
    obtain ⟨one, gof, dof, act, sp, of', ba, go, dr, ki, up, dn, hX⟩ := md_SX hM1
    have hX0 := hX
    obtain ⟨th, nx, tk, pl, va, fa, d0, d1, d2, dS, dB, dA, ik, h129, h130, h131, h132, h133, hk0, hk1, h134, h135, h136, h137, h138, h139, h140, h141, h142, h143, hsh⟩ := hX
    refine ev_iload_n (i := 2) dX12_back_30 rfl rfl ?_
    refine ev_sipush (v := 386) dX12_back_31 cns_386 ?_
    refine ev_icmp_ge (tgt := 61) dX12_back_34 (by decide) (fun h34 => False.elim (nI_ge (a := k) (b := 386) (by omega) (by decide) h34)) (fun h34 => ?_)
    refine ev_aload_n (i := 0) dX12_back_37 rfl rfl ?_
    refine ev_getf dX12_back_38 flX12_13 (by assumption) (by rfl) ?_
    refine ev_iload_n (i := 2) dX12_back_41 rfl rfl ?_
    refine ev_aload_n (i := 0) dX12_back_42 rfl rfl ?_
    refine ev_getf dX12_back_43 flX12_16 (by assumption) (by rfl) ?_
    refine ev_sipush (v := 386) dX12_back_46 cns_386 ?_
    refine ev_iload_n (i := 1) dX12_back_49 rfl rfl ?_
    refine ev_imul dX12_back_50 ?_
    refine ev_iload_n (i := 2) dX12_back_51 rfl rfl ?_
    refine ev_iadd dX12_back_52 ?_
    refine ev_iald (j := 0 + k) dX12_back_53 (by assumption) (ev_ixc (by show nI 386 * nI 0 + nI k = _; rw [nI_mul, nI_add]) (by omega)) (by omega) ?_
    refine md_st131 hX0 (j := k) (sh2 := (if (k + 1) ≤ 85 then sh else m)) dX12_back_54 (ev_ix_nI (by omega)) (by omega) (by rw [bq_1]; exact bq_85 hsh0 hm (k + 1)) (fun M2 hX hf2 => ?_)
    have hX0 := hX
    obtain ⟨th, nx, tk, pl, va, fa, d0, d1, d2, dS, dB, dA, ik, h129, h130, h131, h132, h133, hk0, hk1, h134, h135, h136, h137, h138, h139, h140, h141, h142, h143, hsh⟩ := hX
    refine ev_iinc (v := nI (k + 1)) dX12_back_55 rfl (nI_1 k) (Nat.le_of_ble_eq_true rfl) rfl ?_
    refine ev_goto (tgt := 30) dX12_back_58 (by decide) ?_
    rw [bq_1] at hX0
    exact ih (k + 1) M2 (by omega) (md_XS hX0) (fun k hk => (hf2 k hk).trans (hf1 k hk))
theorem m_back_0 {G : ev_G} {n : Nat} {M : ev_M} {tn c0 c1 c2 sh : Nat} {tx s kp bw ar tu : Nat → Int32} {k0 k1 : Bool} {tr : Int64} (hM : md_S M tn c0 c1 c2 sh tx s kp bw ar tu k0 k1 tr) {m : Nat} (hm : kp (0 + 85) = nI m) (hkt : k0 = true) : ev_Cal G mX12_back 2 0 0 [.ref 129, .int 0] n M (md_is M (.int (nI m)) tn c0 c1 c2 m tx (bq_k kp s 0 386) kp bw ar tu k0 k1 tr) := by
  refine ev_Cal_of (L := [some (.ref 129), some (.int 0), none]) (by decide +kernel) (Nat.le_of_ble_eq_true rfl) rfl ?_
  refine md_thr hM dX12_back_0 dX12_back_1 dX12_back_2 rfl rfl (fun M1 hM1 hf1 => ?_)
  obtain ⟨one, gof, dof, act, sp, of', ba, go, dr, ki, up, dn, hX⟩ := md_SX hM1
  have hX0 := hX
  obtain ⟨th, nx, tk, pl, va, fa, d0, d1, d2, dS, dB, dA, ik, h129, h130, h131, h132, h133, hk0, hk1, h134, h135, h136, h137, h138, h139, h140, h141, h142, h143, hsh⟩ := hX
  refine ev_iload_n (i := 1) dX12_back_5 rfl rfl ?_
  refine ev_iconst (v := 0) dX12_back_6 cni_0 ?_
  refine ev_iconst (v := 1) dX12_back_7 cni_1 ?_
  refine ev_c3 kX12_back_8 (c13_in) trivial (by decide) (by decide) (Nat.le_of_ble_eq_true rfl) ?_
  refine ev_if_neb (tgt := 16) dX12_back_11 (by decide) (fun h11 => ?_) (fun h11 => False.elim (Bool.false_ne_true (h11.symm.trans (by decide))))
  refine ev_aload_n (i := 0) dX12_back_16 rfl rfl ?_
  refine ev_getf dX12_back_17 flX12_19 (by assumption) (by rfl) ?_
  refine ev_iload_n (i := 1) dX12_back_20 rfl rfl ?_
  refine ev_zald (j := 0) dX12_back_21 (by assumption) (ev_ixc (j := 0) rfl (by decide)) (by decide) ?_
  refine ev_topi (x2 := 1) (hk0.trans (by rw [hkt]; rfl)) ?_
  refine ev_if_ne (tgt := 28) dX12_back_22 (by decide) (fun h22 => ?_) (fun h22 => False.elim (absurd h22 (by decide)))
  refine ev_iconst (v := 0) dX12_back_28 cni_0 ?_
  refine ev_istore_n (i := 2) dX12_back_29 rfl (Nat.le_of_ble_eq_true rfl) rfl ?_
  exact l_back_0 hsh hm 386 0 M1 rfl (by rw [bq_0]; exact hM1) hf1
theorem m_back_0_no {G : ev_G} {n : Nat} {M : ev_M} {tn c0 c1 c2 sh : Nat} {tx s kp bw ar tu : Nat → Int32} {k0 k1 : Bool} {tr : Int64} (hM : md_S M tn c0 c1 c2 sh tx s kp bw ar tu k0 k1 tr) (hkf : k0 = false) : ev_Cal G mX12_back 2 0 0 [.ref 129, .int 0] n M (md_is M (.int (-2)) tn c0 c1 c2 sh tx s kp bw ar tu k0 k1 tr) := by
  refine ev_Cal_of (L := [some (.ref 129), some (.int 0), none]) (by decide +kernel) (Nat.le_of_ble_eq_true rfl) rfl ?_
  refine md_thr hM dX12_back_0 dX12_back_1 dX12_back_2 rfl rfl (fun M1 hM1 hf1 => ?_)
  obtain ⟨one, gof, dof, act, sp, of', ba, go, dr, ki, up, dn, hX⟩ := md_SX hM1
  have hX0 := hX
  obtain ⟨th, nx, tk, pl, va, fa, d0, d1, d2, dS, dB, dA, ik, h129, h130, h131, h132, h133, hk0, hk1, h134, h135, h136, h137, h138, h139, h140, h141, h142, h143, hsh⟩ := hX
  refine ev_iload_n (i := 1) dX12_back_5 rfl rfl ?_
  refine ev_iconst (v := 0) dX12_back_6 cni_0 ?_
  refine ev_iconst (v := 1) dX12_back_7 cni_1 ?_
  refine ev_c3 kX12_back_8 (c13_in) trivial (by decide) (by decide) (Nat.le_of_ble_eq_true rfl) ?_
  refine ev_if_neb (tgt := 16) dX12_back_11 (by decide) (fun h11 => ?_) (fun h11 => False.elim (Bool.false_ne_true (h11.symm.trans (by decide))))
  refine ev_aload_n (i := 0) dX12_back_16 rfl rfl ?_
  refine ev_getf dX12_back_17 flX12_19 (by assumption) (by rfl) ?_
  refine ev_iload_n (i := 1) dX12_back_20 rfl rfl ?_
  refine ev_zald (j := 0) dX12_back_21 (by assumption) (ev_ixc (j := 0) rfl (by decide)) (by decide) ?_
  refine ev_topi (x2 := 0) (hk0.trans (by rw [hkf]; rfl)) ?_
  refine ev_if_ne (tgt := 28) dX12_back_22 (by decide) (fun h22 => False.elim (absurd rfl h22)) (fun h22 => ?_)
  refine ev_bipush (v := (-2)) dX12_back_25 cnb_m2 ?_
  exact ev_reti dX12_back_27 rfl rfl (⟨rfl, md_XS hX0, hf1⟩)
theorem l_keep_1 {G : ev_G} {n : Nat} {M : ev_M} {tn c0 c1 c2 sh : Nat} {tx s kp bw ar tu : Nat → Int32} {k0 k1 : Bool} {tr : Int64} : ∀ (m k : Nat) (M1 : ev_M), k + m = 386 → md_S M1 tn c0 c1 c2 sh tx s (kq_k kp s 386 k) bw ar tu k0 k1 tr → (∀ k, k < 129 → M1 k = M k) → ev_E G mX12_keep 2 0 0 n M1 18 [some (.ref 129), some (.int 1), some (.int (nI k))] [] (md_is M (.int (nI sh)) tn c0 c1 c2 sh tx s (kq_k kp s 386 386) bw ar tu k0 true tr) := by
  intro m
  induction m with
  | zero =>
    intro k M1 hk hM1 hf1
    obtain ⟨one, gof, dof, act, sp, of', ba, go, dr, ki, up, dn, hX⟩ := md_SX hM1
    have hX0 := hX
    obtain ⟨th, nx, tk, pl, va, fa, d0, d1, d2, dS, dB, dA, ik, h129, h130, h131, h132, h133, hk0, hk1, h134, h135, h136, h137, h138, h139, h140, h141, h142, h143, hsh⟩ := hX
    refine ev_iload_n (i := 2) dX12_keep_18 rfl rfl ?_
    refine ev_sipush (v := 386) dX12_keep_19 cns_386 ?_
    refine ev_icmp_ge (tgt := 49) dX12_keep_22 (by decide) (fun h22 => ?_) (fun h22 => False.elim (Int32.not_le.mpr h22 (nI_le (a := 386) (b := k) (by omega) (by omega))))
    have hkk : k = 386 := by omega
    subst hkk
    refine ev_aload_n (i := 0) dX12_keep_49 rfl rfl ?_
    refine ev_getf dX12_keep_50 flX12_19 (by assumption) (by rfl) ?_
    refine ev_iload_n (i := 1) dX12_keep_53 rfl rfl ?_
    refine ev_iconst (v := 1) dX12_keep_54 cni_1 ?_
    refine md_st133_1 hX0 dX12_keep_55 (fun M2 hX hf2 => ?_)
    have hX0 := hX
    obtain ⟨th, nx, tk, pl, va, fa, d0, d1, d2, dS, dB, dA, ik, h129, h130, h131, h132, h133, hk0, hk1, h134, h135, h136, h137, h138, h139, h140, h141, h142, h143, hsh⟩ := hX
    refine ev_aload_n (i := 0) dX12_keep_56 rfl rfl ?_
    refine ev_getf dX12_keep_57 flX12_13 (by assumption) (by rfl) ?_
    refine ev_bipush (v := 85) dX12_keep_60 cnb_85 ?_
    refine ev_iald (j := 85) dX12_keep_62 (by assumption) (ev_ixc (j := 85) rfl (by decide)) (by decide) ?_
    refine ev_topi hsh ?_
    exact ev_reti dX12_keep_63 rfl rfl (⟨rfl, md_XS hX0, fun k hk => (hf2 k hk).trans (hf1 k hk)⟩)
  | succ m ih =>
    intro k M1 hk hM1 hf1
    obtain ⟨one, gof, dof, act, sp, of', ba, go, dr, ki, up, dn, hX⟩ := md_SX hM1
    have hX0 := hX
    obtain ⟨th, nx, tk, pl, va, fa, d0, d1, d2, dS, dB, dA, ik, h129, h130, h131, h132, h133, hk0, hk1, h134, h135, h136, h137, h138, h139, h140, h141, h142, h143, hsh⟩ := hX
    refine ev_iload_n (i := 2) dX12_keep_18 rfl rfl ?_
    refine ev_sipush (v := 386) dX12_keep_19 cns_386 ?_
    refine ev_icmp_ge (tgt := 49) dX12_keep_22 (by decide) (fun h22 => False.elim (nI_ge (a := k) (b := 386) (by omega) (by decide) h22)) (fun h22 => ?_)
    refine ev_aload_n (i := 0) dX12_keep_25 rfl rfl ?_
    refine ev_getf dX12_keep_26 flX12_16 (by assumption) (by rfl) ?_
    refine ev_sipush (v := 386) dX12_keep_29 cns_386 ?_
    refine ev_iload_n (i := 1) dX12_keep_32 rfl rfl ?_
    refine ev_imul dX12_keep_33 ?_
    refine ev_iload_n (i := 2) dX12_keep_34 rfl rfl ?_
    refine ev_iadd dX12_keep_35 ?_
    refine ev_aload_n (i := 0) dX12_keep_36 rfl rfl ?_
    refine ev_getf dX12_keep_37 flX12_13 (by assumption) (by rfl) ?_
    refine ev_iload_n (i := 2) dX12_keep_40 rfl rfl ?_
    refine ev_iald (j := k) dX12_keep_41 (by assumption) (ev_ix_nI (by omega)) (by omega) ?_
    refine md_st132 hX0 (j := 386 + k) dX12_keep_42 (ev_ixc (by show nI 386 * nI 1 + nI k = _; rw [nI_mul, nI_add]) (by omega)) (by omega) (fun M2 hX hf2 => ?_)
    have hX0 := hX
    obtain ⟨th, nx, tk, pl, va, fa, d0, d1, d2, dS, dB, dA, ik, h129, h130, h131, h132, h133, hk0, hk1, h134, h135, h136, h137, h138, h139, h140, h141, h142, h143, hsh⟩ := hX
    refine ev_iinc (v := nI (k + 1)) dX12_keep_43 rfl (nI_1 k) (Nat.le_of_ble_eq_true rfl) rfl ?_
    refine ev_goto (tgt := 18) dX12_keep_46 (by decide) ?_
    rw [kq_1] at hX0
    exact ih (k + 1) M2 (by omega) (md_XS hX0) (fun k hk => (hf2 k hk).trans (hf1 k hk))
theorem m_keep_1 {G : ev_G} {n : Nat} {M : ev_M} {tn c0 c1 c2 sh : Nat} {tx s kp bw ar tu : Nat → Int32} {k0 k1 : Bool} {tr : Int64} (hM : md_S M tn c0 c1 c2 sh tx s kp bw ar tu k0 k1 tr) : ev_Cal G mX12_keep 2 0 0 [.ref 129, .int 1] n M (md_is M (.int (nI sh)) tn c0 c1 c2 sh tx s (kq_k kp s 386 386) bw ar tu k0 true tr) := by
  refine ev_Cal_of (L := [some (.ref 129), some (.int 1), none]) (by decide +kernel) (Nat.le_of_ble_eq_true rfl) rfl ?_
  refine md_thr hM dX12_keep_0 dX12_keep_1 dX12_keep_2 rfl rfl (fun M1 hM1 hf1 => ?_)
  obtain ⟨one, gof, dof, act, sp, of', ba, go, dr, ki, up, dn, hX⟩ := md_SX hM1
  have hX0 := hX
  obtain ⟨th, nx, tk, pl, va, fa, d0, d1, d2, dS, dB, dA, ik, h129, h130, h131, h132, h133, hk0, hk1, h134, h135, h136, h137, h138, h139, h140, h141, h142, h143, hsh⟩ := hX
  refine ev_iload_n (i := 1) dX12_keep_5 rfl rfl ?_
  refine ev_iconst (v := 0) dX12_keep_6 cni_0 ?_
  refine ev_iconst (v := 1) dX12_keep_7 cni_1 ?_
  refine ev_c3 kX12_keep_8 (c13_in) trivial (by decide) (by decide) (Nat.le_of_ble_eq_true rfl) ?_
  refine ev_if_neb (tgt := 16) dX12_keep_11 (by decide) (fun h11 => ?_) (fun h11 => False.elim (Bool.false_ne_true (h11.symm.trans (by decide))))
  refine ev_iconst (v := 0) dX12_keep_16 cni_0 ?_
  refine ev_istore_n (i := 2) dX12_keep_17 rfl (Nat.le_of_ble_eq_true rfl) rfl ?_
  exact l_keep_1 386 0 M1 rfl (by rw [kq_0]; exact hM1) hf1
theorem l_back_1 {G : ev_G} {n : Nat} {M : ev_M} {tn c0 c1 c2 sh : Nat} {tx s kp bw ar tu : Nat → Int32} {k0 k1 : Bool} {tr : Int64} {m : Nat} (hsh0 : s 85 = nI sh) (hm : kp (386 + 85) = nI m) : ∀ (q k : Nat) (M1 : ev_M), k + q = 386 → md_S M1 tn c0 c1 c2 ((if k ≤ 85 then sh else m)) tx (bq_k kp s 386 k) kp bw ar tu k0 k1 tr → (∀ k, k < 129 → M1 k = M k) → ev_E G mX12_back 2 0 0 n M1 30 [some (.ref 129), some (.int 1), some (.int (nI k))] [] (md_is M (.int (nI m)) tn c0 c1 c2 m tx (bq_k kp s 386 386) kp bw ar tu k0 k1 tr) := by
  intro q
  induction q with
  | zero =>
    intro k M1 hk hM1 hf1
    obtain ⟨one, gof, dof, act, sp, of', ba, go, dr, ki, up, dn, hX⟩ := md_SX hM1
    have hX0 := hX
    obtain ⟨th, nx, tk, pl, va, fa, d0, d1, d2, dS, dB, dA, ik, h129, h130, h131, h132, h133, hk0, hk1, h134, h135, h136, h137, h138, h139, h140, h141, h142, h143, hsh⟩ := hX
    refine ev_iload_n (i := 2) dX12_back_30 rfl rfl ?_
    refine ev_sipush (v := 386) dX12_back_31 cns_386 ?_
    refine ev_icmp_ge (tgt := 61) dX12_back_34 (by decide) (fun h34 => ?_) (fun h34 => False.elim (Int32.not_le.mpr h34 (nI_le (a := 386) (b := k) (by omega) (by omega))))
    have hkk : k = 386 := by omega
    subst hkk
    refine ev_aload_n (i := 0) dX12_back_61 rfl rfl ?_
    refine ev_getf dX12_back_62 flX12_13 (by assumption) (by rfl) ?_
    refine ev_bipush (v := 85) dX12_back_65 cnb_85 ?_
    refine ev_iald (j := 85) dX12_back_67 (by assumption) (ev_ixc (j := 85) rfl (by decide)) (by decide) ?_
    refine ev_topi hsh ?_
    exact ev_reti dX12_back_68 rfl rfl (⟨rfl, md_XS hX0, hf1⟩)
  | succ q ih =>
    intro k M1 hk hM1 hf1
    obtain ⟨one, gof, dof, act, sp, of', ba, go, dr, ki, up, dn, hX⟩ := md_SX hM1
    have hX0 := hX
    obtain ⟨th, nx, tk, pl, va, fa, d0, d1, d2, dS, dB, dA, ik, h129, h130, h131, h132, h133, hk0, hk1, h134, h135, h136, h137, h138, h139, h140, h141, h142, h143, hsh⟩ := hX
    refine ev_iload_n (i := 2) dX12_back_30 rfl rfl ?_
    refine ev_sipush (v := 386) dX12_back_31 cns_386 ?_
    refine ev_icmp_ge (tgt := 61) dX12_back_34 (by decide) (fun h34 => False.elim (nI_ge (a := k) (b := 386) (by omega) (by decide) h34)) (fun h34 => ?_)
    refine ev_aload_n (i := 0) dX12_back_37 rfl rfl ?_
    refine ev_getf dX12_back_38 flX12_13 (by assumption) (by rfl) ?_
    refine ev_iload_n (i := 2) dX12_back_41 rfl rfl ?_
    refine ev_aload_n (i := 0) dX12_back_42 rfl rfl ?_
    refine ev_getf dX12_back_43 flX12_16 (by assumption) (by rfl) ?_
    refine ev_sipush (v := 386) dX12_back_46 cns_386 ?_
    refine ev_iload_n (i := 1) dX12_back_49 rfl rfl ?_
    refine ev_imul dX12_back_50 ?_
    refine ev_iload_n (i := 2) dX12_back_51 rfl rfl ?_
    refine ev_iadd dX12_back_52 ?_
    refine ev_iald (j := 386 + k) dX12_back_53 (by assumption) (ev_ixc (by show nI 386 * nI 1 + nI k = _; rw [nI_mul, nI_add]) (by omega)) (by omega) ?_
    refine md_st131 hX0 (j := k) (sh2 := (if (k + 1) ≤ 85 then sh else m)) dX12_back_54 (ev_ix_nI (by omega)) (by omega) (by rw [bq_1]; exact bq_85 hsh0 hm (k + 1)) (fun M2 hX hf2 => ?_)
    have hX0 := hX
    obtain ⟨th, nx, tk, pl, va, fa, d0, d1, d2, dS, dB, dA, ik, h129, h130, h131, h132, h133, hk0, hk1, h134, h135, h136, h137, h138, h139, h140, h141, h142, h143, hsh⟩ := hX
    refine ev_iinc (v := nI (k + 1)) dX12_back_55 rfl (nI_1 k) (Nat.le_of_ble_eq_true rfl) rfl ?_
    refine ev_goto (tgt := 30) dX12_back_58 (by decide) ?_
    rw [bq_1] at hX0
    exact ih (k + 1) M2 (by omega) (md_XS hX0) (fun k hk => (hf2 k hk).trans (hf1 k hk))
theorem m_back_1 {G : ev_G} {n : Nat} {M : ev_M} {tn c0 c1 c2 sh : Nat} {tx s kp bw ar tu : Nat → Int32} {k0 k1 : Bool} {tr : Int64} (hM : md_S M tn c0 c1 c2 sh tx s kp bw ar tu k0 k1 tr) {m : Nat} (hm : kp (386 + 85) = nI m) (hkt : k1 = true) : ev_Cal G mX12_back 2 0 0 [.ref 129, .int 1] n M (md_is M (.int (nI m)) tn c0 c1 c2 m tx (bq_k kp s 386 386) kp bw ar tu k0 k1 tr) := by
  refine ev_Cal_of (L := [some (.ref 129), some (.int 1), none]) (by decide +kernel) (Nat.le_of_ble_eq_true rfl) rfl ?_
  refine md_thr hM dX12_back_0 dX12_back_1 dX12_back_2 rfl rfl (fun M1 hM1 hf1 => ?_)
  obtain ⟨one, gof, dof, act, sp, of', ba, go, dr, ki, up, dn, hX⟩ := md_SX hM1
  have hX0 := hX
  obtain ⟨th, nx, tk, pl, va, fa, d0, d1, d2, dS, dB, dA, ik, h129, h130, h131, h132, h133, hk0, hk1, h134, h135, h136, h137, h138, h139, h140, h141, h142, h143, hsh⟩ := hX
  refine ev_iload_n (i := 1) dX12_back_5 rfl rfl ?_
  refine ev_iconst (v := 0) dX12_back_6 cni_0 ?_
  refine ev_iconst (v := 1) dX12_back_7 cni_1 ?_
  refine ev_c3 kX12_back_8 (c13_in) trivial (by decide) (by decide) (Nat.le_of_ble_eq_true rfl) ?_
  refine ev_if_neb (tgt := 16) dX12_back_11 (by decide) (fun h11 => ?_) (fun h11 => False.elim (Bool.false_ne_true (h11.symm.trans (by decide))))
  refine ev_aload_n (i := 0) dX12_back_16 rfl rfl ?_
  refine ev_getf dX12_back_17 flX12_19 (by assumption) (by rfl) ?_
  refine ev_iload_n (i := 1) dX12_back_20 rfl rfl ?_
  refine ev_zald (j := 1) dX12_back_21 (by assumption) (ev_ixc (j := 1) rfl (by decide)) (by decide) ?_
  refine ev_topi (x2 := 1) (hk1.trans (by rw [hkt]; rfl)) ?_
  refine ev_if_ne (tgt := 28) dX12_back_22 (by decide) (fun h22 => ?_) (fun h22 => False.elim (absurd h22 (by decide)))
  refine ev_iconst (v := 0) dX12_back_28 cni_0 ?_
  refine ev_istore_n (i := 2) dX12_back_29 rfl (Nat.le_of_ble_eq_true rfl) rfl ?_
  exact l_back_1 hsh hm 386 0 M1 rfl (by rw [bq_0]; exact hM1) hf1
theorem m_back_1_no {G : ev_G} {n : Nat} {M : ev_M} {tn c0 c1 c2 sh : Nat} {tx s kp bw ar tu : Nat → Int32} {k0 k1 : Bool} {tr : Int64} (hM : md_S M tn c0 c1 c2 sh tx s kp bw ar tu k0 k1 tr) (hkf : k1 = false) : ev_Cal G mX12_back 2 0 0 [.ref 129, .int 1] n M (md_is M (.int (-2)) tn c0 c1 c2 sh tx s kp bw ar tu k0 k1 tr) := by
  refine ev_Cal_of (L := [some (.ref 129), some (.int 1), none]) (by decide +kernel) (Nat.le_of_ble_eq_true rfl) rfl ?_
  refine md_thr hM dX12_back_0 dX12_back_1 dX12_back_2 rfl rfl (fun M1 hM1 hf1 => ?_)
  obtain ⟨one, gof, dof, act, sp, of', ba, go, dr, ki, up, dn, hX⟩ := md_SX hM1
  have hX0 := hX
  obtain ⟨th, nx, tk, pl, va, fa, d0, d1, d2, dS, dB, dA, ik, h129, h130, h131, h132, h133, hk0, hk1, h134, h135, h136, h137, h138, h139, h140, h141, h142, h143, hsh⟩ := hX
  refine ev_iload_n (i := 1) dX12_back_5 rfl rfl ?_
  refine ev_iconst (v := 0) dX12_back_6 cni_0 ?_
  refine ev_iconst (v := 1) dX12_back_7 cni_1 ?_
  refine ev_c3 kX12_back_8 (c13_in) trivial (by decide) (by decide) (Nat.le_of_ble_eq_true rfl) ?_
  refine ev_if_neb (tgt := 16) dX12_back_11 (by decide) (fun h11 => ?_) (fun h11 => False.elim (Bool.false_ne_true (h11.symm.trans (by decide))))
  refine ev_aload_n (i := 0) dX12_back_16 rfl rfl ?_
  refine ev_getf dX12_back_17 flX12_19 (by assumption) (by rfl) ?_
  refine ev_iload_n (i := 1) dX12_back_20 rfl rfl ?_
  refine ev_zald (j := 1) dX12_back_21 (by assumption) (ev_ixc (j := 1) rfl (by decide)) (by decide) ?_
  refine ev_topi (x2 := 0) (hk1.trans (by rw [hkf]; rfl)) ?_
  refine ev_if_ne (tgt := 28) dX12_back_22 (by decide) (fun h22 => False.elim (absurd rfl h22)) (fun h22 => ?_)
  refine ev_bipush (v := (-2)) dX12_back_25 cnb_m2 ?_
  exact ev_reti dX12_back_27 rfl rfl (⟨rfl, md_XS hX0, hf1⟩)
theorem m_keep_x {G : ev_G} {n : Nat} {M : ev_M} {tn c0 c1 c2 sh : Nat} {tx s kp bw ar tu : Nat → Int32} {k0 k1 : Bool} {tr : Int64} (hM : md_S M tn c0 c1 c2 sh tx s kp bw ar tu k0 k1 tr) {x : Int32} (h : sp_in x 0 1 = false) : ev_Cal G mX12_keep 2 0 0 [.ref 129, .int x] n M (md_is M (.int (-1)) tn c0 c1 c2 sh tx s kp bw ar tu k0 k1 tr) := by
  refine ev_Cal_of (L := [some (.ref 129), some (.int x), none]) (by decide +kernel) (Nat.le_of_ble_eq_true rfl) rfl ?_
  refine md_thr hM dX12_keep_0 dX12_keep_1 dX12_keep_2 rfl rfl (fun M1 hM1 hf1 => ?_)
  obtain ⟨one, gof, dof, act, sp, of', ba, go, dr, ki, up, dn, hX⟩ := md_SX hM1
  have hX0 := hX
  obtain ⟨th, nx, tk, pl, va, fa, d0, d1, d2, dS, dB, dA, ik, h129, h130, h131, h132, h133, hk0, hk1, h134, h135, h136, h137, h138, h139, h140, h141, h142, h143, hsh⟩ := hX
  refine ev_iload_n (i := 1) dX12_keep_5 rfl rfl ?_
  refine ev_iconst (v := 0) dX12_keep_6 cni_0 ?_
  refine ev_iconst (v := 1) dX12_keep_7 cni_1 ?_
  refine ev_c3 kX12_keep_8 (c13_in) trivial (by decide) (by decide) (Nat.le_of_ble_eq_true rfl) ?_
  refine ev_if_neb (tgt := 16) dX12_keep_11 (by decide) (fun h11 => False.elim (Bool.false_ne_true ((h).symm.trans h11))) (fun h11 => ?_)
  refine ev_iconst (v := (-1)) dX12_keep_14 cni_m1 ?_
  exact ev_reti dX12_keep_15 rfl rfl (⟨rfl, md_XS hX0, hf1⟩)
theorem m_back_x {G : ev_G} {n : Nat} {M : ev_M} {tn c0 c1 c2 sh : Nat} {tx s kp bw ar tu : Nat → Int32} {k0 k1 : Bool} {tr : Int64} (hM : md_S M tn c0 c1 c2 sh tx s kp bw ar tu k0 k1 tr) {x : Int32} (h : sp_in x 0 1 = false) : ev_Cal G mX12_back 2 0 0 [.ref 129, .int x] n M (md_is M (.int (-1)) tn c0 c1 c2 sh tx s kp bw ar tu k0 k1 tr) := by
  refine ev_Cal_of (L := [some (.ref 129), some (.int x), none]) (by decide +kernel) (Nat.le_of_ble_eq_true rfl) rfl ?_
  refine md_thr hM dX12_back_0 dX12_back_1 dX12_back_2 rfl rfl (fun M1 hM1 hf1 => ?_)
  obtain ⟨one, gof, dof, act, sp, of', ba, go, dr, ki, up, dn, hX⟩ := md_SX hM1
  have hX0 := hX
  obtain ⟨th, nx, tk, pl, va, fa, d0, d1, d2, dS, dB, dA, ik, h129, h130, h131, h132, h133, hk0, hk1, h134, h135, h136, h137, h138, h139, h140, h141, h142, h143, hsh⟩ := hX
  refine ev_iload_n (i := 1) dX12_back_5 rfl rfl ?_
  refine ev_iconst (v := 0) dX12_back_6 cni_0 ?_
  refine ev_iconst (v := 1) dX12_back_7 cni_1 ?_
  refine ev_c3 kX12_back_8 (c13_in) trivial (by decide) (by decide) (Nat.le_of_ble_eq_true rfl) ?_
  refine ev_if_neb (tgt := 16) dX12_back_11 (by decide) (fun h11 => False.elim (Bool.false_ne_true ((h).symm.trans h11))) (fun h11 => ?_)
  refine ev_iconst (v := (-1)) dX12_back_14 cni_m1 ?_
  exact ev_reti dX12_back_15 rfl rfl (⟨rfl, md_XS hX0, hf1⟩)
/-- the model's byte, and that it is the class's -/
def my_b (v : Int64) (q : Nat) : Int32 := ((v >>> ((8 * nI q).toInt64 &&& 63)) &&& 255).toInt32
theorem ty_eq0 (x : BitVec 64) : ∀ q, q < 8 → ((x.sshiftRight (8 * q)) &&& 255#64).setWidth 32 = ((x >>> (8 * q)).setWidth 32) &&& 255#32 := by
  intro q hq
  apply BitVec.eq_of_getLsbD_eq
  intro i hi
  rw [BitVec.getLsbD_setWidth, BitVec.getLsbD_and, BitVec.getLsbD_and, BitVec.getLsbD_setWidth, BitVec.getLsbD_sshiftRight, BitVec.getLsbD_ushiftRight]
  by_cases h8 : i < 8
  · have e1 : 8 * q + i < 64 := by omega
    have e2 : (255#64).getLsbD i = (255#32).getLsbD i := by
      have : ∀ i, i < 8 → (255#64).getLsbD i = (255#32).getLsbD i := by decide +kernel
      exact this i h8
    rw [if_pos e1, e2, decide_eq_false (by omega : ¬ 64 ≤ i)]
    simp [Bool.and_assoc]
  · have e1 : (255#64).getLsbD i = false := by
      have : ∀ i, i < 32 → ¬ i < 8 → (255#64).getLsbD i = false := by decide +kernel
      exact this i (by omega) h8
    have e2 : (255#32).getLsbD i = false := by
      have : ∀ i, i < 32 → ¬ i < 8 → (255#32).getLsbD i = false := by decide +kernel
      exact this i (by omega) h8
    rw [e1, e2]; simp
theorem ty_eq {v : Int64} {q : Nat} (hq : q < 8) : my_b v q = ty_b v q := by
  apply Int32.toBitVec_inj.1
  have e1 : ∀ q, q < 8 → (((8 * nI q).toInt64 &&& 63).toBitVec.smod 64).toNat = 8 * q := by decide +kernel
  have e2 : ∀ q, q < 8 → (((8 * nI q).toInt64.toUInt64 &&& Int64.toUInt64 63).toBitVec % 64).toNat = 8 * q := by decide +kernel
  have l : (my_b v q).toBitVec = ((v.toBitVec.sshiftRight (((8 * nI q).toInt64 &&& 63).toBitVec.smod 64).toNat) &&& 255#64).signExtend 32 := rfl
  have r : (ty_b v q).toBitVec = ((v.toBitVec >>> (((8 * nI q).toInt64.toUInt64 &&& Int64.toUInt64 63).toBitVec % 64).toNat).signExtend 32) &&& 255#32 := rfl
  rw [l, r, e1 q hq, e2 q hq, BitVec.signExtend_eq_setWidth_of_le _ (by omega), BitVec.signExtend_eq_setWidth_of_le _ (by omega)]
  exact ty_eq0 v.toBitVec q hq
theorem l_type {G : ev_G} {n : Nat} {M : ev_M} {c0 c1 c2 sh : Nat} {s kp bw ar tu : Nat → Int32} {k0 k1 : Bool} {tr : Int64} {v : Int64} {kk : Int32} : ∀ (q tn : Nat) (tx : Nat → Int32) (M1 : ev_M), q ≤ 8 → tn + q ≤ 400 → md_S M1 tn c0 c1 c2 sh tx s kp bw ar tu k0 k1 tr → (∀ k, k < 129 → M1 k = M k) → ev_E G mX12_type 2 0 0 n M1 37 [some (.ref 129), some (.long v), none, some (.int kk), some (.int (nI (q) - 1))] [] (md_is M (.int (nI (tn + q))) (tn + q) c0 c1 c2 sh (ty_t v q tn tx) s kp bw ar tu k0 k1 tr) := by
  intro q
  induction q with
  | zero =>
    intro tn tx M1 hq8 hk hM1 hf1
    obtain ⟨one, gof, dof, act, sp, of', ba, go, dr, ki, up, dn, hX⟩ := md_SX hM1
    have hX0 := hX
    obtain ⟨th, nx, tk, pl, va, fa, d0, d1, d2, dS, dB, dA, ik, h129, h130, h131, h132, h133, hk0, hk1, h134, h135, h136, h137, h138, h139, h140, h141, h142, h143, hsh⟩ := hX
    refine ev_iload dX12_type_37 rfl ?_
    refine ev_if_lt (tgt := 79) dX12_type_39 (by decide) (fun h39 => ?_) (fun h39 => False.elim (absurd ty_neg (Int32.not_lt.mpr h39)))
    refine ev_aload_n (i := 0) dX12_type_79 rfl rfl ?_
    refine ev_getf dX12_type_80 flX12_61 (by assumption) (by rfl) ?_
    exact ev_reti dX12_type_83 rfl rfl (⟨rfl, md_XS hX0, hf1⟩)
  | succ q ih =>
    intro tn tx M1 hq8 hk hM1 hf1
    obtain ⟨one, gof, dof, act, sp, of', ba, go, dr, ki, up, dn, hX⟩ := md_SX hM1
    have hX0 := hX
    obtain ⟨th, nx, tk, pl, va, fa, d0, d1, d2, dS, dB, dA, ik, h129, h130, h131, h132, h133, hk0, hk1, h134, h135, h136, h137, h138, h139, h140, h141, h142, h143, hsh⟩ := hX
    refine ev_iload dX12_type_37 rfl ?_
    refine ev_if_lt (tgt := 79) dX12_type_39 (by decide) (fun h39 => False.elim (ty_pos (by omega) h39)) (fun h39 => ?_)
    refine ev_aload_n (i := 0) dX12_type_42 rfl rfl ?_
    refine ev_getf dX12_type_43 flX12_7 (by assumption) (by rfl) ?_
    refine ev_aload_n (i := 0) dX12_type_46 rfl rfl ?_
    refine ev_getf dX12_type_47 flX12_61 (by assumption) (by rfl) ?_
    refine ev_lload_n (i := 1) dX12_type_50 rfl rfl ?_
    refine ev_bipush (v := 8) dX12_type_51 cnb_8 ?_
    refine ev_iload dX12_type_53 rfl ?_
    refine ev_topi (ty_dec q) ?_
    refine ev_imul dX12_type_55 ?_
    refine ev_lshr dX12_type_56 ?_
    refine ev_ldc2 dX12_type_57 coX12_64 ?_
    refine ev_land dX12_type_60 ?_
    refine ev_l2i dX12_type_61 ?_
    refine ev_topi (x2 := ty_b v q) (ty_eq (by omega)) ?_
    refine md_st130 hX0 (j := tn) dX12_type_62 (ev_ix_nI (by omega)) (by omega) (fun M2 hX hf2 => ?_)
    have hX0 := hX
    obtain ⟨th, nx, tk, pl, va, fa, d0, d1, d2, dS, dB, dA, ik, h129, h130, h131, h132, h133, hk0, hk1, h134, h135, h136, h137, h138, h139, h140, h141, h142, h143, hsh⟩ := hX
    refine ev_aload_n (i := 0) dX12_type_63 rfl rfl ?_
    refine ev_dup dX12_type_64 rfl ?_
    refine ev_getf dX12_type_65 flX12_61 (by assumption) (by rfl) ?_
    refine ev_iconst (v := 1) dX12_type_68 cni_1 ?_
    refine ev_iadd dX12_type_69 ?_
    refine ev_topi (nI_1 tn) ?_
    refine md_sttn hX0 dX12_type_70 rfl (fun M3 hX hf3 => ?_)
    have hX0 := hX
    obtain ⟨th, nx, tk, pl, va, fa, d0, d1, d2, dS, dB, dA, ik, h129, h130, h131, h132, h133, hk0, hk1, h134, h135, h136, h137, h138, h139, h140, h141, h142, h143, hsh⟩ := hX
    refine ev_iinc (v := nI q - 1) dX12_type_73 rfl (by rw [ty_dec]; rw [Int32.sub_eq_add_neg]; rfl) (Nat.le_of_ble_eq_true rfl) rfl ?_
    refine ev_goto (tgt := 37) dX12_type_76 (by decide) ?_
    refine ev_post (fun r M1 h => ?_) (ih (tn + 1) _ M3 (by omega) (by omega) (md_XS hX0) (fun k hk => (hf3 k hk).trans ((hf2 k hk).trans (hf1 k hk))))
    rw [show tn + (q + 1) = tn + 1 + q by omega]
    exact h
theorem m_type {G : ev_G} {n : Nat} {M : ev_M} {tn c0 c1 c2 sh : Nat} {tx s kp bw ar tu : Nat → Int32} {k0 k1 : Bool} {tr : Int64} (hM : md_S M tn c0 c1 c2 sh tx s kp bw ar tu k0 k1 tr) {v : Int64} {q : Nat} (hq : sp_in (nI q) 1 8 = true) (hq8 : q ≤ 8) (hn : tn + q ≤ 400) : ev_Cal G mX12_type 2 0 0 [.ref 129, .long v, .int (nI q)] n M (md_is M (.int (nI (tn + q))) (tn + q) c0 c1 c2 sh (ty_t v q tn tx) s kp bw ar tu k0 k1 tr) := by
  refine ev_Cal_of (L := [some (.ref 129), some (.long v), none, some (.int (nI q)), none]) (by decide +kernel) (Nat.le_of_ble_eq_true rfl) rfl ?_
  refine md_thr hM dX12_type_0 dX12_type_1 dX12_type_2 rfl rfl (fun M1 hM1 hf1 => ?_)
  obtain ⟨one, gof, dof, act, sp, of', ba, go, dr, ki, up, dn, hX⟩ := md_SX hM1
  have hX0 := hX
  obtain ⟨th, nx, tk, pl, va, fa, d0, d1, d2, dS, dB, dA, ik, h129, h130, h131, h132, h133, hk0, hk1, h134, h135, h136, h137, h138, h139, h140, h141, h142, h143, hsh⟩ := hX
  refine ev_iload_n (i := 3) dX12_type_5 rfl rfl ?_
  refine ev_iconst (v := 1) dX12_type_6 cni_1 ?_
  refine ev_bipush (v := 8) dX12_type_7 cnb_8 ?_
  refine ev_c3 kX12_type_9 (c13_in) trivial (by decide) (by decide) (Nat.le_of_ble_eq_true rfl) ?_
  refine ev_if_neb (tgt := 17) dX12_type_12 (by decide) (fun h12 => ?_) (fun h12 => False.elim (Bool.false_ne_true (h12.symm.trans (hq))))
  refine ev_aload_n (i := 0) dX12_type_17 rfl rfl ?_
  refine ev_getf dX12_type_18 flX12_61 (by assumption) (by rfl) ?_
  refine ev_iload_n (i := 3) dX12_type_21 rfl rfl ?_
  refine ev_iadd dX12_type_22 ?_
  refine ev_sipush (v := 400) dX12_type_23 cns_400 ?_
  refine ev_icmp_le (tgt := 32) dX12_type_26 (by decide) (fun h26 => ?_) (fun h26 => False.elim (Int32.not_lt.mpr (nI_le (a := tn + q) (b := 400) hn (by decide)) (by rw [← nI_add]; exact h26)))
  refine ev_iload_n (i := 3) dX12_type_32 rfl rfl ?_
  refine ev_iconst (v := 1) dX12_type_33 cni_1 ?_
  refine ev_isub dX12_type_34 ?_
  refine ev_istore dX12_type_35 (Nat.le_of_ble_eq_true rfl) rfl ?_
  exact l_type q tn tx M1 hq8 hn hM1 hf1
theorem m_type_full {G : ev_G} {n : Nat} {M : ev_M} {tn c0 c1 c2 sh : Nat} {tx s kp bw ar tu : Nat → Int32} {k0 k1 : Bool} {tr : Int64} (hM : md_S M tn c0 c1 c2 sh tx s kp bw ar tu k0 k1 tr) {v : Int64} {q : Nat} (hq : sp_in (nI q) 1 8 = true) (hq8 : q ≤ 8) (hn : 400 < tn + q) (htn : tn ≤ 400) : ev_Cal G mX12_type 2 0 0 [.ref 129, .long v, .int (nI q)] n M (md_is M (.int (-3)) tn c0 c1 c2 sh tx s kp bw ar tu k0 k1 tr) := by
  refine ev_Cal_of (L := [some (.ref 129), some (.long v), none, some (.int (nI q)), none]) (by decide +kernel) (Nat.le_of_ble_eq_true rfl) rfl ?_
  refine md_thr hM dX12_type_0 dX12_type_1 dX12_type_2 rfl rfl (fun M1 hM1 hf1 => ?_)
  obtain ⟨one, gof, dof, act, sp, of', ba, go, dr, ki, up, dn, hX⟩ := md_SX hM1
  have hX0 := hX
  obtain ⟨th, nx, tk, pl, va, fa, d0, d1, d2, dS, dB, dA, ik, h129, h130, h131, h132, h133, hk0, hk1, h134, h135, h136, h137, h138, h139, h140, h141, h142, h143, hsh⟩ := hX
  refine ev_iload_n (i := 3) dX12_type_5 rfl rfl ?_
  refine ev_iconst (v := 1) dX12_type_6 cni_1 ?_
  refine ev_bipush (v := 8) dX12_type_7 cnb_8 ?_
  refine ev_c3 kX12_type_9 (c13_in) trivial (by decide) (by decide) (Nat.le_of_ble_eq_true rfl) ?_
  refine ev_if_neb (tgt := 17) dX12_type_12 (by decide) (fun h12 => ?_) (fun h12 => False.elim (Bool.false_ne_true (h12.symm.trans (hq))))
  refine ev_aload_n (i := 0) dX12_type_17 rfl rfl ?_
  refine ev_getf dX12_type_18 flX12_61 (by assumption) (by rfl) ?_
  refine ev_iload_n (i := 3) dX12_type_21 rfl rfl ?_
  refine ev_iadd dX12_type_22 ?_
  refine ev_sipush (v := 400) dX12_type_23 cns_400 ?_
  refine ev_icmp_le (tgt := 32) dX12_type_26 (by decide) (fun h26 => False.elim (Int32.not_lt.mpr h26 (by rw [nI_add]; exact nI_lt (a := 400) (b := tn + q) hn (by omega)))) (fun h26 => ?_)
  refine ev_bipush (v := (-3)) dX12_type_29 cnb_m3 ?_
  exact ev_reti dX12_type_31 rfl rfl (⟨rfl, md_XS hX0, hf1⟩)
theorem m_type_k {G : ev_G} {n : Nat} {M : ev_M} {tn c0 c1 c2 sh : Nat} {tx s kp bw ar tu : Nat → Int32} {k0 k1 : Bool} {tr : Int64} (hM : md_S M tn c0 c1 c2 sh tx s kp bw ar tu k0 k1 tr) {v : Int64} {x : Int32} (hk : sp_in x 1 8 = false) : ev_Cal G mX12_type 2 0 0 [.ref 129, .long v, .int x] n M (md_is M (.int (-1)) tn c0 c1 c2 sh tx s kp bw ar tu k0 k1 tr) := by
  refine ev_Cal_of (L := [some (.ref 129), some (.long v), none, some (.int x), none]) (by decide +kernel) (Nat.le_of_ble_eq_true rfl) rfl ?_
  refine md_thr hM dX12_type_0 dX12_type_1 dX12_type_2 rfl rfl (fun M1 hM1 hf1 => ?_)
  obtain ⟨one, gof, dof, act, sp, of', ba, go, dr, ki, up, dn, hX⟩ := md_SX hM1
  have hX0 := hX
  obtain ⟨th, nx, tk, pl, va, fa, d0, d1, d2, dS, dB, dA, ik, h129, h130, h131, h132, h133, hk0, hk1, h134, h135, h136, h137, h138, h139, h140, h141, h142, h143, hsh⟩ := hX
  refine ev_iload_n (i := 3) dX12_type_5 rfl rfl ?_
  refine ev_iconst (v := 1) dX12_type_6 cni_1 ?_
  refine ev_bipush (v := 8) dX12_type_7 cnb_8 ?_
  refine ev_c3 kX12_type_9 (c13_in) trivial (by decide) (by decide) (Nat.le_of_ble_eq_true rfl) ?_
  refine ev_if_neb (tgt := 17) dX12_type_12 (by decide) (fun h12 => False.elim (Bool.false_ne_true ((hk).symm.trans h12))) (fun h12 => ?_)
  refine ev_iconst (v := (-1)) dX12_type_15 cni_m1 ?_
  exact ev_reti dX12_type_16 rfl rfl (⟨rfl, md_XS hX0, hf1⟩)
