/-! ===== contracts: the model, flights ===== -/
/-- the model's state, with what is laid, what was found of it, the two lists, the acts and the fraction named -/
def md_X (M : ev_M) (tn c0 c1 c2 sh : Nat) (tx s kp bw ar tu : Nat → Int32) (k0 k1 : Bool) (tr : Int64) (one gof dof act : Nat → Int32) (sp of' ba go dr ki : Int32) (up dn : Int64) : Prop := ∃ (th nx tk pl va fa d0 d1 d2 : Int32) (dS dB dA ik : Nat → Int32), M 129 = md_o th tr (nI tn) nx tk pl va fa (nI c0) (nI c1) (nI c2) d0 d1 d2 sp of' ba go dr ki up dn ∧ M 130 = .inl (0, 400, .inl tx) ∧ M 131 = .inl (0, 386, .inl s) ∧ M 132 = .inl (0, 772, .inl kp) ∧ M 133 = .inl (1, 2, .inl ik) ∧ ik 0 = ev_b k0 ∧ ik 1 = ev_b k1 ∧ M 134 = .inl (0, 6, .inl bw) ∧ M 135 = .inl (0, 6, .inl ar) ∧ M 136 = .inl (0, 84, .inl dS) ∧ M 137 = .inl (0, 6, .inl dB) ∧ M 138 = .inl (0, 6, .inl dA) ∧ M 139 = .inl (0, 4, .inl tu) ∧ M 140 = .inl (0, 7, .inl one) ∧ M 141 = .inl (0, 24, .inl gof) ∧ M 142 = .inl (0, 12, .inl dof) ∧ M 143 = .inl (0, 5, .inl act) ∧ s 85 = nI sh
theorem md_SX {M : ev_M} {tn c0 c1 c2 sh : Nat} {tx s kp bw ar tu : Nat → Int32} {k0 k1 : Bool} {tr : Int64} (hM : md_S M tn c0 c1 c2 sh tx s kp bw ar tu k0 k1 tr) : ∃ (one gof dof act : Nat → Int32) (sp of' ba go dr ki : Int32) (up dn : Int64), md_X M tn c0 c1 c2 sh tx s kp bw ar tu k0 k1 tr one gof dof act sp of' ba go dr ki up dn := by
  obtain ⟨th, nx, tk, pl, va, fa, d0, d1, d2, sp, of', ba, go, dr, ki, up, dn, dS, dB, dA, one, gof, dof, act, ik, h129, h130, h131, h132, h133, hk0, hk1, h134, h135, h136, h137, h138, h139, h140, h141, h142, h143, hsh⟩ := hM
  exact ⟨one, gof, dof, act, sp, of', ba, go, dr, ki, up, dn, th, nx, tk, pl, va, fa, d0, d1, d2, dS, dB, dA, ik, h129, h130, h131, h132, h133, hk0, hk1, h134, h135, h136, h137, h138, h139, h140, h141, h142, h143, hsh⟩
theorem md_XS {M : ev_M} {tn c0 c1 c2 sh : Nat} {tx s kp bw ar tu : Nat → Int32} {k0 k1 : Bool} {tr : Int64} {one gof dof act : Nat → Int32} {sp of' ba go dr ki : Int32} {up dn : Int64} (hX : md_X M tn c0 c1 c2 sh tx s kp bw ar tu k0 k1 tr one gof dof act sp of' ba go dr ki up dn) : md_S M tn c0 c1 c2 sh tx s kp bw ar tu k0 k1 tr := by
  obtain ⟨th, nx, tk, pl, va, fa, d0, d1, d2, dS, dB, dA, ik, h129, h130, h131, h132, h133, hk0, hk1, h134, h135, h136, h137, h138, h139, h140, h141, h142, h143, hsh⟩ := hX
  exact ⟨th, nx, tk, pl, va, fa, d0, d1, d2, sp, of', ba, go, dr, ki, up, dn, dS, dB, dA, one, gof, dof, act, ik, h129, h130, h131, h132, h133, hk0, hk1, h134, h135, h136, h137, h138, h139, h140, h141, h142, h143, hsh⟩
/-- 'thrown = 0': behind it the state is the same -/
theorem md_thr {G : ev_G} {y : ev_MI} {f rc ru n : Nat} {M : ev_M} {L : List (Option Value)} {Post : Option Value → ev_M → Prop} {tn c0 c1 c2 sh : Nat} {tx s kp bw ar tu : Nat → Int32} {k0 k1 : Bool} {tr : Int64} (hM : md_S M tn c0 c1 c2 sh tx s kp bw ar tu k0 k1 tr) (d0 : decode y.2.1 0 = .ok (.aload_n 0, 1)) (d1 : decode y.2.1 1 = .ok (.iconst 0, 1)) (d2 : decode y.2.1 2 = .ok (.putfield 53, 3)) (hy : y.1.cls = RX12) (hL : L[0]? = some (some (.ref 129)))
    (k : ∀ M1 : ev_M, md_S M1 tn c0 c1 c2 sh tx s kp bw ar tu k0 k1 tr → (∀ k, k < 129 → M1 k = M k) → ev_E G y f rc ru n M1 5 L [] Post) : ev_E G y f rc ru n M 0 L [] Post := by
  obtain ⟨th, nx, tk, pl, va, fa, d0_, d1_, d2_, sp, of', ba, go, dr, ki, up, dn, dS, dB, dA, one, gof, dof, act, ik, h129, h130, h131, h132, h133, hk0, hk1, h134, h135, h136, h137, h138, h139, h140, h141, h142, h143, hsh⟩ := hM
  refine ev_aload_n (i := 0) d0 rfl hL ?_
  refine ev_iconst (v := 0) d1 cni_0 ?_
  refine ev_puti d2 (by rw [hy]; exact fpX12_53) h129 (Nat.le_of_ble_eq_true rfl) ?_
  refine k _ ⟨0, nx, tk, pl, va, fa, d0_, d1_, d2_, sp, of', ba, go, dr, ki, up, dn, dS, dB, dA, one, gof, dof, act, ik, ev_set_eq, (ev_set_ne (by decide)).trans h130, (ev_set_ne (by decide)).trans h131, (ev_set_ne (by decide)).trans h132, (ev_set_ne (by decide)).trans h133, hk0, hk1, (ev_set_ne (by decide)).trans h134, (ev_set_ne (by decide)).trans h135, (ev_set_ne (by decide)).trans h136, (ev_set_ne (by decide)).trans h137, (ev_set_ne (by decide)).trans h138, (ev_set_ne (by decide)).trans h139, (ev_set_ne (by decide)).trans h140, (ev_set_ne (by decide)).trans h141, (ev_set_ne (by decide)).trans h142, (ev_set_ne (by decide)).trans h143, hsh⟩ (fun k hk => ev_set_ne (by omega))
theorem m_lays {G : ev_G} {n : Nat} {M : ev_M} {tn c0 c1 c2 sh : Nat} {tx s kp bw ar tu : Nat → Int32} {k0 k1 : Bool} {tr : Int64} {one gof dof act : Nat → Int32} {sp of' ba go dr ki : Int32} {up dn : Int64} (hX : md_X M tn c0 c1 c2 sh tx s kp bw ar tu k0 k1 tr one gof dof act sp of' ba go dr ki up dn) {j : Nat} (hj : j < c0) (hc : c0 ≤ 12) : ev_Cal G mX12_lays 1 0 0 [.ref 129, .int (nI j)] n M (fun r M1 => r = none ∧ (∃ o2 : Nat → Int32, (∀ q, q < 7 → o2 q = s (7 * j + q)) ∧ md_X M1 tn c0 c1 c2 sh tx s kp bw ar tu k0 k1 tr o2 gof dof act sp of' ba go dr ki up dn) ∧ ∀ k, k < 129 → M1 k = M k) := by
  obtain ⟨th, nx, tk, pl, va, fa, d0, d1, d2, dS, dB, dA, ik, h129, h130, h131, h132, h133, hk0, hk1, h134, h135, h136, h137, h138, h139, h140, h141, h142, h143, hsh⟩ := hX
  refine (c13_lays h129 h131 h140 (by omega)).post (fun r M1 q => ?_)
  obtain ⟨rfl, o2, rfl, ho⟩ := q
  exact ⟨rfl, ⟨o2, ho, th, nx, tk, pl, va, fa, d0, d1, d2, dS, dB, dA, ik, (ev_set_ne (by decide)).trans h129, (ev_set_ne (by decide)).trans h130, (ev_set_ne (by decide)).trans h131, (ev_set_ne (by decide)).trans h132, (ev_set_ne (by decide)).trans h133, hk0, hk1, (ev_set_ne (by decide)).trans h134, (ev_set_ne (by decide)).trans h135, (ev_set_ne (by decide)).trans h136, (ev_set_ne (by decide)).trans h137, (ev_set_ne (by decide)).trans h138, (ev_set_ne (by decide)).trans h139, ev_set_eq, (ev_set_ne (by decide)).trans h141, (ev_set_ne (by decide)).trans h142, (ev_set_ne (by decide)).trans h143, hsh⟩, fun k hk => ev_set_ne (by omega)⟩
theorem m_flies {G : ev_G} {n : Nat} {M : ev_M} {tn c0 c1 c2 sh : Nat} {tx s kp bw ar tu : Nat → Int32} {k0 k1 : Bool} {tr : Int64} {one gof dof act : Nat → Int32} {sp of' ba go dr ki : Int32} {up dn : Int64} (hX : md_X M tn c0 c1 c2 sh tx s kp bw ar tu k0 k1 tr one gof dof act sp of' ba go dr ki up dn) (hs : sk_ok one) {draw wide : Int32} (hw : bw_ok draw wide) (ht : tu_ok tu) : ev_Cal G mX12_flies 4 0 0 [.ref 129, .int draw, .int wide] n M (fun r M1 => r = none ∧ md_X M1 tn c0 c1 c2 sh tx s kp bw ar tu k0 k1 tr one gof dof act (fx_sp one) (fx_of one draw wide) (fx_ba tu one draw wide) (fx_go tu one draw wide) (fx_dr one draw) (fx_ki tu one draw wide) up dn ∧ ∀ k, k < 129 → M1 k = M k) := by
  obtain ⟨th, nx, tk, pl, va, fa, d0, d1, d2, dS, dB, dA, ik, h129, h130, h131, h132, h133, hk0, hk1, h134, h135, h136, h137, h138, h139, h140, h141, h142, h143, hsh⟩ := hX
  refine (c13_flies h129 h139 h140 (sk_n0 hs) (sk_n1 hs) (bw_n0 hw) (fx_hn hs hw ht) hs.2.2.2.2.2.2).post (fun r M1 q => ?_)
  obtain ⟨rfl, rfl⟩ := q
  exact ⟨rfl, ⟨th, nx, tk, pl, va, fa, d0, d1, d2, dS, dB, dA, ik, ev_set_eq, (ev_set_ne (by decide)).trans h130, (ev_set_ne (by decide)).trans h131, (ev_set_ne (by decide)).trans h132, (ev_set_ne (by decide)).trans h133, hk0, hk1, (ev_set_ne (by decide)).trans h134, (ev_set_ne (by decide)).trans h135, (ev_set_ne (by decide)).trans h136, (ev_set_ne (by decide)).trans h137, (ev_set_ne (by decide)).trans h138, (ev_set_ne (by decide)).trans h139, (ev_set_ne (by decide)).trans h140, (ev_set_ne (by decide)).trans h141, (ev_set_ne (by decide)).trans h142, (ev_set_ne (by decide)).trans h143, hsh⟩, fun k hk => ev_set_ne (by omega)⟩
theorem m_fliesWith {G : ev_G} {n : Nat} {M : ev_M} {tn c0 c1 c2 sh : Nat} {tx s kp bw ar tu : Nat → Int32} {k0 k1 : Bool} {tr : Int64} {one gof dof act : Nat → Int32} {sp of' ba go dr ki : Int32} {up dn : Int64} (hX : md_X M tn c0 c1 c2 sh tx s kp bw ar tu k0 k1 tr one gof dof act sp of' ba go dr ki up dn) {j : Nat} (hj : j < c0) (hc : c0 ≤ 12) {b : Nat} (hb : b < c1) (hc1 : c1 ≤ 3) (hs : sk_ok (fun q => s (7 * j + q))) (hw : bw_ok (bw (2 * b)) (bw (2 * b + 1))) (ht : tu_ok tu)  : ev_Cal G mX12_fliesWith 5 0 0 [.ref 129, .int (nI j), .int (nI b)] n M (fun r M1 => r = none ∧ (∃ o2 : Nat → Int32, (∀ q, q < 7 → o2 q = s (7 * j + q)) ∧ md_X M1 tn c0 c1 c2 sh tx s kp bw ar tu k0 k1 tr o2 gof dof act (fx_sp (fun q => s (7 * j + q))) (fx_of (fun q => s (7 * j + q)) (bw (2 * b)) (bw (2 * b + 1))) (fx_ba tu (fun q => s (7 * j + q)) (bw (2 * b)) (bw (2 * b + 1))) (fx_go tu (fun q => s (7 * j + q)) (bw (2 * b)) (bw (2 * b + 1))) (fx_dr (fun q => s (7 * j + q)) (bw (2 * b))) (fx_ki tu (fun q => s (7 * j + q)) (bw (2 * b)) (bw (2 * b + 1))) up dn) ∧ ∀ k, k < 129 → M1 k = M k) := by
  refine ev_Cal_of (L := [some (.ref 129), some (.int (nI j)), some (.int (nI b))]) (by decide +kernel) (Nat.le_of_ble_eq_true rfl) rfl ?_
  have g129 : ∃ fs, M 129 = .inr (12, fs) := by obtain ⟨th, nx, tk, pl, va, fa, d0, d1, d2, dS, dB, dA, ik, h129, -⟩ := hX; exact ⟨_, h129⟩
  obtain ⟨fs, g129⟩ := g129
  refine ev_aload_n (i := 0) dX12_fliesWith_0 rfl rfl ?_
  refine ev_iload_n (i := 1) dX12_fliesWith_1 rfl rfl ?_
  refine ev_d2 kX12_fliesWith_2 (m_lays hX hj hc) (ev_rv_of g129 rfl rfl) (by decide) (by decide) (Nat.le_of_ble_eq_true rfl) ?_
  intro r M1 hr
  obtain ⟨rfl, ⟨o2, ho, hX⟩, hf1⟩ := hr
  have hX0 := hX
  obtain ⟨th, nx, tk, pl, va, fa, d0, d1, d2, dS, dB, dA, ik, h129, h130, h131, h132, h133, hk0, hk1, h134, h135, h136, h137, h138, h139, h140, h141, h142, h143, hsh⟩ := hX
  refine ev_aload_n (i := 0) dX12_fliesWith_5 rfl rfl ?_
  refine ev_aload_n (i := 0) dX12_fliesWith_6 rfl rfl ?_
  refine ev_getf dX12_fliesWith_7 flX12_23 (by assumption) (by rfl) ?_
  refine ev_iconst (v := 2) dX12_fliesWith_10 cni_2 ?_
  refine ev_iload_n (i := 2) dX12_fliesWith_11 rfl rfl ?_
  refine ev_imul dX12_fliesWith_12 ?_
  refine ev_iald (j := 2 * b) dX12_fliesWith_13 (by assumption) (ev_ix20 b (by omega)) (by omega) ?_
  refine ev_aload_n (i := 0) dX12_fliesWith_14 rfl rfl ?_
  refine ev_getf dX12_fliesWith_15 flX12_23 (by assumption) (by rfl) ?_
  refine ev_iconst (v := 2) dX12_fliesWith_18 cni_2 ?_
  refine ev_iload_n (i := 2) dX12_fliesWith_19 rfl rfl ?_
  refine ev_imul dX12_fliesWith_20 ?_
  refine ev_iconst (v := 1) dX12_fliesWith_21 cni_1 ?_
  refine ev_iadd dX12_fliesWith_22 ?_
  refine ev_iald (j := 2 * b + 1) dX12_fliesWith_23 (by assumption) (ev_ix2 b 1 (by omega)) (by omega) ?_
  refine ev_d3 kX12_fliesWith_24 (m_flies hX0 (sk_congr ho hs) hw ht) (ev_rv_of h129 rfl rfl) (by decide) (by decide) (Nat.le_of_ble_eq_true rfl) ?_
  intro r M2 hr
  obtain ⟨rfl, hX, hf2⟩ := hr
  rw [fx_sp_c ho, fx_of_c ho, fx_ba_c ho, fx_go_c ho, fx_dr_c ho, fx_ki_c ho] at hX
  exact ev_retv dX12_fliesWith_27 rfl (⟨rfl, ⟨o2, ho, hX⟩, fun k hk => (hf2 k hk).trans (hf1 k hk)⟩)
theorem m_flight_0 {G : ev_G} {n : Nat} {M : ev_M} {tn c0 c1 c2 sh : Nat} {tx s kp bw ar tu : Nat → Int32} {k0 k1 : Bool} {tr : Int64} (hM : md_S M tn c0 c1 c2 sh tx s kp bw ar tu k0 k1 tr) {j : Nat} (hj : j < c0) (hc : c0 ≤ 12) {b : Nat} (hb : b < c1) (hc1 : c1 ≤ 3) (hs : sk_ok (fun q => s (7 * j + q))) (hw : bw_ok (bw (2 * b)) (bw (2 * b + 1))) (ht : tu_ok tu) : ev_Cal G mX12_flight 6 0 0 [.ref 129, .int (nI j), .int (nI b), .int 0] n M (md_is M (.int (fx_sp (fun q => s (7 * j + q)))) tn c0 c1 c2 sh tx s kp bw ar tu k0 k1 tr) := by
  refine ev_Cal_of (L := [some (.ref 129), some (.int (nI j)), some (.int (nI b)), some (.int 0)]) (by decide +kernel) (Nat.le_of_ble_eq_true rfl) rfl ?_
  refine md_thr hM dX12_flight_0 dX12_flight_1 dX12_flight_2 rfl rfl (fun M1 hM1 hf1 => ?_)
  obtain ⟨one, gof, dof, act, sp, of', ba, go, dr, ki, up, dn, hX⟩ := md_SX hM1
  have hX0 := hX
  obtain ⟨th, nx, tk, pl, va, fa, d0, d1, d2, dS, dB, dA, ik, h129, h130, h131, h132, h133, hk0, hk1, h134, h135, h136, h137, h138, h139, h140, h141, h142, h143, hsh⟩ := hX
  refine ev_aload_n (i := 0) dX12_flight_5 rfl rfl ?_
  refine ev_iload_n (i := 1) dX12_flight_6 rfl rfl ?_
  refine ev_c2 kX12_flight_7 (c13_isStick h129) (ev_rv_of (by assumption) rfl rfl) (by decide) (by decide) (Nat.le_of_ble_eq_true rfl) ?_
  refine ev_if_eqb (tgt := 30) dX12_flight_10 (by decide) (fun h10 => False.elim (Bool.false_ne_true (h10.symm.trans (sp_in_ix hj (by omega))))) (fun h10 => ?_)
  refine ev_aload_n (i := 0) dX12_flight_13 rfl rfl ?_
  refine ev_iload_n (i := 2) dX12_flight_14 rfl rfl ?_
  refine ev_c2 kX12_flight_15 (c13_isBow h129) (ev_rv_of (by assumption) rfl rfl) (by decide) (by decide) (Nat.le_of_ble_eq_true rfl) ?_
  refine ev_if_eqb (tgt := 30) dX12_flight_18 (by decide) (fun h18 => False.elim (Bool.false_ne_true (h18.symm.trans (sp_in_ix hb (by omega))))) (fun h18 => ?_)
  refine ev_iload_n (i := 3) dX12_flight_21 rfl rfl ?_
  refine ev_iconst (v := 0) dX12_flight_22 cni_0 ?_
  refine ev_iconst (v := 5) dX12_flight_23 cni_5 ?_
  refine ev_c3 kX12_flight_24 (c13_in) trivial (by decide) (by decide) (Nat.le_of_ble_eq_true rfl) ?_
  refine ev_if_neb (tgt := 33) dX12_flight_27 (by decide) (fun h27 => ?_) (fun h27 => False.elim (Bool.false_ne_true (h27.symm.trans (by decide))))
  refine ev_aload_n (i := 0) dX12_flight_33 rfl rfl ?_
  refine ev_iload_n (i := 1) dX12_flight_34 rfl rfl ?_
  refine ev_iload_n (i := 2) dX12_flight_35 rfl rfl ?_
  refine ev_d3 kX12_flight_36 (m_fliesWith hX0 hj hc hb hc1 hs hw ht) (ev_rv_of (by assumption) rfl rfl) (by decide) (by decide) (Nat.le_of_ble_eq_true rfl) ?_
  intro r M2 hr
  obtain ⟨rfl, ⟨o2, ho, hX⟩, hf2⟩ := hr
  have hX0 := hX
  obtain ⟨th, nx, tk, pl, va, fa, d0, d1, d2, dS, dB, dA, ik, h129, h130, h131, h132, h133, hk0, hk1, h134, h135, h136, h137, h138, h139, h140, h141, h142, h143, hsh⟩ := hX
  refine ev_iload_n (i := 3) dX12_flight_39 rfl rfl ?_
  refine ev_if_ne (tgt := 50) dX12_flight_40 (by decide) (fun h40 => False.elim (absurd rfl h40)) (fun h40 => ?_)
  refine ev_aload_n (i := 0) dX12_flight_43 rfl rfl ?_
  refine ev_getf dX12_flight_44 flX12_171 (by assumption) (by rfl) ?_
  refine ev_goto (tgt := 102) dX12_flight_47 (by decide) ?_
  exact ev_reti dX12_flight_102 rfl rfl (⟨rfl, md_XS hX0, fun k hk => (hf2 k hk).trans (hf1 k hk)⟩)
theorem m_flight_1 {G : ev_G} {n : Nat} {M : ev_M} {tn c0 c1 c2 sh : Nat} {tx s kp bw ar tu : Nat → Int32} {k0 k1 : Bool} {tr : Int64} (hM : md_S M tn c0 c1 c2 sh tx s kp bw ar tu k0 k1 tr) {j : Nat} (hj : j < c0) (hc : c0 ≤ 12) {b : Nat} (hb : b < c1) (hc1 : c1 ≤ 3) (hs : sk_ok (fun q => s (7 * j + q))) (hw : bw_ok (bw (2 * b)) (bw (2 * b + 1))) (ht : tu_ok tu) : ev_Cal G mX12_flight 6 0 0 [.ref 129, .int (nI j), .int (nI b), .int 1] n M (md_is M (.int (fx_of (fun q => s (7 * j + q)) (bw (2 * b)) (bw (2 * b + 1)))) tn c0 c1 c2 sh tx s kp bw ar tu k0 k1 tr) := by
  refine ev_Cal_of (L := [some (.ref 129), some (.int (nI j)), some (.int (nI b)), some (.int 1)]) (by decide +kernel) (Nat.le_of_ble_eq_true rfl) rfl ?_
  refine md_thr hM dX12_flight_0 dX12_flight_1 dX12_flight_2 rfl rfl (fun M1 hM1 hf1 => ?_)
  obtain ⟨one, gof, dof, act, sp, of', ba, go, dr, ki, up, dn, hX⟩ := md_SX hM1
  have hX0 := hX
  obtain ⟨th, nx, tk, pl, va, fa, d0, d1, d2, dS, dB, dA, ik, h129, h130, h131, h132, h133, hk0, hk1, h134, h135, h136, h137, h138, h139, h140, h141, h142, h143, hsh⟩ := hX
  refine ev_aload_n (i := 0) dX12_flight_5 rfl rfl ?_
  refine ev_iload_n (i := 1) dX12_flight_6 rfl rfl ?_
  refine ev_c2 kX12_flight_7 (c13_isStick h129) (ev_rv_of (by assumption) rfl rfl) (by decide) (by decide) (Nat.le_of_ble_eq_true rfl) ?_
  refine ev_if_eqb (tgt := 30) dX12_flight_10 (by decide) (fun h10 => False.elim (Bool.false_ne_true (h10.symm.trans (sp_in_ix hj (by omega))))) (fun h10 => ?_)
  refine ev_aload_n (i := 0) dX12_flight_13 rfl rfl ?_
  refine ev_iload_n (i := 2) dX12_flight_14 rfl rfl ?_
  refine ev_c2 kX12_flight_15 (c13_isBow h129) (ev_rv_of (by assumption) rfl rfl) (by decide) (by decide) (Nat.le_of_ble_eq_true rfl) ?_
  refine ev_if_eqb (tgt := 30) dX12_flight_18 (by decide) (fun h18 => False.elim (Bool.false_ne_true (h18.symm.trans (sp_in_ix hb (by omega))))) (fun h18 => ?_)
  refine ev_iload_n (i := 3) dX12_flight_21 rfl rfl ?_
  refine ev_iconst (v := 0) dX12_flight_22 cni_0 ?_
  refine ev_iconst (v := 5) dX12_flight_23 cni_5 ?_
  refine ev_c3 kX12_flight_24 (c13_in) trivial (by decide) (by decide) (Nat.le_of_ble_eq_true rfl) ?_
  refine ev_if_neb (tgt := 33) dX12_flight_27 (by decide) (fun h27 => ?_) (fun h27 => False.elim (Bool.false_ne_true (h27.symm.trans (by decide))))
  refine ev_aload_n (i := 0) dX12_flight_33 rfl rfl ?_
  refine ev_iload_n (i := 1) dX12_flight_34 rfl rfl ?_
  refine ev_iload_n (i := 2) dX12_flight_35 rfl rfl ?_
  refine ev_d3 kX12_flight_36 (m_fliesWith hX0 hj hc hb hc1 hs hw ht) (ev_rv_of (by assumption) rfl rfl) (by decide) (by decide) (Nat.le_of_ble_eq_true rfl) ?_
  intro r M2 hr
  obtain ⟨rfl, ⟨o2, ho, hX⟩, hf2⟩ := hr
  have hX0 := hX
  obtain ⟨th, nx, tk, pl, va, fa, d0, d1, d2, dS, dB, dA, ik, h129, h130, h131, h132, h133, hk0, hk1, h134, h135, h136, h137, h138, h139, h140, h141, h142, h143, hsh⟩ := hX
  refine ev_iload_n (i := 3) dX12_flight_39 rfl rfl ?_
  refine ev_if_ne (tgt := 50) dX12_flight_40 (by decide) (fun h40 => ?_) (fun h40 => False.elim (absurd h40 (by decide)))
  refine ev_iload_n (i := 3) dX12_flight_50 rfl rfl ?_
  refine ev_iconst (v := 1) dX12_flight_51 cni_1 ?_
  refine ev_icmp_ne (tgt := 62) dX12_flight_52 (by decide) (fun h52 => False.elim (absurd rfl h52)) (fun h52 => ?_)
  refine ev_aload_n (i := 0) dX12_flight_55 rfl rfl ?_
  refine ev_getf dX12_flight_56 flX12_174 (by assumption) (by rfl) ?_
  refine ev_goto (tgt := 102) dX12_flight_59 (by decide) ?_
  exact ev_reti dX12_flight_102 rfl rfl (⟨rfl, md_XS hX0, fun k hk => (hf2 k hk).trans (hf1 k hk)⟩)
theorem m_flight_2 {G : ev_G} {n : Nat} {M : ev_M} {tn c0 c1 c2 sh : Nat} {tx s kp bw ar tu : Nat → Int32} {k0 k1 : Bool} {tr : Int64} (hM : md_S M tn c0 c1 c2 sh tx s kp bw ar tu k0 k1 tr) {j : Nat} (hj : j < c0) (hc : c0 ≤ 12) {b : Nat} (hb : b < c1) (hc1 : c1 ≤ 3) (hs : sk_ok (fun q => s (7 * j + q))) (hw : bw_ok (bw (2 * b)) (bw (2 * b + 1))) (ht : tu_ok tu) : ev_Cal G mX12_flight 6 0 0 [.ref 129, .int (nI j), .int (nI b), .int 2] n M (md_is M (.int (fx_ba tu (fun q => s (7 * j + q)) (bw (2 * b)) (bw (2 * b + 1)))) tn c0 c1 c2 sh tx s kp bw ar tu k0 k1 tr) := by
  refine ev_Cal_of (L := [some (.ref 129), some (.int (nI j)), some (.int (nI b)), some (.int 2)]) (by decide +kernel) (Nat.le_of_ble_eq_true rfl) rfl ?_
  refine md_thr hM dX12_flight_0 dX12_flight_1 dX12_flight_2 rfl rfl (fun M1 hM1 hf1 => ?_)
  obtain ⟨one, gof, dof, act, sp, of', ba, go, dr, ki, up, dn, hX⟩ := md_SX hM1
  have hX0 := hX
  obtain ⟨th, nx, tk, pl, va, fa, d0, d1, d2, dS, dB, dA, ik, h129, h130, h131, h132, h133, hk0, hk1, h134, h135, h136, h137, h138, h139, h140, h141, h142, h143, hsh⟩ := hX
  refine ev_aload_n (i := 0) dX12_flight_5 rfl rfl ?_
  refine ev_iload_n (i := 1) dX12_flight_6 rfl rfl ?_
  refine ev_c2 kX12_flight_7 (c13_isStick h129) (ev_rv_of (by assumption) rfl rfl) (by decide) (by decide) (Nat.le_of_ble_eq_true rfl) ?_
  refine ev_if_eqb (tgt := 30) dX12_flight_10 (by decide) (fun h10 => False.elim (Bool.false_ne_true (h10.symm.trans (sp_in_ix hj (by omega))))) (fun h10 => ?_)
  refine ev_aload_n (i := 0) dX12_flight_13 rfl rfl ?_
  refine ev_iload_n (i := 2) dX12_flight_14 rfl rfl ?_
  refine ev_c2 kX12_flight_15 (c13_isBow h129) (ev_rv_of (by assumption) rfl rfl) (by decide) (by decide) (Nat.le_of_ble_eq_true rfl) ?_
  refine ev_if_eqb (tgt := 30) dX12_flight_18 (by decide) (fun h18 => False.elim (Bool.false_ne_true (h18.symm.trans (sp_in_ix hb (by omega))))) (fun h18 => ?_)
  refine ev_iload_n (i := 3) dX12_flight_21 rfl rfl ?_
  refine ev_iconst (v := 0) dX12_flight_22 cni_0 ?_
  refine ev_iconst (v := 5) dX12_flight_23 cni_5 ?_
  refine ev_c3 kX12_flight_24 (c13_in) trivial (by decide) (by decide) (Nat.le_of_ble_eq_true rfl) ?_
  refine ev_if_neb (tgt := 33) dX12_flight_27 (by decide) (fun h27 => ?_) (fun h27 => False.elim (Bool.false_ne_true (h27.symm.trans (by decide))))
  refine ev_aload_n (i := 0) dX12_flight_33 rfl rfl ?_
  refine ev_iload_n (i := 1) dX12_flight_34 rfl rfl ?_
  refine ev_iload_n (i := 2) dX12_flight_35 rfl rfl ?_
  refine ev_d3 kX12_flight_36 (m_fliesWith hX0 hj hc hb hc1 hs hw ht) (ev_rv_of (by assumption) rfl rfl) (by decide) (by decide) (Nat.le_of_ble_eq_true rfl) ?_
  intro r M2 hr
  obtain ⟨rfl, ⟨o2, ho, hX⟩, hf2⟩ := hr
  have hX0 := hX
  obtain ⟨th, nx, tk, pl, va, fa, d0, d1, d2, dS, dB, dA, ik, h129, h130, h131, h132, h133, hk0, hk1, h134, h135, h136, h137, h138, h139, h140, h141, h142, h143, hsh⟩ := hX
  refine ev_iload_n (i := 3) dX12_flight_39 rfl rfl ?_
  refine ev_if_ne (tgt := 50) dX12_flight_40 (by decide) (fun h40 => ?_) (fun h40 => False.elim (absurd h40 (by decide)))
  refine ev_iload_n (i := 3) dX12_flight_50 rfl rfl ?_
  refine ev_iconst (v := 1) dX12_flight_51 cni_1 ?_
  refine ev_icmp_ne (tgt := 62) dX12_flight_52 (by decide) (fun h52 => ?_) (fun h52 => False.elim (absurd h52 (by decide)))
  refine ev_iload_n (i := 3) dX12_flight_62 rfl rfl ?_
  refine ev_iconst (v := 2) dX12_flight_63 cni_2 ?_
  refine ev_icmp_ne (tgt := 74) dX12_flight_64 (by decide) (fun h64 => False.elim (absurd rfl h64)) (fun h64 => ?_)
  refine ev_aload_n (i := 0) dX12_flight_67 rfl rfl ?_
  refine ev_getf dX12_flight_68 flX12_180 (by assumption) (by rfl) ?_
  refine ev_goto (tgt := 102) dX12_flight_71 (by decide) ?_
  exact ev_reti dX12_flight_102 rfl rfl (⟨rfl, md_XS hX0, fun k hk => (hf2 k hk).trans (hf1 k hk)⟩)
theorem m_flight_3 {G : ev_G} {n : Nat} {M : ev_M} {tn c0 c1 c2 sh : Nat} {tx s kp bw ar tu : Nat → Int32} {k0 k1 : Bool} {tr : Int64} (hM : md_S M tn c0 c1 c2 sh tx s kp bw ar tu k0 k1 tr) {j : Nat} (hj : j < c0) (hc : c0 ≤ 12) {b : Nat} (hb : b < c1) (hc1 : c1 ≤ 3) (hs : sk_ok (fun q => s (7 * j + q))) (hw : bw_ok (bw (2 * b)) (bw (2 * b + 1))) (ht : tu_ok tu) : ev_Cal G mX12_flight 6 0 0 [.ref 129, .int (nI j), .int (nI b), .int 3] n M (md_is M (.int (fx_go tu (fun q => s (7 * j + q)) (bw (2 * b)) (bw (2 * b + 1)))) tn c0 c1 c2 sh tx s kp bw ar tu k0 k1 tr) := by
  refine ev_Cal_of (L := [some (.ref 129), some (.int (nI j)), some (.int (nI b)), some (.int 3)]) (by decide +kernel) (Nat.le_of_ble_eq_true rfl) rfl ?_
  refine md_thr hM dX12_flight_0 dX12_flight_1 dX12_flight_2 rfl rfl (fun M1 hM1 hf1 => ?_)
  obtain ⟨one, gof, dof, act, sp, of', ba, go, dr, ki, up, dn, hX⟩ := md_SX hM1
  have hX0 := hX
  obtain ⟨th, nx, tk, pl, va, fa, d0, d1, d2, dS, dB, dA, ik, h129, h130, h131, h132, h133, hk0, hk1, h134, h135, h136, h137, h138, h139, h140, h141, h142, h143, hsh⟩ := hX
  refine ev_aload_n (i := 0) dX12_flight_5 rfl rfl ?_
  refine ev_iload_n (i := 1) dX12_flight_6 rfl rfl ?_
  refine ev_c2 kX12_flight_7 (c13_isStick h129) (ev_rv_of (by assumption) rfl rfl) (by decide) (by decide) (Nat.le_of_ble_eq_true rfl) ?_
  refine ev_if_eqb (tgt := 30) dX12_flight_10 (by decide) (fun h10 => False.elim (Bool.false_ne_true (h10.symm.trans (sp_in_ix hj (by omega))))) (fun h10 => ?_)
  refine ev_aload_n (i := 0) dX12_flight_13 rfl rfl ?_
  refine ev_iload_n (i := 2) dX12_flight_14 rfl rfl ?_
  refine ev_c2 kX12_flight_15 (c13_isBow h129) (ev_rv_of (by assumption) rfl rfl) (by decide) (by decide) (Nat.le_of_ble_eq_true rfl) ?_
  refine ev_if_eqb (tgt := 30) dX12_flight_18 (by decide) (fun h18 => False.elim (Bool.false_ne_true (h18.symm.trans (sp_in_ix hb (by omega))))) (fun h18 => ?_)
  refine ev_iload_n (i := 3) dX12_flight_21 rfl rfl ?_
  refine ev_iconst (v := 0) dX12_flight_22 cni_0 ?_
  refine ev_iconst (v := 5) dX12_flight_23 cni_5 ?_
  refine ev_c3 kX12_flight_24 (c13_in) trivial (by decide) (by decide) (Nat.le_of_ble_eq_true rfl) ?_
  refine ev_if_neb (tgt := 33) dX12_flight_27 (by decide) (fun h27 => ?_) (fun h27 => False.elim (Bool.false_ne_true (h27.symm.trans (by decide))))
  refine ev_aload_n (i := 0) dX12_flight_33 rfl rfl ?_
  refine ev_iload_n (i := 1) dX12_flight_34 rfl rfl ?_
  refine ev_iload_n (i := 2) dX12_flight_35 rfl rfl ?_
  refine ev_d3 kX12_flight_36 (m_fliesWith hX0 hj hc hb hc1 hs hw ht) (ev_rv_of (by assumption) rfl rfl) (by decide) (by decide) (Nat.le_of_ble_eq_true rfl) ?_
  intro r M2 hr
  obtain ⟨rfl, ⟨o2, ho, hX⟩, hf2⟩ := hr
  have hX0 := hX
  obtain ⟨th, nx, tk, pl, va, fa, d0, d1, d2, dS, dB, dA, ik, h129, h130, h131, h132, h133, hk0, hk1, h134, h135, h136, h137, h138, h139, h140, h141, h142, h143, hsh⟩ := hX
  refine ev_iload_n (i := 3) dX12_flight_39 rfl rfl ?_
  refine ev_if_ne (tgt := 50) dX12_flight_40 (by decide) (fun h40 => ?_) (fun h40 => False.elim (absurd h40 (by decide)))
  refine ev_iload_n (i := 3) dX12_flight_50 rfl rfl ?_
  refine ev_iconst (v := 1) dX12_flight_51 cni_1 ?_
  refine ev_icmp_ne (tgt := 62) dX12_flight_52 (by decide) (fun h52 => ?_) (fun h52 => False.elim (absurd h52 (by decide)))
  refine ev_iload_n (i := 3) dX12_flight_62 rfl rfl ?_
  refine ev_iconst (v := 2) dX12_flight_63 cni_2 ?_
  refine ev_icmp_ne (tgt := 74) dX12_flight_64 (by decide) (fun h64 => ?_) (fun h64 => False.elim (absurd h64 (by decide)))
  refine ev_iload_n (i := 3) dX12_flight_74 rfl rfl ?_
  refine ev_iconst (v := 3) dX12_flight_75 cni_3 ?_
  refine ev_icmp_ne (tgt := 86) dX12_flight_76 (by decide) (fun h76 => False.elim (absurd rfl h76)) (fun h76 => ?_)
  refine ev_aload_n (i := 0) dX12_flight_79 rfl rfl ?_
  refine ev_getf dX12_flight_80 flX12_183 (by assumption) (by rfl) ?_
  refine ev_goto (tgt := 102) dX12_flight_83 (by decide) ?_
  exact ev_reti dX12_flight_102 rfl rfl (⟨rfl, md_XS hX0, fun k hk => (hf2 k hk).trans (hf1 k hk)⟩)
theorem m_flight_4 {G : ev_G} {n : Nat} {M : ev_M} {tn c0 c1 c2 sh : Nat} {tx s kp bw ar tu : Nat → Int32} {k0 k1 : Bool} {tr : Int64} (hM : md_S M tn c0 c1 c2 sh tx s kp bw ar tu k0 k1 tr) {j : Nat} (hj : j < c0) (hc : c0 ≤ 12) {b : Nat} (hb : b < c1) (hc1 : c1 ≤ 3) (hs : sk_ok (fun q => s (7 * j + q))) (hw : bw_ok (bw (2 * b)) (bw (2 * b + 1))) (ht : tu_ok tu) : ev_Cal G mX12_flight 6 0 0 [.ref 129, .int (nI j), .int (nI b), .int 4] n M (md_is M (.int (fx_dr (fun q => s (7 * j + q)) (bw (2 * b)))) tn c0 c1 c2 sh tx s kp bw ar tu k0 k1 tr) := by
  refine ev_Cal_of (L := [some (.ref 129), some (.int (nI j)), some (.int (nI b)), some (.int 4)]) (by decide +kernel) (Nat.le_of_ble_eq_true rfl) rfl ?_
  refine md_thr hM dX12_flight_0 dX12_flight_1 dX12_flight_2 rfl rfl (fun M1 hM1 hf1 => ?_)
  obtain ⟨one, gof, dof, act, sp, of', ba, go, dr, ki, up, dn, hX⟩ := md_SX hM1
  have hX0 := hX
  obtain ⟨th, nx, tk, pl, va, fa, d0, d1, d2, dS, dB, dA, ik, h129, h130, h131, h132, h133, hk0, hk1, h134, h135, h136, h137, h138, h139, h140, h141, h142, h143, hsh⟩ := hX
  refine ev_aload_n (i := 0) dX12_flight_5 rfl rfl ?_
  refine ev_iload_n (i := 1) dX12_flight_6 rfl rfl ?_
  refine ev_c2 kX12_flight_7 (c13_isStick h129) (ev_rv_of (by assumption) rfl rfl) (by decide) (by decide) (Nat.le_of_ble_eq_true rfl) ?_
  refine ev_if_eqb (tgt := 30) dX12_flight_10 (by decide) (fun h10 => False.elim (Bool.false_ne_true (h10.symm.trans (sp_in_ix hj (by omega))))) (fun h10 => ?_)
  refine ev_aload_n (i := 0) dX12_flight_13 rfl rfl ?_
  refine ev_iload_n (i := 2) dX12_flight_14 rfl rfl ?_
  refine ev_c2 kX12_flight_15 (c13_isBow h129) (ev_rv_of (by assumption) rfl rfl) (by decide) (by decide) (Nat.le_of_ble_eq_true rfl) ?_
  refine ev_if_eqb (tgt := 30) dX12_flight_18 (by decide) (fun h18 => False.elim (Bool.false_ne_true (h18.symm.trans (sp_in_ix hb (by omega))))) (fun h18 => ?_)
  refine ev_iload_n (i := 3) dX12_flight_21 rfl rfl ?_
  refine ev_iconst (v := 0) dX12_flight_22 cni_0 ?_
  refine ev_iconst (v := 5) dX12_flight_23 cni_5 ?_
  refine ev_c3 kX12_flight_24 (c13_in) trivial (by decide) (by decide) (Nat.le_of_ble_eq_true rfl) ?_
  refine ev_if_neb (tgt := 33) dX12_flight_27 (by decide) (fun h27 => ?_) (fun h27 => False.elim (Bool.false_ne_true (h27.symm.trans (by decide))))
  refine ev_aload_n (i := 0) dX12_flight_33 rfl rfl ?_
  refine ev_iload_n (i := 1) dX12_flight_34 rfl rfl ?_
  refine ev_iload_n (i := 2) dX12_flight_35 rfl rfl ?_
  refine ev_d3 kX12_flight_36 (m_fliesWith hX0 hj hc hb hc1 hs hw ht) (ev_rv_of (by assumption) rfl rfl) (by decide) (by decide) (Nat.le_of_ble_eq_true rfl) ?_
  intro r M2 hr
  obtain ⟨rfl, ⟨o2, ho, hX⟩, hf2⟩ := hr
  have hX0 := hX
  obtain ⟨th, nx, tk, pl, va, fa, d0, d1, d2, dS, dB, dA, ik, h129, h130, h131, h132, h133, hk0, hk1, h134, h135, h136, h137, h138, h139, h140, h141, h142, h143, hsh⟩ := hX
  refine ev_iload_n (i := 3) dX12_flight_39 rfl rfl ?_
  refine ev_if_ne (tgt := 50) dX12_flight_40 (by decide) (fun h40 => ?_) (fun h40 => False.elim (absurd h40 (by decide)))
  refine ev_iload_n (i := 3) dX12_flight_50 rfl rfl ?_
  refine ev_iconst (v := 1) dX12_flight_51 cni_1 ?_
  refine ev_icmp_ne (tgt := 62) dX12_flight_52 (by decide) (fun h52 => ?_) (fun h52 => False.elim (absurd h52 (by decide)))
  refine ev_iload_n (i := 3) dX12_flight_62 rfl rfl ?_
  refine ev_iconst (v := 2) dX12_flight_63 cni_2 ?_
  refine ev_icmp_ne (tgt := 74) dX12_flight_64 (by decide) (fun h64 => ?_) (fun h64 => False.elim (absurd h64 (by decide)))
  refine ev_iload_n (i := 3) dX12_flight_74 rfl rfl ?_
  refine ev_iconst (v := 3) dX12_flight_75 cni_3 ?_
  refine ev_icmp_ne (tgt := 86) dX12_flight_76 (by decide) (fun h76 => ?_) (fun h76 => False.elim (absurd h76 (by decide)))
  refine ev_iload_n (i := 3) dX12_flight_86 rfl rfl ?_
  refine ev_iconst (v := 4) dX12_flight_87 cni_4 ?_
  refine ev_icmp_ne (tgt := 98) dX12_flight_88 (by decide) (fun h88 => False.elim (absurd rfl h88)) (fun h88 => ?_)
  refine ev_aload_n (i := 0) dX12_flight_91 rfl rfl ?_
  refine ev_getf dX12_flight_92 flX12_186 (by assumption) (by rfl) ?_
  refine ev_goto (tgt := 102) dX12_flight_95 (by decide) ?_
  exact ev_reti dX12_flight_102 rfl rfl (⟨rfl, md_XS hX0, fun k hk => (hf2 k hk).trans (hf1 k hk)⟩)
theorem m_flight_5 {G : ev_G} {n : Nat} {M : ev_M} {tn c0 c1 c2 sh : Nat} {tx s kp bw ar tu : Nat → Int32} {k0 k1 : Bool} {tr : Int64} (hM : md_S M tn c0 c1 c2 sh tx s kp bw ar tu k0 k1 tr) {j : Nat} (hj : j < c0) (hc : c0 ≤ 12) {b : Nat} (hb : b < c1) (hc1 : c1 ≤ 3) (hs : sk_ok (fun q => s (7 * j + q))) (hw : bw_ok (bw (2 * b)) (bw (2 * b + 1))) (ht : tu_ok tu) : ev_Cal G mX12_flight 6 0 0 [.ref 129, .int (nI j), .int (nI b), .int 5] n M (md_is M (.int (fx_ki tu (fun q => s (7 * j + q)) (bw (2 * b)) (bw (2 * b + 1)))) tn c0 c1 c2 sh tx s kp bw ar tu k0 k1 tr) := by
  refine ev_Cal_of (L := [some (.ref 129), some (.int (nI j)), some (.int (nI b)), some (.int 5)]) (by decide +kernel) (Nat.le_of_ble_eq_true rfl) rfl ?_
  refine md_thr hM dX12_flight_0 dX12_flight_1 dX12_flight_2 rfl rfl (fun M1 hM1 hf1 => ?_)
  obtain ⟨one, gof, dof, act, sp, of', ba, go, dr, ki, up, dn, hX⟩ := md_SX hM1
  have hX0 := hX
  obtain ⟨th, nx, tk, pl, va, fa, d0, d1, d2, dS, dB, dA, ik, h129, h130, h131, h132, h133, hk0, hk1, h134, h135, h136, h137, h138, h139, h140, h141, h142, h143, hsh⟩ := hX
  refine ev_aload_n (i := 0) dX12_flight_5 rfl rfl ?_
  refine ev_iload_n (i := 1) dX12_flight_6 rfl rfl ?_
  refine ev_c2 kX12_flight_7 (c13_isStick h129) (ev_rv_of (by assumption) rfl rfl) (by decide) (by decide) (Nat.le_of_ble_eq_true rfl) ?_
  refine ev_if_eqb (tgt := 30) dX12_flight_10 (by decide) (fun h10 => False.elim (Bool.false_ne_true (h10.symm.trans (sp_in_ix hj (by omega))))) (fun h10 => ?_)
  refine ev_aload_n (i := 0) dX12_flight_13 rfl rfl ?_
  refine ev_iload_n (i := 2) dX12_flight_14 rfl rfl ?_
  refine ev_c2 kX12_flight_15 (c13_isBow h129) (ev_rv_of (by assumption) rfl rfl) (by decide) (by decide) (Nat.le_of_ble_eq_true rfl) ?_
  refine ev_if_eqb (tgt := 30) dX12_flight_18 (by decide) (fun h18 => False.elim (Bool.false_ne_true (h18.symm.trans (sp_in_ix hb (by omega))))) (fun h18 => ?_)
  refine ev_iload_n (i := 3) dX12_flight_21 rfl rfl ?_
  refine ev_iconst (v := 0) dX12_flight_22 cni_0 ?_
  refine ev_iconst (v := 5) dX12_flight_23 cni_5 ?_
  refine ev_c3 kX12_flight_24 (c13_in) trivial (by decide) (by decide) (Nat.le_of_ble_eq_true rfl) ?_
  refine ev_if_neb (tgt := 33) dX12_flight_27 (by decide) (fun h27 => ?_) (fun h27 => False.elim (Bool.false_ne_true (h27.symm.trans (by decide))))
  refine ev_aload_n (i := 0) dX12_flight_33 rfl rfl ?_
  refine ev_iload_n (i := 1) dX12_flight_34 rfl rfl ?_
  refine ev_iload_n (i := 2) dX12_flight_35 rfl rfl ?_
  refine ev_d3 kX12_flight_36 (m_fliesWith hX0 hj hc hb hc1 hs hw ht) (ev_rv_of (by assumption) rfl rfl) (by decide) (by decide) (Nat.le_of_ble_eq_true rfl) ?_
  intro r M2 hr
  obtain ⟨rfl, ⟨o2, ho, hX⟩, hf2⟩ := hr
  have hX0 := hX
  obtain ⟨th, nx, tk, pl, va, fa, d0, d1, d2, dS, dB, dA, ik, h129, h130, h131, h132, h133, hk0, hk1, h134, h135, h136, h137, h138, h139, h140, h141, h142, h143, hsh⟩ := hX
  refine ev_iload_n (i := 3) dX12_flight_39 rfl rfl ?_
  refine ev_if_ne (tgt := 50) dX12_flight_40 (by decide) (fun h40 => ?_) (fun h40 => False.elim (absurd h40 (by decide)))
  refine ev_iload_n (i := 3) dX12_flight_50 rfl rfl ?_
  refine ev_iconst (v := 1) dX12_flight_51 cni_1 ?_
  refine ev_icmp_ne (tgt := 62) dX12_flight_52 (by decide) (fun h52 => ?_) (fun h52 => False.elim (absurd h52 (by decide)))
  refine ev_iload_n (i := 3) dX12_flight_62 rfl rfl ?_
  refine ev_iconst (v := 2) dX12_flight_63 cni_2 ?_
  refine ev_icmp_ne (tgt := 74) dX12_flight_64 (by decide) (fun h64 => ?_) (fun h64 => False.elim (absurd h64 (by decide)))
  refine ev_iload_n (i := 3) dX12_flight_74 rfl rfl ?_
  refine ev_iconst (v := 3) dX12_flight_75 cni_3 ?_
  refine ev_icmp_ne (tgt := 86) dX12_flight_76 (by decide) (fun h76 => ?_) (fun h76 => False.elim (absurd h76 (by decide)))
  refine ev_iload_n (i := 3) dX12_flight_86 rfl rfl ?_
  refine ev_iconst (v := 4) dX12_flight_87 cni_4 ?_
  refine ev_icmp_ne (tgt := 98) dX12_flight_88 (by decide) (fun h88 => ?_) (fun h88 => False.elim (absurd h88 (by decide)))
  refine ev_aload_n (i := 0) dX12_flight_98 rfl rfl ?_
  refine ev_getf dX12_flight_99 flX12_162 (by assumption) (by rfl) ?_
  exact ev_reti dX12_flight_102 rfl rfl (⟨rfl, md_XS hX0, fun k hk => (hf2 k hk).trans (hf1 k hk)⟩)
theorem m_flight_no {G : ev_G} {n : Nat} {M : ev_M} {tn c0 c1 c2 sh : Nat} {tx s kp bw ar tu : Nat → Int32} {k0 k1 : Bool} {tr : Int64} (hM : md_S M tn c0 c1 c2 sh tx s kp bw ar tu k0 k1 tr) {x xb w : Int32} (h : (sp_in x 0 (nI c0 - 1) && sp_in xb 0 (nI c1 - 1) && sp_in w 0 5) = false) : ev_Cal G mX12_flight 6 0 0 [.ref 129, .int x, .int xb, .int w] n M (md_is M (.int (-1000000)) tn c0 c1 c2 sh tx s kp bw ar tu k0 k1 tr) := by
  refine ev_Cal_of (L := [some (.ref 129), some (.int x), some (.int xb), some (.int w)]) (by decide +kernel) (Nat.le_of_ble_eq_true rfl) rfl ?_
  refine md_thr hM dX12_flight_0 dX12_flight_1 dX12_flight_2 rfl rfl (fun M1 hM1 hf1 => ?_)
  obtain ⟨one, gof, dof, act, sp, of', ba, go, dr, ki, up, dn, hX⟩ := md_SX hM1
  have hX0 := hX
  obtain ⟨th, nx, tk, pl, va, fa, d0, d1, d2, dS, dB, dA, ik, h129, h130, h131, h132, h133, hk0, hk1, h134, h135, h136, h137, h138, h139, h140, h141, h142, h143, hsh⟩ := hX
  refine ev_aload_n (i := 0) dX12_flight_5 rfl rfl ?_
  refine ev_iload_n (i := 1) dX12_flight_6 rfl rfl ?_
  refine ev_c2 kX12_flight_7 (c13_isStick h129) (ev_rv_of (by assumption) rfl rfl) (by decide) (by decide) (Nat.le_of_ble_eq_true rfl) ?_
  refine ev_if_eqb (tgt := 30) dX12_flight_10 (by decide) (fun h10 => ?_) (fun h10 => ?_)
  · skip
    refine ev_ldc dX12_flight_30 coX12_143 ?_
    exact ev_reti dX12_flight_32 rfl rfl (⟨rfl, md_XS hX0, hf1⟩)
  · skip
    refine ev_aload_n (i := 0) dX12_flight_13 rfl rfl ?_
    refine ev_iload_n (i := 2) dX12_flight_14 rfl rfl ?_
    refine ev_c2 kX12_flight_15 (c13_isBow h129) (ev_rv_of (by assumption) rfl rfl) (by decide) (by decide) (Nat.le_of_ble_eq_true rfl) ?_
    refine ev_if_eqb (tgt := 30) dX12_flight_18 (by decide) (fun h18 => ?_) (fun h18 => ?_)
    · skip
      refine ev_ldc dX12_flight_30 coX12_143 ?_
      exact ev_reti dX12_flight_32 rfl rfl (⟨rfl, md_XS hX0, hf1⟩)
    · skip
      refine ev_iload_n (i := 3) dX12_flight_21 rfl rfl ?_
      refine ev_iconst (v := 0) dX12_flight_22 cni_0 ?_
      refine ev_iconst (v := 5) dX12_flight_23 cni_5 ?_
      refine ev_c3 kX12_flight_24 (c13_in) trivial (by decide) (by decide) (Nat.le_of_ble_eq_true rfl) ?_
      refine ev_if_neb (tgt := 33) dX12_flight_27 (by decide) (fun h27 => False.elim (by rw [h10, h18, h27] at h; cases h)) (fun h27 => ?_)
      refine ev_ldc dX12_flight_30 coX12_143 ?_
      exact ev_reti dX12_flight_32 rfl rfl (⟨rfl, md_XS hX0, hf1⟩)
theorem lm_band {G : ev_G} {n : Nat} {M : ev_M} {tn c0 c1 c2 sh : Nat} {tx s kp bw ar tu : Nat → Int32} {k0 k1 : Bool} {tr : Int64} {M1 : ev_M} {one gof dof act : Nat → Int32} {sp of' ba go dr ki : Int32} {up dn : Int64} (hX0 : md_X M1 tn c0 c1 c2 sh tx s kp bw ar tu k0 k1 tr one gof dof act sp of' ba go dr ki up dn) (hf1 : ∀ k, k < 129 → M1 k = M k) {b : Nat} (hb : b < c1) (hc1 : c1 ≤ 3) {len tip w : Int32} (hl0 : ¬ len = 0) : ∀ (m k : Nat) (z : Option Value), k + m = 80 → ev_E G mX12_band 3 0 0 n M1 60 [some (.ref 129), some (.int (nI b)), some (.int len), some (.int tip), some (.int w), some (.int (sp_first (sb_band tu len tip (bw (2 * b)) (bw (2 * b + 1))) sb_v20 (-9) k)), some (.int (sp_last (sb_band tu len tip (bw (2 * b)) (bw (2 * b + 1))) sb_v20 (-9) k)), some (.int (nI (20 + k))), z] [] (md_is M (.int (if w = 0 then sp_first (sb_band tu len tip (bw (2 * b)) (bw (2 * b + 1))) sb_v20 (-9) 80 else sp_last (sb_band tu len tip (bw (2 * b)) (bw (2 * b + 1))) sb_v20 (-9) 80)) tn c0 c1 c2 sh tx s kp bw ar tu k0 k1 tr) := by
  have hX := hX0
  obtain ⟨th, nx, tk, pl, va, fa, d0, d1, d2, dS, dB, dA, ik, h129, h130, h131, h132, h133, hk0, hk1, h134, h135, h136, h137, h138, h139, h140, h141, h142, h143, hsh⟩ := hX
  intro m
  induction m with
  | zero =>
    intro k z hk
    refine ev_iload dX12_band_60 rfl ?_
    refine ev_bipush (v := 100) dX12_band_62 cnb_100 ?_
    refine ev_icmp_ge (tgt := 139) dX12_band_64 (by decide) (fun h64 => ?_) (fun h64 => False.elim (Int32.not_le.mpr h64 (nI_le (a := 100) (b := 20 + k) (by omega) (by omega))))
    obtain rfl : k = 80 := by omega
    refine ev_iload dX12_band_139 rfl ?_
    refine ev_if_ne (tgt := 149) dX12_band_141 (by decide) (fun h141 => ?_) (fun h141 => ?_)
    · skip
      refine ev_iload dX12_band_149 rfl ?_
      exact ev_reti dX12_band_151 rfl rfl (⟨by first | rw [if_pos h141] | rw [if_neg h141], md_XS hX0, hf1⟩)
    · skip
      refine ev_iload dX12_band_144 rfl ?_
      refine ev_goto (tgt := 151) dX12_band_146 (by decide) ?_
      exact ev_reti dX12_band_151 rfl rfl (⟨by first | rw [if_pos h141] | rw [if_neg h141], md_XS hX0, hf1⟩)
  | succ m ih =>
    intro k z hk
    refine ev_iload dX12_band_60 rfl ?_
    refine ev_bipush (v := 100) dX12_band_62 cnb_100 ?_
    refine ev_icmp_ge (tgt := 139) dX12_band_64 (by decide) (fun h64 => False.elim (nI_ge (a := 20 + k) (b := 100) (by omega) (by decide) h64)) (fun h64 => ?_)
    refine ev_iload dX12_band_67 rfl ?_
    refine ev_bipush (v := 112) dX12_band_69 cnb_112 ?_
    refine ev_imul dX12_band_71 ?_
    refine ev_iload_n (i := 2) dX12_band_72 rfl rfl ?_
    refine ev_idiv dX12_band_73 (hl0) ?_
    refine ev_iload_n (i := 3) dX12_band_74 rfl rfl ?_
    refine ev_bipush (v := 10) dX12_band_75 cnb_10 ?_
    refine ev_idiv dX12_band_77 (by decide) ?_
    refine ev_isub dX12_band_78 ?_
    refine ev_aload_n (i := 0) dX12_band_79 rfl rfl ?_
    refine ev_getf dX12_band_80 flX12_23 (by assumption) (by rfl) ?_
    refine ev_iconst (v := 2) dX12_band_83 cni_2 ?_
    refine ev_iload_n (i := 1) dX12_band_84 rfl rfl ?_
    refine ev_imul dX12_band_85 ?_
    refine ev_iald (j := 2 * b) dX12_band_86 (by assumption) (ev_ix20 b (by omega)) (by omega) ?_
    refine ev_isub dX12_band_87 ?_
    refine ev_iconst (v := 2) dX12_band_88 cni_2 ?_
    refine ev_aload_n (i := 0) dX12_band_89 rfl rfl ?_
    refine ev_getf dX12_band_90 flX12_23 (by assumption) (by rfl) ?_
    refine ev_iconst (v := 2) dX12_band_93 cni_2 ?_
    refine ev_iload_n (i := 1) dX12_band_94 rfl rfl ?_
    refine ev_imul dX12_band_95 ?_
    refine ev_iconst (v := 1) dX12_band_96 cni_1 ?_
    refine ev_iadd dX12_band_97 ?_
    refine ev_iald (j := 2 * b + 1) dX12_band_98 (by assumption) (ev_ix2 b 1 (by omega)) (by omega) ?_
    refine ev_imul dX12_band_99 ?_
    refine ev_isub dX12_band_100 ?_
    refine ev_topi (x2 := sp_spine (nI (20 + k)) len tip - sp_need (bw (2 * b)) (bw (2 * b + 1))) (by rw [sp_spine, sp_div, if_neg hl0]; exact sp_sub2 _ _ _) ?_
    refine ev_istore dX12_band_101 (Nat.le_of_ble_eq_true rfl) rfl ?_
    refine ev_aload_n (i := 0) dX12_band_103 rfl rfl ?_
    refine ev_iload dX12_band_104 rfl ?_
    refine ev_c2 kX12_band_106 (c13_kindOf h129 h139) (ev_rv_of (by assumption) rfl rfl) (by decide) (by decide) (Nat.le_of_ble_eq_true rfl) ?_
    refine ev_iconst (v := 1) dX12_band_109 cni_1 ?_
    refine ev_icmp_ne (tgt := 133) dX12_band_110 (by decide) (fun h110 => ?_) (fun h110 => ?_)
    · skip
      refine ev_iinc (v := nI (20 + (k + 1))) dX12_band_133 rfl (nI_1 (20 + k)) (Nat.le_of_ble_eq_true rfl) rfl ?_
      refine ev_goto (tgt := 60) dX12_band_136 (by decide) ?_
      refine ev_loc (L2 := [some (.ref 129), some (.int (nI b)), some (.int len), some (.int tip), some (.int w), some (.int (sp_first (sb_band tu len tip (bw (2 * b)) (bw (2 * b + 1))) sb_v20 (-9) (k + 1))), some (.int (sp_last (sb_band tu len tip (bw (2 * b)) (bw (2 * b + 1))) sb_v20 (-9) (k + 1))), some (.int (nI (20 + (k + 1)))), some (.int (sp_spine (nI (20 + k)) len tip - sp_need (bw (2 * b)) (bw (2 * b + 1))))]) (by first | (rw [sp_first_1 (P := (sb_band tu len tip (bw (2 * b)) (bw (2 * b + 1)))) (v := sb_v20) (z := (-9)) (k := k) (sp_clean_t h110) h117, sp_last_1 (P := (sb_band tu len tip (bw (2 * b)) (bw (2 * b + 1)))) (v := sb_v20) (z := (-9)) (k := k) (sp_clean_t h110)]; rfl) | (rw [sp_first_2 (P := (sb_band tu len tip (bw (2 * b)) (bw (2 * b + 1)))) (v := sb_v20) (z := (-9)) (k := k) (sp_clean_t h110) h117, sp_last_1 (P := (sb_band tu len tip (bw (2 * b)) (bw (2 * b + 1)))) (v := sb_v20) (z := (-9)) (k := k) (sp_clean_t h110)]; rfl) | (rw [sp_first_0 (P := (sb_band tu len tip (bw (2 * b)) (bw (2 * b + 1)))) (v := sb_v20) (z := (-9)) (k := k) (sp_clean_f h110), sp_last_0 (P := (sb_band tu len tip (bw (2 * b)) (bw (2 * b + 1)))) (v := sb_v20) (z := (-9)) (k := k) (sp_clean_f h110)]; rfl)) (ih (k + 1) _ (by omega))
    · skip
      refine ev_iload dX12_band_113 rfl ?_
      refine ev_bipush (v := (-9)) dX12_band_115 cnb_m9 ?_
      refine ev_icmp_ne (tgt := 125) dX12_band_117 (by decide) (fun h117 => ?_) (fun h117 => ?_)
      · skip
        refine ev_iload dX12_band_125 rfl ?_
        refine ev_istore dX12_band_127 (Nat.le_of_ble_eq_true rfl) rfl ?_
        refine ev_iload dX12_band_129 rfl ?_
        refine ev_istore dX12_band_131 (Nat.le_of_ble_eq_true rfl) rfl ?_
        refine ev_iinc (v := nI (20 + (k + 1))) dX12_band_133 rfl (nI_1 (20 + k)) (Nat.le_of_ble_eq_true rfl) rfl ?_
        refine ev_goto (tgt := 60) dX12_band_136 (by decide) ?_
        refine ev_loc (L2 := [some (.ref 129), some (.int (nI b)), some (.int len), some (.int tip), some (.int w), some (.int (sp_first (sb_band tu len tip (bw (2 * b)) (bw (2 * b + 1))) sb_v20 (-9) (k + 1))), some (.int (sp_last (sb_band tu len tip (bw (2 * b)) (bw (2 * b + 1))) sb_v20 (-9) (k + 1))), some (.int (nI (20 + (k + 1)))), some (.int (sp_spine (nI (20 + k)) len tip - sp_need (bw (2 * b)) (bw (2 * b + 1))))]) (by first | (rw [sp_first_1 (P := (sb_band tu len tip (bw (2 * b)) (bw (2 * b + 1)))) (v := sb_v20) (z := (-9)) (k := k) (sp_clean_t h110) h117, sp_last_1 (P := (sb_band tu len tip (bw (2 * b)) (bw (2 * b + 1)))) (v := sb_v20) (z := (-9)) (k := k) (sp_clean_t h110)]; rfl) | (rw [sp_first_2 (P := (sb_band tu len tip (bw (2 * b)) (bw (2 * b + 1)))) (v := sb_v20) (z := (-9)) (k := k) (sp_clean_t h110) h117, sp_last_1 (P := (sb_band tu len tip (bw (2 * b)) (bw (2 * b + 1)))) (v := sb_v20) (z := (-9)) (k := k) (sp_clean_t h110)]; rfl) | (rw [sp_first_0 (P := (sb_band tu len tip (bw (2 * b)) (bw (2 * b + 1)))) (v := sb_v20) (z := (-9)) (k := k) (sp_clean_f h110), sp_last_0 (P := (sb_band tu len tip (bw (2 * b)) (bw (2 * b + 1)))) (v := sb_v20) (z := (-9)) (k := k) (sp_clean_f h110)]; rfl)) (ih (k + 1) _ (by omega))
      · skip
        refine ev_iload dX12_band_120 rfl ?_
        refine ev_goto (tgt := 127) dX12_band_122 (by decide) ?_
        refine ev_istore dX12_band_127 (Nat.le_of_ble_eq_true rfl) rfl ?_
        refine ev_iload dX12_band_129 rfl ?_
        refine ev_istore dX12_band_131 (Nat.le_of_ble_eq_true rfl) rfl ?_
        refine ev_iinc (v := nI (20 + (k + 1))) dX12_band_133 rfl (nI_1 (20 + k)) (Nat.le_of_ble_eq_true rfl) rfl ?_
        refine ev_goto (tgt := 60) dX12_band_136 (by decide) ?_
        refine ev_loc (L2 := [some (.ref 129), some (.int (nI b)), some (.int len), some (.int tip), some (.int w), some (.int (sp_first (sb_band tu len tip (bw (2 * b)) (bw (2 * b + 1))) sb_v20 (-9) (k + 1))), some (.int (sp_last (sb_band tu len tip (bw (2 * b)) (bw (2 * b + 1))) sb_v20 (-9) (k + 1))), some (.int (nI (20 + (k + 1)))), some (.int (sp_spine (nI (20 + k)) len tip - sp_need (bw (2 * b)) (bw (2 * b + 1))))]) (by first | (rw [sp_first_1 (P := (sb_band tu len tip (bw (2 * b)) (bw (2 * b + 1)))) (v := sb_v20) (z := (-9)) (k := k) (sp_clean_t h110) h117, sp_last_1 (P := (sb_band tu len tip (bw (2 * b)) (bw (2 * b + 1)))) (v := sb_v20) (z := (-9)) (k := k) (sp_clean_t h110)]; rfl) | (rw [sp_first_2 (P := (sb_band tu len tip (bw (2 * b)) (bw (2 * b + 1)))) (v := sb_v20) (z := (-9)) (k := k) (sp_clean_t h110) h117, sp_last_1 (P := (sb_band tu len tip (bw (2 * b)) (bw (2 * b + 1)))) (v := sb_v20) (z := (-9)) (k := k) (sp_clean_t h110)]; rfl) | (rw [sp_first_0 (P := (sb_band tu len tip (bw (2 * b)) (bw (2 * b + 1)))) (v := sb_v20) (z := (-9)) (k := k) (sp_clean_f h110), sp_last_0 (P := (sb_band tu len tip (bw (2 * b)) (bw (2 * b + 1)))) (v := sb_v20) (z := (-9)) (k := k) (sp_clean_f h110)]; rfl)) (ih (k + 1) _ (by omega))
theorem m_band {G : ev_G} {n : Nat} {M : ev_M} {tn c0 c1 c2 sh : Nat} {tx s kp bw ar tu : Nat → Int32} {k0 k1 : Bool} {tr : Int64} (hM : md_S M tn c0 c1 c2 sh tx s kp bw ar tu k0 k1 tr) {b : Nat} (hb : b < c1) (hc1 : c1 ≤ 3) {len tip w : Int32} (hl : sp_in len 80 130 = true) (htp : sp_in tip 0 200 = true) (hw1 : sp_in w 0 1 = true) : ev_Cal G mX12_band 3 0 0 [.ref 129, .int (nI b), .int len, .int tip, .int w] n M (md_is M (.int (if w = 0 then sp_first (sb_band tu len tip (bw (2 * b)) (bw (2 * b + 1))) sb_v20 (-9) 80 else sp_last (sb_band tu len tip (bw (2 * b)) (bw (2 * b + 1))) sb_v20 (-9) 80)) tn c0 c1 c2 sh tx s kp bw ar tu k0 k1 tr) := by
  refine ev_Cal_of (L := [some (.ref 129), some (.int (nI b)), some (.int len), some (.int tip), some (.int w), none, none, none, none]) (by decide +kernel) (Nat.le_of_ble_eq_true rfl) rfl ?_
  refine md_thr hM dX12_band_0 dX12_band_1 dX12_band_2 rfl rfl (fun M1 hM1 hf1 => ?_)
  obtain ⟨one, gof, dof, act, sp, of', ba, go, dr, ki, up, dn, hX⟩ := md_SX hM1
  have hX0 := hX
  obtain ⟨th, nx, tk, pl, va, fa, d0, d1, d2, dS, dB, dA, ik, h129, h130, h131, h132, h133, hk0, hk1, h134, h135, h136, h137, h138, h139, h140, h141, h142, h143, hsh⟩ := hX
  refine ev_aload_n (i := 0) dX12_band_5 rfl rfl ?_
  refine ev_iload_n (i := 1) dX12_band_6 rfl rfl ?_
  refine ev_c2 kX12_band_7 (c13_isBow h129) (ev_rv_of (by assumption) rfl rfl) (by decide) (by decide) (Nat.le_of_ble_eq_true rfl) ?_
  refine ev_if_eqb (tgt := 46) dX12_band_10 (by decide) (fun h10 => False.elim (Bool.false_ne_true (h10.symm.trans (sp_in_ix hb (by omega))))) (fun h10 => ?_)
  refine ev_iload_n (i := 2) dX12_band_13 rfl rfl ?_
  refine ev_bipush (v := 80) dX12_band_14 cnb_80 ?_
  refine ev_sipush (v := 130) dX12_band_16 cns_130 ?_
  refine ev_c3 kX12_band_19 (c13_in) trivial (by decide) (by decide) (Nat.le_of_ble_eq_true rfl) ?_
  refine ev_if_eqb (tgt := 46) dX12_band_22 (by decide) (fun h22 => False.elim (Bool.false_ne_true (h22.symm.trans (hl)))) (fun h22 => ?_)
  refine ev_iload_n (i := 3) dX12_band_25 rfl rfl ?_
  refine ev_iconst (v := 0) dX12_band_26 cni_0 ?_
  refine ev_sipush (v := 200) dX12_band_27 cns_200 ?_
  refine ev_c3 kX12_band_30 (c13_in) trivial (by decide) (by decide) (Nat.le_of_ble_eq_true rfl) ?_
  refine ev_if_eqb (tgt := 46) dX12_band_33 (by decide) (fun h33 => False.elim (Bool.false_ne_true (h33.symm.trans (htp)))) (fun h33 => ?_)
  refine ev_iload dX12_band_36 rfl ?_
  refine ev_iconst (v := 0) dX12_band_38 cni_0 ?_
  refine ev_iconst (v := 1) dX12_band_39 cni_1 ?_
  refine ev_c3 kX12_band_40 (c13_in) trivial (by decide) (by decide) (Nat.le_of_ble_eq_true rfl) ?_
  refine ev_if_neb (tgt := 48) dX12_band_43 (by decide) (fun h43 => ?_) (fun h43 => False.elim (Bool.false_ne_true (h43.symm.trans (hw1))))
  refine ev_bipush (v := (-9)) dX12_band_48 cnb_m9 ?_
  refine ev_istore dX12_band_50 (Nat.le_of_ble_eq_true rfl) rfl ?_
  refine ev_bipush (v := (-9)) dX12_band_52 cnb_m9 ?_
  refine ev_istore dX12_band_54 (Nat.le_of_ble_eq_true rfl) rfl ?_
  refine ev_bipush (v := 20) dX12_band_56 cnb_20 ?_
  refine ev_istore dX12_band_58 (Nat.le_of_ble_eq_true rfl) rfl ?_
  exact lm_band hX0 hf1 hb hc1 (ne_ti (by have := (sp_in_to (a := 80) (b := 130) hl (by decide +kernel) (by decide +kernel)).1; omega)) 80 0 none rfl
theorem m_band_no {G : ev_G} {n : Nat} {M : ev_M} {tn c0 c1 c2 sh : Nat} {tx s kp bw ar tu : Nat → Int32} {k0 k1 : Bool} {tr : Int64} (hM : md_S M tn c0 c1 c2 sh tx s kp bw ar tu k0 k1 tr) {xb len tip w : Int32} (h : (sp_in xb 0 (nI c1 - 1) && sp_in len 80 130 && sp_in tip 0 200 && sp_in w 0 1) = false) : ev_Cal G mX12_band 3 0 0 [.ref 129, .int xb, .int len, .int tip, .int w] n M (md_is M (.int (-1)) tn c0 c1 c2 sh tx s kp bw ar tu k0 k1 tr) := by
  refine ev_Cal_of (L := [some (.ref 129), some (.int xb), some (.int len), some (.int tip), some (.int w), none, none, none, none]) (by decide +kernel) (Nat.le_of_ble_eq_true rfl) rfl ?_
  refine md_thr hM dX12_band_0 dX12_band_1 dX12_band_2 rfl rfl (fun M1 hM1 hf1 => ?_)
  obtain ⟨one, gof, dof, act, sp, of', ba, go, dr, ki, up, dn, hX⟩ := md_SX hM1
  have hX0 := hX
  obtain ⟨th, nx, tk, pl, va, fa, d0, d1, d2, dS, dB, dA, ik, h129, h130, h131, h132, h133, hk0, hk1, h134, h135, h136, h137, h138, h139, h140, h141, h142, h143, hsh⟩ := hX
  refine ev_aload_n (i := 0) dX12_band_5 rfl rfl ?_
  refine ev_iload_n (i := 1) dX12_band_6 rfl rfl ?_
  refine ev_c2 kX12_band_7 (c13_isBow h129) (ev_rv_of (by assumption) rfl rfl) (by decide) (by decide) (Nat.le_of_ble_eq_true rfl) ?_
  refine ev_if_eqb (tgt := 46) dX12_band_10 (by decide) (fun h10 => ?_) (fun h10 => ?_)
  · skip
    refine ev_iconst (v := (-1)) dX12_band_46 cni_m1 ?_
    exact ev_reti dX12_band_47 rfl rfl (⟨rfl, md_XS hX0, hf1⟩)
  · skip
    refine ev_iload_n (i := 2) dX12_band_13 rfl rfl ?_
    refine ev_bipush (v := 80) dX12_band_14 cnb_80 ?_
    refine ev_sipush (v := 130) dX12_band_16 cns_130 ?_
    refine ev_c3 kX12_band_19 (c13_in) trivial (by decide) (by decide) (Nat.le_of_ble_eq_true rfl) ?_
    refine ev_if_eqb (tgt := 46) dX12_band_22 (by decide) (fun h22 => ?_) (fun h22 => ?_)
    · skip
      refine ev_iconst (v := (-1)) dX12_band_46 cni_m1 ?_
      exact ev_reti dX12_band_47 rfl rfl (⟨rfl, md_XS hX0, hf1⟩)
    · skip
      refine ev_iload_n (i := 3) dX12_band_25 rfl rfl ?_
      refine ev_iconst (v := 0) dX12_band_26 cni_0 ?_
      refine ev_sipush (v := 200) dX12_band_27 cns_200 ?_
      refine ev_c3 kX12_band_30 (c13_in) trivial (by decide) (by decide) (Nat.le_of_ble_eq_true rfl) ?_
      refine ev_if_eqb (tgt := 46) dX12_band_33 (by decide) (fun h33 => ?_) (fun h33 => ?_)
      · skip
        refine ev_iconst (v := (-1)) dX12_band_46 cni_m1 ?_
        exact ev_reti dX12_band_47 rfl rfl (⟨rfl, md_XS hX0, hf1⟩)
      · skip
        refine ev_iload dX12_band_36 rfl ?_
        refine ev_iconst (v := 0) dX12_band_38 cni_0 ?_
        refine ev_iconst (v := 1) dX12_band_39 cni_1 ?_
        refine ev_c3 kX12_band_40 (c13_in) trivial (by decide) (by decide) (Nat.le_of_ble_eq_true rfl) ?_
        refine ev_if_neb (tgt := 48) dX12_band_43 (by decide) (fun h43 => False.elim (by rw [h10, h22, h33, h43] at h; cases h)) (fun h43 => ?_)
        refine ev_iconst (v := (-1)) dX12_band_46 cni_m1 ?_
        exact ev_reti dX12_band_47 rfl rfl (⟨rfl, md_XS hX0, hf1⟩)
theorem sp_m61_lt {k : Nat} (h : k ≤ 120) : nI k - 60 < (61 : Int32) := by rw [Int32.lt_iff_toInt_lt, sp_m60 (by omega), show (61 : Int32).toInt = 61 from by decide]; omega
theorem sp_m61_le {k : Nat} (h : 121 ≤ k) (h2 : k < 2 ^ 30) : (61 : Int32) ≤ nI k - 60 := by rw [Int32.le_iff_toInt_le, sp_m60 h2, show (61 : Int32).toInt = 61 from by decide]; omega
theorem lm_says {G : ev_G} {n : Nat} {M : ev_M} {tn c0 c1 c2 sh : Nat} {tx s kp bw ar tu : Nat → Int32} {k0 k1 : Bool} {tr : Int64} {M1 : ev_M} {one gof dof act : Nat → Int32} {sp of' ba go dr ki : Int32} {up dn : Int64} (hX0 : md_X M1 tn c0 c1 c2 sh tx s kp bw ar tu k0 k1 tr one gof dof act sp of' ba go dr ki up dn) (hf1 : ∀ k, k < 129 → M1 k = M k) (ht : tu_ok tu) {x fe w : Int32} : ∀ (m k : Nat) (z : Option Value), k + m = 121 → ev_E G mX12_says 4 0 0 n M1 52 [some (.ref 129), some (.int x), some (.int fe), some (.int w), some (.int (sp_first (sb_says tu fe x) sb_v60 (-1000000) k)), some (.int (sp_last (sb_says tu fe x) sb_v60 (-1000000) k)), some (.int (nI k - 60)), z] [] (md_is M (.int (if w = 0 then sp_first (sb_says tu fe x) sb_v60 (-1000000) 121 else sp_last (sb_says tu fe x) sb_v60 (-1000000) 121)) tn c0 c1 c2 sh tx s kp bw ar tu k0 k1 tr) := by
  have hX := hX0
  obtain ⟨th, nx, tk, pl, va, fa, d0, d1, d2, dS, dB, dA, ik, h129, h130, h131, h132, h133, hk0, hk1, h134, h135, h136, h137, h138, h139, h140, h141, h142, h143, hsh⟩ := hX
  intro m
  induction m with
  | zero =>
    intro k z hk
    refine ev_iload dX12_says_52 rfl ?_
    refine ev_bipush (v := 61) dX12_says_54 cnb_61 ?_
    refine ev_icmp_ge (tgt := 110) dX12_says_56 (by decide) (fun h56 => ?_) (fun h56 => False.elim (Int32.not_le.mpr h56 (sp_m61_le (by omega) (by omega))))
    obtain rfl : k = 121 := by omega
    refine ev_iload_n (i := 3) dX12_says_110 rfl rfl ?_
    refine ev_if_ne (tgt := 119) dX12_says_111 (by decide) (fun h111 => ?_) (fun h111 => ?_)
    · skip
      refine ev_iload dX12_says_119 rfl ?_
      exact ev_reti dX12_says_121 rfl rfl (⟨by first | rw [if_pos h111] | rw [if_neg h111], md_XS hX0, hf1⟩)
    · skip
      refine ev_iload dX12_says_114 rfl ?_
      refine ev_goto (tgt := 121) dX12_says_116 (by decide) ?_
      exact ev_reti dX12_says_121 rfl rfl (⟨by first | rw [if_pos h111] | rw [if_neg h111], md_XS hX0, hf1⟩)
  | succ m ih =>
    intro k z hk
    refine ev_iload dX12_says_52 rfl ?_
    refine ev_bipush (v := 61) dX12_says_54 cnb_61 ?_
    refine ev_icmp_ge (tgt := 110) dX12_says_56 (by decide) (fun h56 => False.elim (Int32.not_le.mpr (sp_m61_lt (by omega)) h56)) (fun h56 => ?_)
    refine ev_aload_n (i := 0) dX12_says_59 rfl rfl ?_
    refine ev_iload dX12_says_60 rfl ?_
    refine ev_c2 kX12_says_62 (c13_bareOf h129 h139 (sp_hn (A := 100060) (rb_sub (A := 100000) (B := 60) (rb_nI (n := k) (by omega) (by omega)) (rb_l (A := 60) (by decide +kernel)) (by omega) (by omega)) (rb_of ht.2.2.1.1 ht.2.2.1.2 (by omega) (by omega)) (by omega))) (ev_rv_of (by assumption) rfl rfl) (by decide) (by decide) (Nat.le_of_ble_eq_true rfl) ?_
    refine ev_istore dX12_says_65 (Nat.le_of_ble_eq_true rfl) rfl ?_
    refine ev_iload dX12_says_67 rfl ?_
    refine ev_bipush (v := 10) dX12_says_69 cnb_10 ?_
    refine ev_iload_n (i := 2) dX12_says_71 rfl rfl ?_
    refine ev_isub dX12_says_72 ?_
    refine ev_imul dX12_says_73 ?_
    refine ev_bipush (v := 10) dX12_says_74 cnb_10 ?_
    refine ev_idiv dX12_says_76 (by decide) ?_
    refine ev_iload dX12_says_77 rfl ?_
    refine ev_isub dX12_says_79 ?_
    refine ev_iload_n (i := 1) dX12_says_80 rfl rfl ?_
    refine ev_icmp_ne (tgt := 104) dX12_says_81 (by decide) (fun h81 => ?_) (fun h81 => ?_)
    · skip
      refine ev_iinc (v := nI (k + 1) - 60) dX12_says_104 rfl (by show nI k - 60 + nI 1 = nI (k + 1) - 60; rw [← nI_add, Int32.sub_eq_add_neg, Int32.sub_eq_add_neg, Int32.add_assoc, Int32.add_comm (-60), ← Int32.add_assoc]) (Nat.le_of_ble_eq_true rfl) rfl ?_
      refine ev_goto (tgt := 52) dX12_says_107 (by decide) ?_
      refine ev_loc (L2 := [some (.ref 129), some (.int x), some (.int fe), some (.int w), some (.int (sp_first (sb_says tu fe x) sb_v60 (-1000000) (k + 1))), some (.int (sp_last (sb_says tu fe x) sb_v60 (-1000000) (k + 1))), some (.int (nI (k + 1) - 60)), some (.int (sp_bare (tu 0) (tu 1) (tu 2) (nI k - 60)))]) (by first | (rw [sp_first_1 (P := (sb_says tu fe x)) (v := sb_v60) (z := (-1000000)) (k := k) (decide_eq_true h81) h88, sp_last_1 (P := (sb_says tu fe x)) (v := sb_v60) (z := (-1000000)) (k := k) (decide_eq_true h81)]; rfl) | (rw [sp_first_2 (P := (sb_says tu fe x)) (v := sb_v60) (z := (-1000000)) (k := k) (decide_eq_true h81) h88, sp_last_1 (P := (sb_says tu fe x)) (v := sb_v60) (z := (-1000000)) (k := k) (decide_eq_true h81)]; rfl) | (rw [sp_first_0 (P := (sb_says tu fe x)) (v := sb_v60) (z := (-1000000)) (k := k) (decide_eq_false h81), sp_last_0 (P := (sb_says tu fe x)) (v := sb_v60) (z := (-1000000)) (k := k) (decide_eq_false h81)]; rfl)) (ih (k + 1) _ (by omega))
    · skip
      refine ev_iload dX12_says_84 rfl ?_
      refine ev_ldc dX12_says_86 coX12_143 ?_
      refine ev_icmp_ne (tgt := 96) dX12_says_88 (by decide) (fun h88 => ?_) (fun h88 => ?_)
      · skip
        refine ev_iload dX12_says_96 rfl ?_
        refine ev_istore dX12_says_98 (Nat.le_of_ble_eq_true rfl) rfl ?_
        refine ev_iload dX12_says_100 rfl ?_
        refine ev_istore dX12_says_102 (Nat.le_of_ble_eq_true rfl) rfl ?_
        refine ev_iinc (v := nI (k + 1) - 60) dX12_says_104 rfl (by show nI k - 60 + nI 1 = nI (k + 1) - 60; rw [← nI_add, Int32.sub_eq_add_neg, Int32.sub_eq_add_neg, Int32.add_assoc, Int32.add_comm (-60), ← Int32.add_assoc]) (Nat.le_of_ble_eq_true rfl) rfl ?_
        refine ev_goto (tgt := 52) dX12_says_107 (by decide) ?_
        refine ev_loc (L2 := [some (.ref 129), some (.int x), some (.int fe), some (.int w), some (.int (sp_first (sb_says tu fe x) sb_v60 (-1000000) (k + 1))), some (.int (sp_last (sb_says tu fe x) sb_v60 (-1000000) (k + 1))), some (.int (nI (k + 1) - 60)), some (.int (sp_bare (tu 0) (tu 1) (tu 2) (nI k - 60)))]) (by first | (rw [sp_first_1 (P := (sb_says tu fe x)) (v := sb_v60) (z := (-1000000)) (k := k) (decide_eq_true h81) h88, sp_last_1 (P := (sb_says tu fe x)) (v := sb_v60) (z := (-1000000)) (k := k) (decide_eq_true h81)]; rfl) | (rw [sp_first_2 (P := (sb_says tu fe x)) (v := sb_v60) (z := (-1000000)) (k := k) (decide_eq_true h81) h88, sp_last_1 (P := (sb_says tu fe x)) (v := sb_v60) (z := (-1000000)) (k := k) (decide_eq_true h81)]; rfl) | (rw [sp_first_0 (P := (sb_says tu fe x)) (v := sb_v60) (z := (-1000000)) (k := k) (decide_eq_false h81), sp_last_0 (P := (sb_says tu fe x)) (v := sb_v60) (z := (-1000000)) (k := k) (decide_eq_false h81)]; rfl)) (ih (k + 1) _ (by omega))
      · skip
        refine ev_iload dX12_says_91 rfl ?_
        refine ev_goto (tgt := 98) dX12_says_93 (by decide) ?_
        refine ev_istore dX12_says_98 (Nat.le_of_ble_eq_true rfl) rfl ?_
        refine ev_iload dX12_says_100 rfl ?_
        refine ev_istore dX12_says_102 (Nat.le_of_ble_eq_true rfl) rfl ?_
        refine ev_iinc (v := nI (k + 1) - 60) dX12_says_104 rfl (by show nI k - 60 + nI 1 = nI (k + 1) - 60; rw [← nI_add, Int32.sub_eq_add_neg, Int32.sub_eq_add_neg, Int32.add_assoc, Int32.add_comm (-60), ← Int32.add_assoc]) (Nat.le_of_ble_eq_true rfl) rfl ?_
        refine ev_goto (tgt := 52) dX12_says_107 (by decide) ?_
        refine ev_loc (L2 := [some (.ref 129), some (.int x), some (.int fe), some (.int w), some (.int (sp_first (sb_says tu fe x) sb_v60 (-1000000) (k + 1))), some (.int (sp_last (sb_says tu fe x) sb_v60 (-1000000) (k + 1))), some (.int (nI (k + 1) - 60)), some (.int (sp_bare (tu 0) (tu 1) (tu 2) (nI k - 60)))]) (by first | (rw [sp_first_1 (P := (sb_says tu fe x)) (v := sb_v60) (z := (-1000000)) (k := k) (decide_eq_true h81) h88, sp_last_1 (P := (sb_says tu fe x)) (v := sb_v60) (z := (-1000000)) (k := k) (decide_eq_true h81)]; rfl) | (rw [sp_first_2 (P := (sb_says tu fe x)) (v := sb_v60) (z := (-1000000)) (k := k) (decide_eq_true h81) h88, sp_last_1 (P := (sb_says tu fe x)) (v := sb_v60) (z := (-1000000)) (k := k) (decide_eq_true h81)]; rfl) | (rw [sp_first_0 (P := (sb_says tu fe x)) (v := sb_v60) (z := (-1000000)) (k := k) (decide_eq_false h81), sp_last_0 (P := (sb_says tu fe x)) (v := sb_v60) (z := (-1000000)) (k := k) (decide_eq_false h81)]; rfl)) (ih (k + 1) _ (by omega))
theorem m_says {G : ev_G} {n : Nat} {M : ev_M} {tn c0 c1 c2 sh : Nat} {tx s kp bw ar tu : Nat → Int32} {k0 k1 : Bool} {tr : Int64} (hM : md_S M tn c0 c1 c2 sh tx s kp bw ar tu k0 k1 tr) (ht : tu_ok tu) {x fe w : Int32} (hx : sp_in x (-999) 999 = true) (hfe : sp_in fe 0 9 = true) (hw1 : sp_in w 0 1 = true) : ev_Cal G mX12_says 4 0 0 [.ref 129, .int x, .int fe, .int w] n M (md_is M (.int (if w = 0 then sp_first (sb_says tu fe x) sb_v60 (-1000000) 121 else sp_last (sb_says tu fe x) sb_v60 (-1000000) 121)) tn c0 c1 c2 sh tx s kp bw ar tu k0 k1 tr) := by
  refine ev_Cal_of (L := [some (.ref 129), some (.int x), some (.int fe), some (.int w), none, none, none, none]) (by decide +kernel) (Nat.le_of_ble_eq_true rfl) rfl ?_
  refine md_thr hM dX12_says_0 dX12_says_1 dX12_says_2 rfl rfl (fun M1 hM1 hf1 => ?_)
  obtain ⟨one, gof, dof, act, sp, of', ba, go, dr, ki, up, dn, hX⟩ := md_SX hM1
  have hX0 := hX
  obtain ⟨th, nx, tk, pl, va, fa, d0, d1, d2, dS, dB, dA, ik, h129, h130, h131, h132, h133, hk0, hk1, h134, h135, h136, h137, h138, h139, h140, h141, h142, h143, hsh⟩ := hX
  refine ev_iload_n (i := 1) dX12_says_5 rfl rfl ?_
  refine ev_sipush (v := (-999)) dX12_says_6 cns_m999 ?_
  refine ev_sipush (v := 999) dX12_says_9 cns_999 ?_
  refine ev_c3 kX12_says_12 (c13_in) trivial (by decide) (by decide) (Nat.le_of_ble_eq_true rfl) ?_
  refine ev_if_eqb (tgt := 37) dX12_says_15 (by decide) (fun h15 => False.elim (Bool.false_ne_true (h15.symm.trans (hx)))) (fun h15 => ?_)
  refine ev_iload_n (i := 2) dX12_says_18 rfl rfl ?_
  refine ev_iconst (v := 0) dX12_says_19 cni_0 ?_
  refine ev_bipush (v := 9) dX12_says_20 cnb_9 ?_
  refine ev_c3 kX12_says_22 (c13_in) trivial (by decide) (by decide) (Nat.le_of_ble_eq_true rfl) ?_
  refine ev_if_eqb (tgt := 37) dX12_says_25 (by decide) (fun h25 => False.elim (Bool.false_ne_true (h25.symm.trans (hfe)))) (fun h25 => ?_)
  refine ev_iload_n (i := 3) dX12_says_28 rfl rfl ?_
  refine ev_iconst (v := 0) dX12_says_29 cni_0 ?_
  refine ev_iconst (v := 1) dX12_says_30 cni_1 ?_
  refine ev_c3 kX12_says_31 (c13_in) trivial (by decide) (by decide) (Nat.le_of_ble_eq_true rfl) ?_
  refine ev_if_neb (tgt := 40) dX12_says_34 (by decide) (fun h34 => ?_) (fun h34 => False.elim (Bool.false_ne_true (h34.symm.trans (hw1))))
  refine ev_ldc dX12_says_40 coX12_143 ?_
  refine ev_istore dX12_says_42 (Nat.le_of_ble_eq_true rfl) rfl ?_
  refine ev_ldc dX12_says_44 coX12_143 ?_
  refine ev_istore dX12_says_46 (Nat.le_of_ble_eq_true rfl) rfl ?_
  refine ev_bipush (v := (-60)) dX12_says_48 cnb_m60 ?_
  refine ev_istore dX12_says_50 (Nat.le_of_ble_eq_true rfl) rfl ?_
  exact lm_says hX0 hf1 ht 121 0 none rfl
theorem m_says_no {G : ev_G} {n : Nat} {M : ev_M} {tn c0 c1 c2 sh : Nat} {tx s kp bw ar tu : Nat → Int32} {k0 k1 : Bool} {tr : Int64} (hM : md_S M tn c0 c1 c2 sh tx s kp bw ar tu k0 k1 tr) {x fe w : Int32} (h : (sp_in x (-999) 999 && sp_in fe 0 9 && sp_in w 0 1) = false) : ev_Cal G mX12_says 4 0 0 [.ref 129, .int x, .int fe, .int w] n M (md_is M (.int (-1000000)) tn c0 c1 c2 sh tx s kp bw ar tu k0 k1 tr) := by
  refine ev_Cal_of (L := [some (.ref 129), some (.int x), some (.int fe), some (.int w), none, none, none, none]) (by decide +kernel) (Nat.le_of_ble_eq_true rfl) rfl ?_
  refine md_thr hM dX12_says_0 dX12_says_1 dX12_says_2 rfl rfl (fun M1 hM1 hf1 => ?_)
  obtain ⟨one, gof, dof, act, sp, of', ba, go, dr, ki, up, dn, hX⟩ := md_SX hM1
  have hX0 := hX
  obtain ⟨th, nx, tk, pl, va, fa, d0, d1, d2, dS, dB, dA, ik, h129, h130, h131, h132, h133, hk0, hk1, h134, h135, h136, h137, h138, h139, h140, h141, h142, h143, hsh⟩ := hX
  refine ev_iload_n (i := 1) dX12_says_5 rfl rfl ?_
  refine ev_sipush (v := (-999)) dX12_says_6 cns_m999 ?_
  refine ev_sipush (v := 999) dX12_says_9 cns_999 ?_
  refine ev_c3 kX12_says_12 (c13_in) trivial (by decide) (by decide) (Nat.le_of_ble_eq_true rfl) ?_
  refine ev_if_eqb (tgt := 37) dX12_says_15 (by decide) (fun h15 => ?_) (fun h15 => ?_)
  · skip
    refine ev_ldc dX12_says_37 coX12_143 ?_
    exact ev_reti dX12_says_39 rfl rfl (⟨rfl, md_XS hX0, hf1⟩)
  · skip
    refine ev_iload_n (i := 2) dX12_says_18 rfl rfl ?_
    refine ev_iconst (v := 0) dX12_says_19 cni_0 ?_
    refine ev_bipush (v := 9) dX12_says_20 cnb_9 ?_
    refine ev_c3 kX12_says_22 (c13_in) trivial (by decide) (by decide) (Nat.le_of_ble_eq_true rfl) ?_
    refine ev_if_eqb (tgt := 37) dX12_says_25 (by decide) (fun h25 => ?_) (fun h25 => ?_)
    · skip
      refine ev_ldc dX12_says_37 coX12_143 ?_
      exact ev_reti dX12_says_39 rfl rfl (⟨rfl, md_XS hX0, hf1⟩)
    · skip
      refine ev_iload_n (i := 3) dX12_says_28 rfl rfl ?_
      refine ev_iconst (v := 0) dX12_says_29 cni_0 ?_
      refine ev_iconst (v := 1) dX12_says_30 cni_1 ?_
      refine ev_c3 kX12_says_31 (c13_in) trivial (by decide) (by decide) (Nat.le_of_ble_eq_true rfl) ?_
      refine ev_if_neb (tgt := 40) dX12_says_34 (by decide) (fun h34 => False.elim (by rw [h15, h25, h34] at h; cases h)) (fun h34 => ?_)
      refine ev_ldc dX12_says_37 coX12_143 ?_
      exact ev_reti dX12_says_39 rfl rfl (⟨rfl, md_XS hX0, hf1⟩)
theorem sb_wreck_c {tu o o2 : Nat → Int32} {wide : Int32} (h : ∀ q, q < 7 → o q = o2 q) : sb_wreck tu o wide = sb_wreck tu o2 wide := by
  funext k; unfold sb_wreck; rw [h 0 (by omega), h 2 (by omega), h 3 (by omega), h 4 (by omega), h 6 (by omega)]
theorem bw_20 {k : Nat} {wide : Int32} (hk : k ≤ 50) (h : 0 ≤ wide.toInt ∧ wide.toInt ≤ 9) : bw_ok (nI (20 + k)) wide := ⟨by rw [nI_toInt (by omega)]; omega, h⟩
theorem lm_wreck {G : ev_G} {n : Nat} {M : ev_M} {tn c0 c1 c2 sh : Nat} {tx s kp bw ar tu : Nat → Int32} {k0 k1 : Bool} {tr : Int64} {one gof dof act : Nat → Int32} {up dn : Int64} (hs : sk_ok one) (ht : tu_ok tu) {j : Nat} {wide w : Int32} (hwi : 0 ≤ wide.toInt ∧ wide.toInt ≤ 9) : ∀ (m k : Nat) (M1 : ev_M) (sp of' ba go dr ki : Int32), k + m = 51 → md_X M1 tn c0 c1 c2 sh tx s kp bw ar tu k0 k1 tr one gof dof act sp of' ba go dr ki up dn → (∀ k, k < 129 → M1 k = M k) → ev_E G mX12_wreck 5 0 0 n M1 51 [some (.ref 129), some (.int (nI j)), some (.int wide), some (.int w), some (.int (sp_first (sb_wreck tu one wide) sb_v20 (-9) k)), some (.int (sp_last (sb_wreck tu one wide) sb_v20 (-9) k)), some (.int (nI (20 + k)))] [] (md_is M (.int (if w = 0 then sp_first (sb_wreck tu one wide) sb_v20 (-9) 51 else sp_last (sb_wreck tu one wide) sb_v20 (-9) 51)) tn c0 c1 c2 sh tx s kp bw ar tu k0 k1 tr) := by
  intro m
  induction m with
  | zero =>
    intro k M1 sp of' ba go dr ki hk hX0 hf1
    refine ev_iload dX12_wreck_51 rfl ?_
    refine ev_bipush (v := 71) dX12_wreck_53 cnb_71 ?_
    refine ev_icmp_ge (tgt := 99) dX12_wreck_55 (by decide) (fun h55 => ?_) (fun h55 => False.elim (Int32.not_le.mpr h55 (nI_le (a := 71) (b := 20 + k) (by omega) (by omega))))
    obtain rfl : k = 51 := by omega
    refine ev_iload_n (i := 3) dX12_wreck_99 rfl rfl ?_
    refine ev_if_ne (tgt := 108) dX12_wreck_100 (by decide) (fun h100 => ?_) (fun h100 => ?_)
    · skip
      refine ev_iload dX12_wreck_108 rfl ?_
      exact ev_reti dX12_wreck_110 rfl rfl (⟨by first | rw [if_pos h100] | rw [if_neg h100], md_XS hX0, hf1⟩)
    · skip
      refine ev_iload dX12_wreck_103 rfl ?_
      refine ev_goto (tgt := 110) dX12_wreck_105 (by decide) ?_
      exact ev_reti dX12_wreck_110 rfl rfl (⟨by first | rw [if_pos h100] | rw [if_neg h100], md_XS hX0, hf1⟩)
  | succ m ih =>
    intro k M1 sp of' ba go dr ki hk hX0 hf1
    have hX := hX0
    obtain ⟨th, nx, tk, pl, va, fa, d0, d1, d2, dS, dB, dA, ik, h129, h130, h131, h132, h133, hk0, hk1, h134, h135, h136, h137, h138, h139, h140, h141, h142, h143, hsh⟩ := hX
    refine ev_iload dX12_wreck_51 rfl ?_
    refine ev_bipush (v := 71) dX12_wreck_53 cnb_71 ?_
    refine ev_icmp_ge (tgt := 99) dX12_wreck_55 (by decide) (fun h55 => False.elim (nI_ge (a := 20 + k) (b := 71) (by omega) (by decide) h55)) (fun h55 => ?_)
    refine ev_aload_n (i := 0) dX12_wreck_58 rfl rfl ?_
    refine ev_iload dX12_wreck_59 rfl ?_
    refine ev_iload_n (i := 2) dX12_wreck_61 rfl rfl ?_
    refine ev_d3 kX12_wreck_62 (m_flies hX0 hs (bw_20 (by omega) hwi) ht) (ev_rv_of (by assumption) rfl rfl) (by decide) (by decide) (Nat.le_of_ble_eq_true rfl) ?_
    intro r M2 hr
    obtain ⟨rfl, hX, hf2⟩ := hr
    have hX3 := hX
    obtain ⟨th, nx, tk, pl, va, fa, d0, d1, d2, dS, dB, dA, ik, h129, h130, h131, h132, h133, hk0, hk1, h134, h135, h136, h137, h138, h139, h140, h141, h142, h143, hsh⟩ := hX
    refine ev_aload_n (i := 0) dX12_wreck_65 rfl rfl ?_
    refine ev_getf dX12_wreck_66 flX12_162 (by assumption) (by rfl) ?_
    refine ev_iconst (v := 1) dX12_wreck_69 cni_1 ?_
    refine ev_icmp_ne (tgt := 93) dX12_wreck_70 (by decide) (fun h70 => ?_) (fun h70 => ?_)
    · skip
      refine ev_iinc (v := nI (20 + (k + 1))) dX12_wreck_93 rfl (nI_1 (20 + k)) (Nat.le_of_ble_eq_true rfl) rfl ?_
      refine ev_goto (tgt := 51) dX12_wreck_96 (by decide) ?_
      refine ev_loc (L2 := [some (.ref 129), some (.int (nI j)), some (.int wide), some (.int w), some (.int (sp_first (sb_wreck tu one wide) sb_v20 (-9) (k + 1))), some (.int (sp_last (sb_wreck tu one wide) sb_v20 (-9) (k + 1))), some (.int (nI (20 + (k + 1))))]) (by first | (rw [sp_first_1 (P := (sb_wreck tu one wide)) (v := sb_v20) (z := (-9)) (k := k) (sp_clean_t h70) h77, sp_last_1 (P := (sb_wreck tu one wide)) (v := sb_v20) (z := (-9)) (k := k) (sp_clean_t h70)]; rfl) | (rw [sp_first_2 (P := (sb_wreck tu one wide)) (v := sb_v20) (z := (-9)) (k := k) (sp_clean_t h70) h77, sp_last_1 (P := (sb_wreck tu one wide)) (v := sb_v20) (z := (-9)) (k := k) (sp_clean_t h70)]; rfl) | (rw [sp_first_0 (P := (sb_wreck tu one wide)) (v := sb_v20) (z := (-9)) (k := k) (sp_clean_f h70), sp_last_0 (P := (sb_wreck tu one wide)) (v := sb_v20) (z := (-9)) (k := k) (sp_clean_f h70)]; rfl)) (ih (k + 1) M2 _ _ _ _ _ _ (by omega) hX3 (fun k hk => (hf2 k hk).trans (hf1 k hk)))
    · skip
      refine ev_iload dX12_wreck_73 rfl ?_
      refine ev_bipush (v := (-9)) dX12_wreck_75 cnb_m9 ?_
      refine ev_icmp_ne (tgt := 85) dX12_wreck_77 (by decide) (fun h77 => ?_) (fun h77 => ?_)
      · skip
        refine ev_iload dX12_wreck_85 rfl ?_
        refine ev_istore dX12_wreck_87 (Nat.le_of_ble_eq_true rfl) rfl ?_
        refine ev_iload dX12_wreck_89 rfl ?_
        refine ev_istore dX12_wreck_91 (Nat.le_of_ble_eq_true rfl) rfl ?_
        refine ev_iinc (v := nI (20 + (k + 1))) dX12_wreck_93 rfl (nI_1 (20 + k)) (Nat.le_of_ble_eq_true rfl) rfl ?_
        refine ev_goto (tgt := 51) dX12_wreck_96 (by decide) ?_
        refine ev_loc (L2 := [some (.ref 129), some (.int (nI j)), some (.int wide), some (.int w), some (.int (sp_first (sb_wreck tu one wide) sb_v20 (-9) (k + 1))), some (.int (sp_last (sb_wreck tu one wide) sb_v20 (-9) (k + 1))), some (.int (nI (20 + (k + 1))))]) (by first | (rw [sp_first_1 (P := (sb_wreck tu one wide)) (v := sb_v20) (z := (-9)) (k := k) (sp_clean_t h70) h77, sp_last_1 (P := (sb_wreck tu one wide)) (v := sb_v20) (z := (-9)) (k := k) (sp_clean_t h70)]; rfl) | (rw [sp_first_2 (P := (sb_wreck tu one wide)) (v := sb_v20) (z := (-9)) (k := k) (sp_clean_t h70) h77, sp_last_1 (P := (sb_wreck tu one wide)) (v := sb_v20) (z := (-9)) (k := k) (sp_clean_t h70)]; rfl) | (rw [sp_first_0 (P := (sb_wreck tu one wide)) (v := sb_v20) (z := (-9)) (k := k) (sp_clean_f h70), sp_last_0 (P := (sb_wreck tu one wide)) (v := sb_v20) (z := (-9)) (k := k) (sp_clean_f h70)]; rfl)) (ih (k + 1) M2 _ _ _ _ _ _ (by omega) hX3 (fun k hk => (hf2 k hk).trans (hf1 k hk)))
      · skip
        refine ev_iload dX12_wreck_80 rfl ?_
        refine ev_goto (tgt := 87) dX12_wreck_82 (by decide) ?_
        refine ev_istore dX12_wreck_87 (Nat.le_of_ble_eq_true rfl) rfl ?_
        refine ev_iload dX12_wreck_89 rfl ?_
        refine ev_istore dX12_wreck_91 (Nat.le_of_ble_eq_true rfl) rfl ?_
        refine ev_iinc (v := nI (20 + (k + 1))) dX12_wreck_93 rfl (nI_1 (20 + k)) (Nat.le_of_ble_eq_true rfl) rfl ?_
        refine ev_goto (tgt := 51) dX12_wreck_96 (by decide) ?_
        refine ev_loc (L2 := [some (.ref 129), some (.int (nI j)), some (.int wide), some (.int w), some (.int (sp_first (sb_wreck tu one wide) sb_v20 (-9) (k + 1))), some (.int (sp_last (sb_wreck tu one wide) sb_v20 (-9) (k + 1))), some (.int (nI (20 + (k + 1))))]) (by first | (rw [sp_first_1 (P := (sb_wreck tu one wide)) (v := sb_v20) (z := (-9)) (k := k) (sp_clean_t h70) h77, sp_last_1 (P := (sb_wreck tu one wide)) (v := sb_v20) (z := (-9)) (k := k) (sp_clean_t h70)]; rfl) | (rw [sp_first_2 (P := (sb_wreck tu one wide)) (v := sb_v20) (z := (-9)) (k := k) (sp_clean_t h70) h77, sp_last_1 (P := (sb_wreck tu one wide)) (v := sb_v20) (z := (-9)) (k := k) (sp_clean_t h70)]; rfl) | (rw [sp_first_0 (P := (sb_wreck tu one wide)) (v := sb_v20) (z := (-9)) (k := k) (sp_clean_f h70), sp_last_0 (P := (sb_wreck tu one wide)) (v := sb_v20) (z := (-9)) (k := k) (sp_clean_f h70)]; rfl)) (ih (k + 1) M2 _ _ _ _ _ _ (by omega) hX3 (fun k hk => (hf2 k hk).trans (hf1 k hk)))
theorem m_wreck {G : ev_G} {n : Nat} {M : ev_M} {tn c0 c1 c2 sh : Nat} {tx s kp bw ar tu : Nat → Int32} {k0 k1 : Bool} {tr : Int64} (hM : md_S M tn c0 c1 c2 sh tx s kp bw ar tu k0 k1 tr) {j : Nat} (hj : j < c0) (hc : c0 ≤ 12) (hs : sk_ok (fun q => s (7 * j + q))) (ht : tu_ok tu) {wide w : Int32} (hwi : sp_in wide 0 9 = true) (hw1 : sp_in w 0 1 = true) : ev_Cal G mX12_wreck 5 0 0 [.ref 129, .int (nI j), .int wide, .int w] n M (md_is M (.int (if w = 0 then sp_first (sb_wreck tu (fun q => s (7 * j + q)) wide) sb_v20 (-9) 51 else sp_last (sb_wreck tu (fun q => s (7 * j + q)) wide) sb_v20 (-9) 51)) tn c0 c1 c2 sh tx s kp bw ar tu k0 k1 tr) := by
  refine ev_Cal_of (L := [some (.ref 129), some (.int (nI j)), some (.int wide), some (.int w), none, none, none]) (by decide +kernel) (Nat.le_of_ble_eq_true rfl) rfl ?_
  refine md_thr hM dX12_wreck_0 dX12_wreck_1 dX12_wreck_2 rfl rfl (fun M1 hM1 hf1 => ?_)
  obtain ⟨one, gof, dof, act, sp, of', ba, go, dr, ki, up, dn, hX⟩ := md_SX hM1
  have hX0 := hX
  obtain ⟨th, nx, tk, pl, va, fa, d0, d1, d2, dS, dB, dA, ik, h129, h130, h131, h132, h133, hk0, hk1, h134, h135, h136, h137, h138, h139, h140, h141, h142, h143, hsh⟩ := hX
  refine ev_aload_n (i := 0) dX12_wreck_5 rfl rfl ?_
  refine ev_iload_n (i := 1) dX12_wreck_6 rfl rfl ?_
  refine ev_c2 kX12_wreck_7 (c13_isStick h129) (ev_rv_of (by assumption) rfl rfl) (by decide) (by decide) (Nat.le_of_ble_eq_true rfl) ?_
  refine ev_if_eqb (tgt := 32) dX12_wreck_10 (by decide) (fun h10 => False.elim (Bool.false_ne_true (h10.symm.trans (sp_in_ix hj (by omega))))) (fun h10 => ?_)
  refine ev_iload_n (i := 2) dX12_wreck_13 rfl rfl ?_
  refine ev_iconst (v := 0) dX12_wreck_14 cni_0 ?_
  refine ev_bipush (v := 9) dX12_wreck_15 cnb_9 ?_
  refine ev_c3 kX12_wreck_17 (c13_in) trivial (by decide) (by decide) (Nat.le_of_ble_eq_true rfl) ?_
  refine ev_if_eqb (tgt := 32) dX12_wreck_20 (by decide) (fun h20 => False.elim (Bool.false_ne_true (h20.symm.trans (hwi)))) (fun h20 => ?_)
  refine ev_iload_n (i := 3) dX12_wreck_23 rfl rfl ?_
  refine ev_iconst (v := 0) dX12_wreck_24 cni_0 ?_
  refine ev_iconst (v := 1) dX12_wreck_25 cni_1 ?_
  refine ev_c3 kX12_wreck_26 (c13_in) trivial (by decide) (by decide) (Nat.le_of_ble_eq_true rfl) ?_
  refine ev_if_neb (tgt := 34) dX12_wreck_29 (by decide) (fun h29 => ?_) (fun h29 => False.elim (Bool.false_ne_true (h29.symm.trans (hw1))))
  refine ev_aload_n (i := 0) dX12_wreck_34 rfl rfl ?_
  refine ev_iload_n (i := 1) dX12_wreck_35 rfl rfl ?_
  refine ev_d2 kX12_wreck_36 (m_lays hX0 hj hc) (ev_rv_of (by assumption) rfl rfl) (by decide) (by decide) (Nat.le_of_ble_eq_true rfl) ?_
  intro r M2 hr
  obtain ⟨rfl, ⟨o2, ho, hX⟩, hf2⟩ := hr
  have hX0 := hX
  obtain ⟨th, nx, tk, pl, va, fa, d0, d1, d2, dS, dB, dA, ik, h129, h130, h131, h132, h133, hk0, hk1, h134, h135, h136, h137, h138, h139, h140, h141, h142, h143, hsh⟩ := hX
  refine ev_bipush (v := (-9)) dX12_wreck_39 cnb_m9 ?_
  refine ev_istore dX12_wreck_41 (Nat.le_of_ble_eq_true rfl) rfl ?_
  refine ev_bipush (v := (-9)) dX12_wreck_43 cnb_m9 ?_
  refine ev_istore dX12_wreck_45 (Nat.le_of_ble_eq_true rfl) rfl ?_
  refine ev_bipush (v := 20) dX12_wreck_47 cnb_20 ?_
  refine ev_istore dX12_wreck_49 (Nat.le_of_ble_eq_true rfl) rfl ?_
  rw [← sb_wreck_c ho]
  exact lm_wreck (sk_congr ho hs) ht (sp_in_to hwi (by decide +kernel) (by decide +kernel)) 51 0 M2 _ _ _ _ _ _ rfl hX0 (fun k hk => (hf2 k hk).trans (hf1 k hk))
theorem m_wreck_no {G : ev_G} {n : Nat} {M : ev_M} {tn c0 c1 c2 sh : Nat} {tx s kp bw ar tu : Nat → Int32} {k0 k1 : Bool} {tr : Int64} (hM : md_S M tn c0 c1 c2 sh tx s kp bw ar tu k0 k1 tr) {x wide w : Int32} (h : (sp_in x 0 (nI c0 - 1) && sp_in wide 0 9 && sp_in w 0 1) = false) : ev_Cal G mX12_wreck 5 0 0 [.ref 129, .int x, .int wide, .int w] n M (md_is M (.int (-1)) tn c0 c1 c2 sh tx s kp bw ar tu k0 k1 tr) := by
  refine ev_Cal_of (L := [some (.ref 129), some (.int x), some (.int wide), some (.int w), none, none, none]) (by decide +kernel) (Nat.le_of_ble_eq_true rfl) rfl ?_
  refine md_thr hM dX12_wreck_0 dX12_wreck_1 dX12_wreck_2 rfl rfl (fun M1 hM1 hf1 => ?_)
  obtain ⟨one, gof, dof, act, sp, of', ba, go, dr, ki, up, dn, hX⟩ := md_SX hM1
  have hX0 := hX
  obtain ⟨th, nx, tk, pl, va, fa, d0, d1, d2, dS, dB, dA, ik, h129, h130, h131, h132, h133, hk0, hk1, h134, h135, h136, h137, h138, h139, h140, h141, h142, h143, hsh⟩ := hX
  refine ev_aload_n (i := 0) dX12_wreck_5 rfl rfl ?_
  refine ev_iload_n (i := 1) dX12_wreck_6 rfl rfl ?_
  refine ev_c2 kX12_wreck_7 (c13_isStick h129) (ev_rv_of (by assumption) rfl rfl) (by decide) (by decide) (Nat.le_of_ble_eq_true rfl) ?_
  refine ev_if_eqb (tgt := 32) dX12_wreck_10 (by decide) (fun h10 => ?_) (fun h10 => ?_)
  · skip
    refine ev_iconst (v := (-1)) dX12_wreck_32 cni_m1 ?_
    exact ev_reti dX12_wreck_33 rfl rfl (⟨rfl, md_XS hX0, hf1⟩)
  · skip
    refine ev_iload_n (i := 2) dX12_wreck_13 rfl rfl ?_
    refine ev_iconst (v := 0) dX12_wreck_14 cni_0 ?_
    refine ev_bipush (v := 9) dX12_wreck_15 cnb_9 ?_
    refine ev_c3 kX12_wreck_17 (c13_in) trivial (by decide) (by decide) (Nat.le_of_ble_eq_true rfl) ?_
    refine ev_if_eqb (tgt := 32) dX12_wreck_20 (by decide) (fun h20 => ?_) (fun h20 => ?_)
    · skip
      refine ev_iconst (v := (-1)) dX12_wreck_32 cni_m1 ?_
      exact ev_reti dX12_wreck_33 rfl rfl (⟨rfl, md_XS hX0, hf1⟩)
    · skip
      refine ev_iload_n (i := 3) dX12_wreck_23 rfl rfl ?_
      refine ev_iconst (v := 0) dX12_wreck_24 cni_0 ?_
      refine ev_iconst (v := 1) dX12_wreck_25 cni_1 ?_
      refine ev_c3 kX12_wreck_26 (c13_in) trivial (by decide) (by decide) (Nat.le_of_ble_eq_true rfl) ?_
      refine ev_if_neb (tgt := 34) dX12_wreck_29 (by decide) (fun h29 => False.elim (by rw [h10, h20, h29] at h; cases h)) (fun h29 => ?_)
      refine ev_iconst (v := (-1)) dX12_wreck_32 cni_m1 ?_
      exact ev_reti dX12_wreck_33 rfl rfl (⟨rfl, md_XS hX0, hf1⟩)
