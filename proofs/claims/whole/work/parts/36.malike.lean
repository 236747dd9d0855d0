/-! ===== contracts: the model, alike and turned ===== -/
def fl_GO (tu s : Nat → Int32) (dr wi : Int32) (k : Nat) : Int32 := fl_V tu s dr wi (k / 2) (nI (k % 2))
theorem fl_GO_2 {tu s : Nat → Int32} {dr wi : Int32} {i w : Nat} (hw : w < 2) : fl_GO tu s dr wi (2 * i + w) = fl_V tu s dr wi i (nI w) := by
  unfold fl_GO; rw [show (2 * i + w) / 2 = i by omega, show (2 * i + w) % 2 = w by omega]
theorem fl_V_of {tu s o2 : Nat → Int32} {dr wi x : Int32} {i : Nat} (ho : ∀ q, q < 7 → o2 q = s (7 * i + q)) : fx_go tu (upd o2 6 x) dr wi = fl_V tu s dr wi i x := by
  unfold fx_go fx_of fx_sp fl_V
  show sp_goes (tu 0) (tu 1) (tu 2) (tu 3) (sp_spine (sp_stiff (o2 2) (o2 3) x) (o2 0) (o2 4) - sp_need dr wi) (o2 5) (o2 1 + o2 4) = _
  rw [ho 0 (by omega), ho 1 (by omega), ho 2 (by omega), ho 3 (by omega), ho 4 (by omega), ho 5 (by omega)]
theorem fl_D_of {s o2 : Nat → Int32} {dr x : Int32} {i : Nat} (ho : ∀ q, q < 7 → o2 q = s (7 * i + q)) : fx_dr (upd o2 6 x) dr = fl_D s dr i := by
  unfold fx_dr fl_D
  show sp_drop (o2 1 + o2 4) dr (o2 5) = _
  rw [ho 1 (by omega), ho 4 (by omega), ho 5 (by omega)]
theorem sk_upd6 {o : Nat → Int32} {k : Nat} (hk : k < 2) (h : sk_ok o) : sk_ok (upd o 6 (nI k)) := by
  refine ⟨h.1, h.2.1, h.2.2.1, h.2.2.2.1, h.2.2.2.2.1, h.2.2.2.2.2.1, ?_⟩
  show nI k = 0 ∨ nI k = 1
  match k, hk with
  | 0, _ => exact Or.inl rfl
  | 1, _ => exact Or.inr rfl
/-- the lists of the first i sticks are made -/
def md_g2 (M : ev_M) (tn c0 c1 c2 sh : Nat) (tx s kp bw ar tu : Nat → Int32) (k0 k1 : Bool) (tr : Int64) (dr0 wi0 : Int32) (i : Nat) : Prop := ∃ (one gof dof act : Nat → Int32) (sp of' ba go dr ki : Int32) (up dn : Int64), md_X M tn c0 c1 c2 sh tx s kp bw ar tu k0 k1 tr one gof dof act sp of' ba go dr ki up dn ∧ (∀ k, k < 2 * i → gof k = fl_GO tu s dr0 wi0 k) ∧ ∀ k, k < i → dof k = fl_D s dr0 k
def md_go (M : ev_M) (tn c0 c1 c2 sh : Nat) (tx s kp bw ar tu : Nat → Int32) (k0 k1 : Bool) (tr : Int64) (dr0 wi0 : Int32) : Prop := md_g2 M tn c0 c1 c2 sh tx s kp bw ar tu k0 k1 tr dr0 wi0 c0
theorem md_goS {M : ev_M} {tn c0 c1 c2 sh : Nat} {tx s kp bw ar tu : Nat → Int32} {k0 k1 : Bool} {tr : Int64} {dr0 wi0 : Int32} (h : md_go M tn c0 c1 c2 sh tx s kp bw ar tu k0 k1 tr dr0 wi0) : md_S M tn c0 c1 c2 sh tx s kp bw ar tu k0 k1 tr := by
  obtain ⟨one, gof, dof, act, sp, of', ba, go, dr, ki, up, dn, hX1, hg⟩ := h
  exact md_XS hX1
theorem l_fliesAll_b {G : ev_G} {n : Nat} {M : ev_M} {tn c0 c1 c2 sh : Nat} {tx s kp bw ar tu : Nat → Int32} {k0 k1 : Bool} {tr : Int64} {one gof dof act : Nat → Int32} {sp of' ba go dr ki : Int32} {up dn : Int64} (hX0 : md_X M tn c0 c1 c2 sh tx s kp bw ar tu k0 k1 tr one gof dof act sp of' ba go dr ki up dn) {b : Nat} (hb : b < c1) (hc1 : c1 ≤ 3) (hc : c0 ≤ 12) (hs : ∀ i, i < c0 → sk_ok (fun q => s (7 * i + q))) (hw : bw_ok (bw (2 * b)) (bw (2 * b + 1))) (ht : tu_ok tu) {Post : Option Value → ev_M → Prop} {i sd : Nat} (hi : i < c0) (hsd : sd < 2) (K : ∀ (M2 : ev_M) (one : Nat → Int32) (sp of' ba go dr ki : Int32), md_X M2 tn c0 c1 c2 sh tx s kp bw ar tu k0 k1 tr one (upd gof (2 * i + sd) (fl_V tu s (bw (2 * b)) (bw (2 * b + 1)) i (nI sd))) (upd dof i (fl_D s (bw (2 * b)) i)) act sp of' ba go dr ki up dn → (∀ k, k < 129 → M2 k = M k) → ev_E G mX12_fliesAll 5 0 0 n M2 76 [some (.ref 129), some (.int (nI b)), some (.int (nI i)), some (.int (nI sd))] [] Post) : ev_E G mX12_fliesAll 5 0 0 n M 17 [some (.ref 129), some (.int (nI b)), some (.int (nI i)), some (.int (nI sd))] [] Post := by
  have hX := hX0
  obtain ⟨th, nx, tk, pl, va, fa, d0, d1, d2, dS, dB, dA, ik, h129, h130, h131, h132, h133, hk0, hk1, h134, h135, h136, h137, h138, h139, h140, h141, h142, h143, hsh⟩ := hX
  refine ev_aload_n (i := 0) dX12_fliesAll_17 rfl rfl ?_
  refine ev_iload_n (i := 2) dX12_fliesAll_18 rfl rfl ?_
  refine ev_d2 kX12_fliesAll_19 (m_lays (j := i) hX0 hi hc) (ev_rv_of (by assumption) rfl rfl) (by decide) (by decide) (Nat.le_of_ble_eq_true rfl) ?_
  intro r M2 hr
  obtain ⟨rfl, ⟨o2, ho, hX⟩, hf2⟩ := hr
  have hX0 := hX
  obtain ⟨th, nx, tk, pl, va, fa, d0, d1, d2, dS, dB, dA, ik, h129, h130, h131, h132, h133, hk0, hk1, h134, h135, h136, h137, h138, h139, h140, h141, h142, h143, hsh⟩ := hX
  refine ev_aload_n (i := 0) dX12_fliesAll_22 rfl rfl ?_
  refine ev_getf dX12_fliesAll_23 flX12_41 (by assumption) (by rfl) ?_
  refine ev_bipush (v := 6) dX12_fliesAll_26 cnb_6 ?_
  refine ev_iload_n (i := 3) dX12_fliesAll_28 rfl rfl ?_
  refine md_st140 hX0 (j := 6) dX12_fliesAll_29 (ev_ixc (j := 6) rfl (by decide)) (by decide) (fun M3 hX hf3 => ?_)
  have hX0 := hX
  obtain ⟨th, nx, tk, pl, va, fa, d0, d1, d2, dS, dB, dA, ik, h129, h130, h131, h132, h133, hk0, hk1, h134, h135, h136, h137, h138, h139, h140, h141, h142, h143, hsh⟩ := hX
  refine ev_aload_n (i := 0) dX12_fliesAll_30 rfl rfl ?_
  refine ev_aload_n (i := 0) dX12_fliesAll_31 rfl rfl ?_
  refine ev_getf dX12_fliesAll_32 flX12_23 (by assumption) (by rfl) ?_
  refine ev_iconst (v := 2) dX12_fliesAll_35 cni_2 ?_
  refine ev_iload_n (i := 1) dX12_fliesAll_36 rfl rfl ?_
  refine ev_imul dX12_fliesAll_37 ?_
  refine ev_iald (j := 2 * b) dX12_fliesAll_38 (by assumption) (ev_ix20 b (by omega)) (by omega) ?_
  refine ev_aload_n (i := 0) dX12_fliesAll_39 rfl rfl ?_
  refine ev_getf dX12_fliesAll_40 flX12_23 (by assumption) (by rfl) ?_
  refine ev_iconst (v := 2) dX12_fliesAll_43 cni_2 ?_
  refine ev_iload_n (i := 1) dX12_fliesAll_44 rfl rfl ?_
  refine ev_imul dX12_fliesAll_45 ?_
  refine ev_iconst (v := 1) dX12_fliesAll_46 cni_1 ?_
  refine ev_iadd dX12_fliesAll_47 ?_
  refine ev_iald (j := 2 * b + 1) dX12_fliesAll_48 (by assumption) (ev_ix2 b 1 (by omega)) (by omega) ?_
  refine ev_d3 kX12_fliesAll_49 (m_flies hX0 (sk_upd6 hsd (sk_congr ho (hs i hi))) hw ht) (ev_rv_of (by assumption) rfl rfl) (by decide) (by decide) (Nat.le_of_ble_eq_true rfl) ?_
  intro r M4 hr
  obtain ⟨rfl, hX, hf4⟩ := hr
  have hX0 := hX
  obtain ⟨th, nx, tk, pl, va, fa, d0, d1, d2, dS, dB, dA, ik, h129, h130, h131, h132, h133, hk0, hk1, h134, h135, h136, h137, h138, h139, h140, h141, h142, h143, hsh⟩ := hX
  refine ev_aload_n (i := 0) dX12_fliesAll_52 rfl rfl ?_
  refine ev_getf dX12_fliesAll_53 flX12_44 (by assumption) (by rfl) ?_
  refine ev_iconst (v := 2) dX12_fliesAll_56 cni_2 ?_
  refine ev_iload_n (i := 2) dX12_fliesAll_57 rfl rfl ?_
  refine ev_imul dX12_fliesAll_58 ?_
  refine ev_iload_n (i := 3) dX12_fliesAll_59 rfl rfl ?_
  refine ev_iadd dX12_fliesAll_60 ?_
  refine ev_aload_n (i := 0) dX12_fliesAll_61 rfl rfl ?_
  refine ev_getf dX12_fliesAll_62 flX12_183 (by assumption) (by rfl) ?_
  refine md_st141 hX0 (j := 2 * i + sd) dX12_fliesAll_65 (ev_ix2 i sd (by omega)) (by omega) (fun M5 hX hf5 => ?_)
  have hX0 := hX
  obtain ⟨th, nx, tk, pl, va, fa, d0, d1, d2, dS, dB, dA, ik, h129, h130, h131, h132, h133, hk0, hk1, h134, h135, h136, h137, h138, h139, h140, h141, h142, h143, hsh⟩ := hX
  refine ev_aload_n (i := 0) dX12_fliesAll_66 rfl rfl ?_
  refine ev_getf dX12_fliesAll_67 flX12_47 (by assumption) (by rfl) ?_
  refine ev_iload_n (i := 2) dX12_fliesAll_70 rfl rfl ?_
  refine ev_aload_n (i := 0) dX12_fliesAll_71 rfl rfl ?_
  refine ev_getf dX12_fliesAll_72 flX12_186 (by assumption) (by rfl) ?_
  refine md_st142 hX0 (j := i) dX12_fliesAll_75 (ev_ix_nI (by omega)) (by omega) (fun M6 hX hf6 => ?_)
  have hX0 := hX
  obtain ⟨th, nx, tk, pl, va, fa, d0, d1, d2, dS, dB, dA, ik, h129, h130, h131, h132, h133, hk0, hk1, h134, h135, h136, h137, h138, h139, h140, h141, h142, h143, hsh⟩ := hX
  rw [fl_V_of ho, fl_D_of ho] at hX0
  exact K M6 _ _ _ _ _ _ _ hX0 (fun k hk => (hf6 k hk).trans ((hf5 k hk).trans ((hf4 k hk).trans ((hf3 k hk).trans (hf2 k hk)))))
theorem fl_mk {tu s gof : Nat → Int32} {dr wi : Int32} {i : Nat} (h : ∀ k, k < 2 * i → gof k = fl_GO tu s dr wi k) : ∀ k, k < 2 * i + 2 → upd (upd gof (2 * i + 0) (fl_V tu s dr wi i (nI 0))) (2 * i + 1) (fl_V tu s dr wi i (nI 1)) k = fl_GO tu s dr wi k := by
  intro k hk
  simp only [upd]
  by_cases h1 : k = 2 * i + 1
  · rw [if_pos h1, h1, fl_GO_2 (by omega)]
  · rw [if_neg h1]
    by_cases h2 : k = 2 * i + 0
    · rw [if_pos h2, h2, fl_GO_2 (by omega)]
    · rw [if_neg h2]; exact h k (by omega)
theorem fl_mkd {s dof : Nat → Int32} {dr x : Int32} {i : Nat} (h : ∀ k, k < i → dof k = fl_D s dr k) : ∀ k, k < i + 1 → upd (upd dof i x) i (fl_D s dr i) k = fl_D s dr k := by
  intro k hk
  simp only [upd]
  by_cases h1 : k = i
  · rw [if_pos h1, h1]
  · rw [if_neg h1, if_neg h1]; exact h k (by omega)
theorem l_fliesAll {G : ev_G} {n : Nat} {M : ev_M} {tn c0 c1 c2 sh : Nat} {tx s kp bw ar tu : Nat → Int32} {k0 k1 : Bool} {tr : Int64} {b : Nat} (hb : b < c1) (hc1 : c1 ≤ 3) (hc : c0 ≤ 12) (hs : ∀ i, i < c0 → sk_ok (fun q => s (7 * i + q))) (hw : bw_ok (bw (2 * b)) (bw (2 * b + 1))) (ht : tu_ok tu) : ∀ (m i : Nat) (M1 : ev_M) (z : Option Value), i + m = c0 → md_g2 M1 tn c0 c1 c2 sh tx s kp bw ar tu k0 k1 tr (bw (2 * b)) (bw (2 * b + 1)) i → (∀ k, k < 129 → M1 k = M k) → ev_E G mX12_fliesAll 5 0 0 n M1 2 [some (.ref 129), some (.int (nI b)), some (.int (nI i)), z] [] (fun r M2 => r = none ∧ md_go M2 tn c0 c1 c2 sh tx s kp bw ar tu k0 k1 tr (bw (2 * b)) (bw (2 * b + 1)) ∧ ∀ k, k < 129 → M2 k = M k) := by
  intro m
  induction m with
  | zero =>
    intro i M1 z hk hG0 hf1
    obtain ⟨one, gof, dof, act, sp, of', ba, go, dr, ki, up, dn, hX1, hg⟩ := (show md_g2 M1 tn c0 c1 c2 sh tx s kp bw ar tu k0 k1 tr (bw (2 * b)) (bw (2 * b + 1)) i from hG0)
    have hX := hX1
    obtain ⟨th, nx, tk, pl, va, fa, d0, d1, d2, dS, dB, dA, ik, h129, h130, h131, h132, h133, hk0, hk1, h134, h135, h136, h137, h138, h139, h140, h141, h142, h143, hsh⟩ := hX
    refine ev_iload_n (i := 2) dX12_fliesAll_2 rfl rfl ?_
    refine ev_aload_n (i := 0) dX12_fliesAll_3 rfl rfl ?_
    refine ev_getf dX12_fliesAll_4 flX12_127 (by assumption) (by rfl) ?_
    refine ev_icmp_ge (tgt := 88) dX12_fliesAll_7 (by decide) (fun h7 => ?_) (fun h7 => False.elim (Int32.not_le.mpr h7 (nI_le (a := c0) (b := i) (by omega) (by omega))))
    exact ev_retv dX12_fliesAll_88 rfl (⟨rfl, by have e : i = c0 := (by omega); subst e; exact hG0, hf1⟩)
  | succ m ih =>
    intro i M1 z hk hG0 hf1
    obtain ⟨one, gof, dof, act, sp, of', ba, go, dr, ki, up, dn, hX1, hg⟩ := hG0
    have hX := hX1
    obtain ⟨th, nx, tk, pl, va, fa, d0, d1, d2, dS, dB, dA, ik, h129, h130, h131, h132, h133, hk0, hk1, h134, h135, h136, h137, h138, h139, h140, h141, h142, h143, hsh⟩ := hX
    refine ev_iload_n (i := 2) dX12_fliesAll_2 rfl rfl ?_
    refine ev_aload_n (i := 0) dX12_fliesAll_3 rfl rfl ?_
    refine ev_getf dX12_fliesAll_4 flX12_127 (by assumption) (by rfl) ?_
    refine ev_icmp_ge (tgt := 88) dX12_fliesAll_7 (by decide) (fun h7 => False.elim (nI_ge (a := i) (b := c0) (by omega) (by omega) h7)) (fun h7 => ?_)
    refine ev_iconst (v := 0) dX12_fliesAll_10 cni_0 ?_
    refine ev_istore_n (i := 3) dX12_fliesAll_11 rfl (Nat.le_of_ble_eq_true rfl) rfl ?_
    refine ev_iload_n (i := 3) dX12_fliesAll_12 rfl rfl ?_
    refine ev_iconst (v := 2) dX12_fliesAll_13 cni_2 ?_
    refine ev_icmp_ge (tgt := 82) dX12_fliesAll_14 (by decide) (fun h14 => False.elim (absurd h14 (by decide))) (fun h14 => ?_)
    refine l_fliesAll_b (sd := 0) hX1 hb hc1 hc hs hw ht (by omega) (by decide) (fun M2 one2 sp2 of2 ba2 go2 dr2 ki2 hX2 hf2 => ?_)
    have hX := hX2
    obtain ⟨th, nx, tk, pl, va, fa, d0, d1, d2, dS, dB, dA, ik, h129, h130, h131, h132, h133, hk0, hk1, h134, h135, h136, h137, h138, h139, h140, h141, h142, h143, hsh⟩ := hX
    refine ev_iinc (v := nI 1) dX12_fliesAll_76 rfl rfl (Nat.le_of_ble_eq_true rfl) rfl ?_
    refine ev_goto (tgt := 12) dX12_fliesAll_79 (by decide) ?_
    refine ev_iload_n (i := 3) dX12_fliesAll_12 rfl rfl ?_
    refine ev_iconst (v := 2) dX12_fliesAll_13 cni_2 ?_
    refine ev_icmp_ge (tgt := 82) dX12_fliesAll_14 (by decide) (fun h14 => False.elim (absurd h14 (by decide))) (fun h14 => ?_)
    refine l_fliesAll_b (sd := 1) hX2 hb hc1 hc hs hw ht (by omega) (by decide) (fun M3 one3 sp3 of3 ba3 go3 dr3 ki3 hX3 hf3 => ?_)
    refine ev_iinc (v := nI 2) dX12_fliesAll_76 rfl rfl (Nat.le_of_ble_eq_true rfl) rfl ?_
    refine ev_goto (tgt := 12) dX12_fliesAll_79 (by decide) ?_
    refine ev_iload_n (i := 3) dX12_fliesAll_12 rfl rfl ?_
    refine ev_iconst (v := 2) dX12_fliesAll_13 cni_2 ?_
    refine ev_icmp_ge (tgt := 82) dX12_fliesAll_14 (by decide) (fun h14 => ?_) (fun h14 => False.elim (absurd h14 (by decide)))
    refine ev_iinc (v := nI (i + 1)) dX12_fliesAll_82 rfl (nI_1 i) (Nat.le_of_ble_eq_true rfl) rfl ?_
    refine ev_goto (tgt := 2) dX12_fliesAll_85 (by decide) ?_
    refine ih (i + 1) M3 _ (by omega) ⟨_, _, _, _, _, _, _, _, _, _, _, _, hX3, ?_, ?_⟩ (fun k hk => (hf3 k hk).trans ((hf2 k hk).trans (hf1 k hk)))
    · intro k hk
      exact fl_mk hg.1 k (by omega)
    · intro k hk
      exact fl_mkd hg.2 k (by omega)
theorem m_fliesAll {G : ev_G} {n : Nat} {M : ev_M} {tn c0 c1 c2 sh : Nat} {tx s kp bw ar tu : Nat → Int32} {k0 k1 : Bool} {tr : Int64} {one gof dof act : Nat → Int32} {sp of' ba go dr ki : Int32} {up dn : Int64} (hX0 : md_X M tn c0 c1 c2 sh tx s kp bw ar tu k0 k1 tr one gof dof act sp of' ba go dr ki up dn) {b : Nat} (hb : b < c1) (hc1 : c1 ≤ 3) (hc : c0 ≤ 12) (hs : ∀ i, i < c0 → sk_ok (fun q => s (7 * i + q))) (hw : bw_ok (bw (2 * b)) (bw (2 * b + 1))) (ht : tu_ok tu)  : ev_Cal G mX12_fliesAll 5 0 0 [.ref 129, .int (nI b)] n M (fun r M2 => r = none ∧ md_go M2 tn c0 c1 c2 sh tx s kp bw ar tu k0 k1 tr (bw (2 * b)) (bw (2 * b + 1)) ∧ ∀ k, k < 129 → M2 k = M k) := by
  refine ev_Cal_of (L := [some (.ref 129), some (.int (nI b)), none, none]) (by decide +kernel) (Nat.le_of_ble_eq_true rfl) rfl ?_
  refine ev_iconst (v := 0) dX12_fliesAll_0 cni_0 ?_
  refine ev_istore_n (i := 2) dX12_fliesAll_1 rfl (Nat.le_of_ble_eq_true rfl) rfl ?_
  exact l_fliesAll hb hc1 hc hs hw ht c0 0 M _ (Nat.zero_add _) ⟨_, _, _, _, _, _, _, _, _, _, _, _, hX0, fun k hk => absurd hk (by omega), fun k hk => absurd hk (by omega)⟩ (fun _ _ => rfl)
/-! bits of a set -/
def al_t (S k : Nat) : Nat := S / 2 ^ k % 2
def al_pc (S : Nat) : Nat → Nat
  | 0 => 0
  | k + 1 => al_pc S k + al_t S k
theorem al_shr {S k : Nat} (hS : S < 2147483648) (hk : k < 12) : nI S >>> (nI k &&& 31) = nI (S / 2 ^ k) := by
  apply Int32.toInt_inj.mp
  have e : (nI S >>> (nI k &&& 31)).toInt = (nI S).toInt >>> (((nI k &&& 31).toBitVec.smod 32).toNat) := BitVec.toInt_sshiftRight'
  have e2 : ∀ k, k < 12 → (((nI k &&& 31).toBitVec.smod 32).toNat) = k := by decide +kernel
  rw [e, e2 k hk, nI_toInt hS, nI_toInt (Nat.lt_of_le_of_lt (Nat.div_le_self _ _) hS), Int.shiftRight_eq_div_pow]
  first | exact (Int.natCast_ediv _ _).symm | simp
theorem al_bv {T : Nat} (h : T < 2147483648) : (nI T).toBitVec.toNat = T := by show T % 2 ^ 32 = T; exact Nat.mod_eq_of_lt (by omega)
theorem al_and1 {T : Nat} (h : T < 2147483648) : nI T &&& 1 = nI (T % 2) := by
  apply Int32.toBitVec_inj.1
  apply BitVec.eq_of_toNat_eq
  show (nI T).toBitVec.toNat &&& (1 : Int32).toBitVec.toNat = (nI (T % 2)).toBitVec.toNat
  rw [al_bv h, al_bv (by omega), show (1 : Int32).toBitVec.toNat = 1 from by decide +kernel, Nat.and_one_is_mod]
theorem al_bit {S k : Nat} (hS : S < 4096) (hk : k < 12) : (nI S >>> (nI k &&& 31)) &&& 1 = nI (al_t S k) := by
  rw [al_shr (by omega) hk, al_and1 (Nat.lt_of_le_of_lt (Nat.div_le_self _ _) (by omega))]; rfl
theorem al_t2 (S k : Nat) : al_t S k = 0 ∨ al_t S k = 1 := by unfold al_t; omega
theorem al_shl : ∀ k, k < 13 → (1 : Int32) <<< (nI k &&& 31) = nI (2 ^ k) := by decide +kernel
theorem al_pc_le (S : Nat) : ∀ k, al_pc S k ≤ k
  | 0 => Nat.le_refl _
  | k + 1 => by have h1 := al_pc_le S k; have h2 := al_t2 S k; rw [al_pc]; omega
theorem l_manyOf {G : ev_G} {n : Nat} {M : ev_M} {tn c0 c1 c2 sh : Nat} {tx s kp bw ar tu : Nat → Int32} {k0 k1 : Bool} {tr : Int64} {one gof dof act : Nat → Int32} {sp of' ba go dr ki : Int32} {up dn : Int64} (hX : md_X M tn c0 c1 c2 sh tx s kp bw ar tu k0 k1 tr one gof dof act sp of' ba go dr ki up dn) (hc : c0 ≤ 12) {S : Nat} (hS : S < 4096) : ∀ (m k : Nat), k + m = c0 → ev_E G mX12_manyOf 1 0 0 n M 4 [some (.ref 129), some (.int (nI S)), some (.int (nI (al_pc S k))), some (.int (nI k))] [] (ev_is (some (.int (nI (al_pc S c0)))) M) := by
  obtain ⟨th, nx, tk, pl, va, fa, d0, d1, d2, dS, dB, dA, ik, h129, h130, h131, h132, h133, hk0, hk1, h134, h135, h136, h137, h138, h139, h140, h141, h142, h143, hsh⟩ := hX
  intro m
  induction m with
  | zero =>
    intro k hk
    refine ev_iload_n (i := 3) dX12_manyOf_4 rfl rfl ?_
    refine ev_aload_n (i := 0) dX12_manyOf_5 rfl rfl ?_
    refine ev_getf dX12_manyOf_6 flX12_127 (by assumption) (by rfl) ?_
    refine ev_icmp_ge (tgt := 26) dX12_manyOf_9 (by decide) (fun h9 => ?_) (fun h9 => False.elim (Int32.not_le.mpr h9 (nI_le (a := c0) (b := k) (by omega) (by omega))))
    obtain rfl : k = c0 := by omega
    refine ev_iload_n (i := 2) dX12_manyOf_26 rfl rfl ?_
    exact ev_reti dX12_manyOf_27 rfl rfl (⟨rfl, rfl⟩)
  | succ m ih =>
    intro k hk
    refine ev_iload_n (i := 3) dX12_manyOf_4 rfl rfl ?_
    refine ev_aload_n (i := 0) dX12_manyOf_5 rfl rfl ?_
    refine ev_getf dX12_manyOf_6 flX12_127 (by assumption) (by rfl) ?_
    refine ev_icmp_ge (tgt := 26) dX12_manyOf_9 (by decide) (fun h9 => False.elim (nI_ge (a := k) (b := c0) (by omega) (by omega) h9)) (fun h9 => ?_)
    refine ev_iload_n (i := 2) dX12_manyOf_12 rfl rfl ?_
    refine ev_iload_n (i := 1) dX12_manyOf_13 rfl rfl ?_
    refine ev_iload_n (i := 3) dX12_manyOf_14 rfl rfl ?_
    refine ev_ishr dX12_manyOf_15 ?_
    refine ev_iconst (v := 1) dX12_manyOf_16 cni_1 ?_
    refine ev_iand dX12_manyOf_17 ?_
    refine ev_topi (al_bit hS (by omega)) ?_
    refine ev_iadd dX12_manyOf_18 ?_
    refine ev_topi (nI_add _ _) ?_
    refine ev_istore_n (i := 2) dX12_manyOf_19 rfl (Nat.le_of_ble_eq_true rfl) rfl ?_
    refine ev_iinc (v := nI (k + 1)) dX12_manyOf_20 rfl (nI_1 k) (Nat.le_of_ble_eq_true rfl) rfl ?_
    refine ev_goto (tgt := 4) dX12_manyOf_23 (by decide) ?_
    exact ih (k + 1) (by omega)
theorem m_manyOf {G : ev_G} {n : Nat} {M : ev_M} {tn c0 c1 c2 sh : Nat} {tx s kp bw ar tu : Nat → Int32} {k0 k1 : Bool} {tr : Int64} {one gof dof act : Nat → Int32} {sp of' ba go dr ki : Int32} {up dn : Int64} (hX : md_X M tn c0 c1 c2 sh tx s kp bw ar tu k0 k1 tr one gof dof act sp of' ba go dr ki up dn) (hc : c0 ≤ 12) {S : Nat} (hS : S < 4096) : ev_Cal G mX12_manyOf 1 0 0 [.ref 129, .int (nI S)] n M (ev_is (some (.int (nI (al_pc S c0)))) M) := by
  refine ev_Cal_of (L := [some (.ref 129), some (.int (nI S)), none, none]) (by decide +kernel) (Nat.le_of_ble_eq_true rfl) rfl ?_
  refine ev_iconst (v := 0) dX12_manyOf_0 cni_0 ?_
  refine ev_istore_n (i := 2) dX12_manyOf_1 rfl (Nat.le_of_ble_eq_true rfl) rfl ?_
  refine ev_iconst (v := 0) dX12_manyOf_2 cni_0 ?_
  refine ev_istore_n (i := 3) dX12_manyOf_3 rfl (Nat.le_of_ble_eq_true rfl) rfl ?_
  exact l_manyOf hX hc hS c0 0 (Nat.zero_add _)
/-- each two of a set are alike -/
def al_pr (V D : Nat → Int32) (d e : Int32) (S i j : Nat) : Prop := al_t S i = 1 → al_t S j = 1 → sp_abs (V i - V j) ≤ d ∧ sp_abs (D i - D j) ≤ e
def al_ok (c : Nat) (V D : Nat → Int32) (d e : Int32) (S : Nat) : Prop := ∀ i, i < c → ∀ j, j < i → al_pr V D d e S i j
def al_n (s : Nat → Int32) (i : Nat) : Nat := if s (7 * i + 6) = 0 then 0 else 1
theorem al_n2 (s : Nat → Int32) (i : Nat) : al_n s i < 2 := by unfold al_n; split <;> omega
theorem al_ne {s : Nat → Int32} {i : Nat} (h : sk_ok (fun q => s (7 * i + q))) : s (7 * i + 6) = nI (al_n s i) := by
  have h6 := h.2.2.2.2.2.2
  unfold al_n; split
  · rename_i q; exact q
  · rename_i q; rcases h6 with h6 | h6
    · exact absurd h6 q
    · exact h6
theorem al_bit1 {S k : Nat} (hS : S < 4096) (hk : k < 12) : ((nI S >>> (nI k &&& 31)) &&& 1 = 1) = (al_t S k = 1) := by
  rw [al_bit hS hk]
  apply propext
  exact nI_eq (a := al_t S k) (b := 1) (by have := al_t2 S k; omega) (by omega)
theorem l_areAlike_j {G : ev_G} {n : Nat} {M : ev_M} {tn c0 c1 c2 sh : Nat} {tx s kp bw ar tu : Nat → Int32} {k0 k1 : Bool} {tr : Int64} {one gof dof act : Nat → Int32} {sp of' ba go dr ki : Int32} {up dn : Int64} (hc : c0 ≤ 12) (hs : ∀ i, i < c0 → sk_ok (fun q => s (7 * i + q))) {b : Nat} (hX : md_X M tn c0 c1 c2 sh tx s kp bw ar tu k0 k1 tr one gof dof act sp of' ba go dr ki up dn) (hg : (∀ k, k < 2 * c0 → gof k = fl_GO tu s (bw (2 * b)) (bw (2 * b + 1)) (k)) ∧ ∀ k, k < c0 → dof k = fl_D s (bw (2 * b)) (k)) {S : Nat} (hS : S < 4096) {d e : Int32} {i : Nat} (hi : i < c0) (K : ∀ z : Option Value, (∀ j, j < i → al_pr (fun i => fl_V tu s (bw (2 * b)) (bw (2 * b + 1)) i (s (7 * i + 6))) (fl_D s (bw (2 * b))) d e S i j) → ev_E G mX12_areAlike 2 0 0 n M 130 [some (.ref 129), some (.int (nI S)), some (.int d), some (.int e), some (.int (nI i)), some (.int (nI i)), z] [] (fun r M2 => (∃ q : Bool, r = some (.int (ev_b q)) ∧ (q = true ↔ al_ok c0 (fun i => fl_V tu s (bw (2 * b)) (bw (2 * b + 1)) i (s (7 * i + 6))) (fl_D s (bw (2 * b))) d e S)) ∧ M2 = M)) : ∀ (m j : Nat) (z : Option Value), j + m = i → (∀ k, k < j → al_pr (fun i => fl_V tu s (bw (2 * b)) (bw (2 * b + 1)) i (s (7 * i + 6))) (fl_D s (bw (2 * b))) d e S i k) → ev_E G mX12_areAlike 2 0 0 n M 15 [some (.ref 129), some (.int (nI S)), some (.int d), some (.int e), some (.int (nI i)), some (.int (nI j)), z] [] (fun r M2 => (∃ q : Bool, r = some (.int (ev_b q)) ∧ (q = true ↔ al_ok c0 (fun i => fl_V tu s (bw (2 * b)) (bw (2 * b + 1)) i (s (7 * i + 6))) (fl_D s (bw (2 * b))) d e S)) ∧ M2 = M) := by
  obtain ⟨th, nx, tk, pl, va, fa, d0, d1, d2, dS, dB, dA, ik, h129, h130, h131, h132, h133, hk0, hk1, h134, h135, h136, h137, h138, h139, h140, h141, h142, h143, hsh⟩ := hX
  intro m
  induction m with
  | zero =>
    intro j z hk hj0
    refine ev_iload dX12_areAlike_15 rfl ?_
    refine ev_iload dX12_areAlike_17 rfl ?_
    refine ev_icmp_ge (tgt := 130) dX12_areAlike_19 (by decide) (fun h19 => ?_) (fun h19 => False.elim (Int32.not_le.mpr h19 (nI_le (a := i) (b := j) (by omega) (by omega))))
    obtain rfl : j = i := by omega
    exact K z hj0
  | succ m ih =>
    intro j z hk hj0
    refine ev_iload dX12_areAlike_15 rfl ?_
    refine ev_iload dX12_areAlike_17 rfl ?_
    refine ev_icmp_ge (tgt := 130) dX12_areAlike_19 (by decide) (fun h19 => False.elim (nI_ge (a := j) (b := i) (by omega) (by omega) h19)) (fun h19 => ?_)
    refine ev_iload_n (i := 1) dX12_areAlike_22 rfl rfl ?_
    refine ev_iload dX12_areAlike_23 rfl ?_
    refine ev_ishr dX12_areAlike_25 ?_
    refine ev_iconst (v := 1) dX12_areAlike_26 cni_1 ?_
    refine ev_iand dX12_areAlike_27 ?_
    refine ev_iconst (v := 1) dX12_areAlike_28 cni_1 ?_
    refine ev_icmp_ne (tgt := 124) dX12_areAlike_29 (by decide) (fun g29 => ?_) (fun g29 => ?_)
    · skip
      refine ev_iinc (v := nI (j + 1)) dX12_areAlike_124 rfl (nI_1 j) (Nat.le_of_ble_eq_true rfl) rfl ?_
      refine ev_goto (tgt := 15) dX12_areAlike_127 (by decide) ?_
      exact ih (j + 1) _ (by omega) (fun k hk => by
        by_cases hkj : k = j
        · subst hkj
          exact fun q1 _ => absurd ((al_bit1 hS (by omega)).mpr q1) g29
        · exact hj0 k (by omega))
    · skip
      refine ev_iload_n (i := 1) dX12_areAlike_32 rfl rfl ?_
      refine ev_iload dX12_areAlike_33 rfl ?_
      refine ev_ishr dX12_areAlike_35 ?_
      refine ev_iconst (v := 1) dX12_areAlike_36 cni_1 ?_
      refine ev_iand dX12_areAlike_37 ?_
      refine ev_iconst (v := 1) dX12_areAlike_38 cni_1 ?_
      refine ev_icmp_ne (tgt := 124) dX12_areAlike_39 (by decide) (fun g39 => ?_) (fun g39 => ?_)
      · skip
        refine ev_iinc (v := nI (j + 1)) dX12_areAlike_124 rfl (nI_1 j) (Nat.le_of_ble_eq_true rfl) rfl ?_
        refine ev_goto (tgt := 15) dX12_areAlike_127 (by decide) ?_
        exact ih (j + 1) _ (by omega) (fun k hk => by
          by_cases hkj : k = j
          · subst hkj
            exact fun _ q2 => absurd ((al_bit1 hS (by omega)).mpr q2) g39
          · exact hj0 k (by omega))
      · skip
        have t1 := (al_bit1 hS (by omega)).mp g29
        have t2 := (al_bit1 hS (by omega)).mp g39
        have ni := al_n2 s i
        have nj := al_n2 s j
        refine ev_aload_n (i := 0) dX12_areAlike_42 rfl rfl ?_
        refine ev_getf dX12_areAlike_43 flX12_44 (by assumption) (by rfl) ?_
        refine ev_iconst (v := 2) dX12_areAlike_46 cni_2 ?_
        refine ev_iload dX12_areAlike_47 rfl ?_
        refine ev_imul dX12_areAlike_49 ?_
        refine ev_aload_n (i := 0) dX12_areAlike_50 rfl rfl ?_
        refine ev_getf dX12_areAlike_51 flX12_13 (by assumption) (by rfl) ?_
        refine ev_bipush (v := 7) dX12_areAlike_54 cnb_7 ?_
        refine ev_iload dX12_areAlike_56 rfl ?_
        refine ev_imul dX12_areAlike_58 ?_
        refine ev_bipush (v := 6) dX12_areAlike_59 cnb_6 ?_
        refine ev_iadd dX12_areAlike_61 ?_
        refine ev_iald (j := 7 * i + 6) dX12_areAlike_62 (by assumption) (ev_ix7 i 6 (by omega)) (by omega) ?_
        refine ev_iadd dX12_areAlike_63 ?_
        refine ev_iald (j := 2 * i + al_n s i) dX12_areAlike_64 (by assumption) (by rw [al_ne (hs i (by omega))]; exact ev_ix2 i (al_n s i) (by omega)) (by omega) ?_
        refine ev_aload_n (i := 0) dX12_areAlike_65 rfl rfl ?_
        refine ev_getf dX12_areAlike_66 flX12_44 (by assumption) (by rfl) ?_
        refine ev_iconst (v := 2) dX12_areAlike_69 cni_2 ?_
        refine ev_iload dX12_areAlike_70 rfl ?_
        refine ev_imul dX12_areAlike_72 ?_
        refine ev_aload_n (i := 0) dX12_areAlike_73 rfl rfl ?_
        refine ev_getf dX12_areAlike_74 flX12_13 (by assumption) (by rfl) ?_
        refine ev_bipush (v := 7) dX12_areAlike_77 cnb_7 ?_
        refine ev_iload dX12_areAlike_79 rfl ?_
        refine ev_imul dX12_areAlike_81 ?_
        refine ev_bipush (v := 6) dX12_areAlike_82 cnb_6 ?_
        refine ev_iadd dX12_areAlike_84 ?_
        refine ev_iald (j := 7 * j + 6) dX12_areAlike_85 (by assumption) (ev_ix7 j 6 (by omega)) (by omega) ?_
        refine ev_iadd dX12_areAlike_86 ?_
        refine ev_iald (j := 2 * j + al_n s j) dX12_areAlike_87 (by assumption) (by rw [al_ne (hs j (by omega))]; exact ev_ix2 j (al_n s j) (by omega)) (by omega) ?_
        refine ev_isub dX12_areAlike_88 ?_
        have ni := al_n2 s i
        refine ev_topi (x2 := fl_V tu s (bw (2 * b)) (bw (2 * b + 1)) i (s (7 * i + 6)) - fl_V tu s (bw (2 * b)) (bw (2 * b + 1)) j (s (7 * j + 6))) (by rw [hg.1 (2 * i + al_n s i) (by omega), fl_GO_2 (al_n2 s i), ← al_ne (hs i (by omega))]; rw [hg.1 (2 * j + al_n s j) (by omega), fl_GO_2 (al_n2 s j), ← al_ne (hs j (by omega))]) ?_
        refine ev_istore dX12_areAlike_89 (Nat.le_of_ble_eq_true rfl) rfl ?_
        refine ev_iload dX12_areAlike_91 rfl ?_
        refine ev_c1 kX12_areAlike_93 (c13_size) trivial (by decide) (by decide) (Nat.le_of_ble_eq_true rfl) ?_
        refine ev_iload_n (i := 2) dX12_areAlike_96 rfl rfl ?_
        refine ev_icmp_gt (tgt := 122) dX12_areAlike_97 (by decide) (fun g97 => ?_) (fun g97 => ?_)
        · skip
          refine ev_iconst (v := 0) dX12_areAlike_122 cni_0 ?_
          exact ev_reti dX12_areAlike_123 rfl rfl (⟨⟨false, rfl, fun q => absurd q (by decide), fun q => absurd (q i hi j (by omega) t1 t2).1 (Int32.not_le.mpr g97)⟩, rfl⟩)
        · skip
          refine ev_aload_n (i := 0) dX12_areAlike_100 rfl rfl ?_
          refine ev_getf dX12_areAlike_101 flX12_47 (by assumption) (by rfl) ?_
          refine ev_iload dX12_areAlike_104 rfl ?_
          refine ev_iald (j := i) dX12_areAlike_106 (by assumption) (ev_ix_nI (by omega)) (by omega) ?_
          refine ev_aload_n (i := 0) dX12_areAlike_107 rfl rfl ?_
          refine ev_getf dX12_areAlike_108 flX12_47 (by assumption) (by rfl) ?_
          refine ev_iload dX12_areAlike_111 rfl ?_
          refine ev_iald (j := j) dX12_areAlike_113 (by assumption) (ev_ix_nI (by omega)) (by omega) ?_
          refine ev_isub dX12_areAlike_114 ?_
          refine ev_topi (x2 := fl_D s (bw (2 * b)) (i) - fl_D s (bw (2 * b)) (j)) (by rw [hg.2 i (by omega), hg.2 j (by omega)]) ?_
          refine ev_c1 kX12_areAlike_115 (c13_size) trivial (by decide) (by decide) (Nat.le_of_ble_eq_true rfl) ?_
          refine ev_iload_n (i := 3) dX12_areAlike_118 rfl rfl ?_
          refine ev_icmp_le (tgt := 124) dX12_areAlike_119 (by decide) (fun g119 => ?_) (fun g119 => ?_)
          · skip
            refine ev_iinc (v := nI (j + 1)) dX12_areAlike_124 rfl (nI_1 j) (Nat.le_of_ble_eq_true rfl) rfl ?_
            refine ev_goto (tgt := 15) dX12_areAlike_127 (by decide) ?_
            exact ih (j + 1) _ (by omega) (fun k hk => by
              by_cases hkj : k = j
              · subst hkj
                exact fun _ _ => ⟨Int32.not_lt.mp (Int32.not_lt.mpr g97), g119⟩
              · exact hj0 k (by omega))
          · skip
            refine ev_iconst (v := 0) dX12_areAlike_122 cni_0 ?_
            exact ev_reti dX12_areAlike_123 rfl rfl (⟨⟨false, rfl, fun q => absurd q (by decide), fun q => absurd (q i hi j (by omega) t1 t2).2 (Int32.not_le.mpr g119)⟩, rfl⟩)
theorem l_areAlike {G : ev_G} {n : Nat} {M : ev_M} {tn c0 c1 c2 sh : Nat} {tx s kp bw ar tu : Nat → Int32} {k0 k1 : Bool} {tr : Int64} {one gof dof act : Nat → Int32} {sp of' ba go dr ki : Int32} {up dn : Int64} (hc : c0 ≤ 12) (hs : ∀ i, i < c0 → sk_ok (fun q => s (7 * i + q))) {b : Nat} (hX : md_X M tn c0 c1 c2 sh tx s kp bw ar tu k0 k1 tr one gof dof act sp of' ba go dr ki up dn) (hg : (∀ k, k < 2 * c0 → gof k = fl_GO tu s (bw (2 * b)) (bw (2 * b + 1)) (k)) ∧ ∀ k, k < c0 → dof k = fl_D s (bw (2 * b)) (k)) {S : Nat} (hS : S < 4096) {d e : Int32} : ∀ (m i : Nat) (z z2 : Option Value), i + m = c0 → (∀ k, k < i → ∀ j, j < k → al_pr (fun i => fl_V tu s (bw (2 * b)) (bw (2 * b + 1)) i (s (7 * i + 6))) (fl_D s (bw (2 * b))) d e S k j) → ev_E G mX12_areAlike 2 0 0 n M 3 [some (.ref 129), some (.int (nI S)), some (.int d), some (.int e), some (.int (nI i)), z, z2] [] (fun r M2 => (∃ q : Bool, r = some (.int (ev_b q)) ∧ (q = true ↔ al_ok c0 (fun i => fl_V tu s (bw (2 * b)) (bw (2 * b + 1)) i (s (7 * i + 6))) (fl_D s (bw (2 * b))) d e S)) ∧ M2 = M) := by
  have hX0 := hX
  obtain ⟨th, nx, tk, pl, va, fa, d0, d1, d2, dS, dB, dA, ik, h129, h130, h131, h132, h133, hk0, hk1, h134, h135, h136, h137, h138, h139, h140, h141, h142, h143, hsh⟩ := hX
  intro m
  induction m with
  | zero =>
    intro i z z2 hk hi0
    refine ev_iload dX12_areAlike_3 rfl ?_
    refine ev_aload_n (i := 0) dX12_areAlike_5 rfl rfl ?_
    refine ev_getf dX12_areAlike_6 flX12_127 (by assumption) (by rfl) ?_
    refine ev_icmp_ge (tgt := 136) dX12_areAlike_9 (by decide) (fun h9 => ?_) (fun h9 => False.elim (Int32.not_le.mpr h9 (nI_le (a := c0) (b := i) (by omega) (by omega))))
    refine ev_iconst (v := 1) dX12_areAlike_136 cni_1 ?_
    exact ev_reti dX12_areAlike_137 rfl rfl (⟨⟨true, rfl, fun _ => by have e : i = c0 := (by omega); subst e; exact hi0, fun _ => rfl⟩, rfl⟩)
  | succ m ih =>
    intro i z z2 hk hi0
    refine ev_iload dX12_areAlike_3 rfl ?_
    refine ev_aload_n (i := 0) dX12_areAlike_5 rfl rfl ?_
    refine ev_getf dX12_areAlike_6 flX12_127 (by assumption) (by rfl) ?_
    refine ev_icmp_ge (tgt := 136) dX12_areAlike_9 (by decide) (fun h9 => False.elim (nI_ge (a := i) (b := c0) (by omega) (by omega) h9)) (fun h9 => ?_)
    refine ev_iconst (v := 0) dX12_areAlike_12 cni_0 ?_
    refine ev_istore dX12_areAlike_13 (Nat.le_of_ble_eq_true rfl) rfl ?_
    refine l_areAlike_j hc hs hX0 hg hS (by omega) (fun z hji => ?_) i 0 _ (Nat.zero_add _) (fun k hk => absurd hk (by omega))
    refine ev_iinc (v := nI (i + 1)) dX12_areAlike_130 rfl (nI_1 i) (Nat.le_of_ble_eq_true rfl) rfl ?_
    refine ev_goto (tgt := 3) dX12_areAlike_133 (by decide) ?_
    exact ih (i + 1) _ _ (by omega) (fun k hk => by
      by_cases hki : k = i
      · subst hki; exact hji
      · exact hi0 k (by omega))
theorem m_areAlike {G : ev_G} {n : Nat} {M : ev_M} {tn c0 c1 c2 sh : Nat} {tx s kp bw ar tu : Nat → Int32} {k0 k1 : Bool} {tr : Int64} {one gof dof act : Nat → Int32} {sp of' ba go dr ki : Int32} {up dn : Int64} (hc : c0 ≤ 12) (hs : ∀ i, i < c0 → sk_ok (fun q => s (7 * i + q))) {b : Nat} (hX : md_X M tn c0 c1 c2 sh tx s kp bw ar tu k0 k1 tr one gof dof act sp of' ba go dr ki up dn) (hg : (∀ k, k < 2 * c0 → gof k = fl_GO tu s (bw (2 * b)) (bw (2 * b + 1)) (k)) ∧ ∀ k, k < c0 → dof k = fl_D s (bw (2 * b)) (k)) {S : Nat} (hS : S < 4096) {d e : Int32}  : ev_Cal G mX12_areAlike 2 0 0 [.ref 129, .int (nI S), .int d, .int e] n M (fun r M2 => (∃ q : Bool, r = some (.int (ev_b q)) ∧ (q = true ↔ al_ok c0 (fun i => fl_V tu s (bw (2 * b)) (bw (2 * b + 1)) i (s (7 * i + 6))) (fl_D s (bw (2 * b))) d e S)) ∧ M2 = M) := by
  refine ev_Cal_of (L := [some (.ref 129), some (.int (nI S)), some (.int d), some (.int e), none, none, none]) (by decide +kernel) (Nat.le_of_ble_eq_true rfl) rfl ?_
  refine ev_iconst (v := 0) dX12_areAlike_0 cni_0 ?_
  refine ev_istore dX12_areAlike_1 (Nat.le_of_ble_eq_true rfl) rfl ?_
  exact l_areAlike hc hs hX hg hS c0 0 _ _ (Nat.zero_add _) (fun k hk => absurd hk (by omega))
/-- of the first S sets the best: B -/
def al_best (c : Nat) (V D : Nat → Int32) (d e : Int32) (S B : Nat) : Prop := al_ok c V D d e B ∧ ∀ T, T < S → al_ok c V D d e T → al_pc T c < al_pc B c ∨ (al_pc T c = al_pc B c ∧ B ≤ T)
theorem al_ok_0 {c : Nat} {V D : Nat → Int32} {d e : Int32} : al_ok c V D d e 0 := fun i _ j _ h1 => absurd h1 (by unfold al_t; rw [Nat.zero_div]; decide)
theorem al_best_y {c : Nat} {V D : Nat → Int32} {d e : Int32} {S B : Nat} (h : al_best c V D d e S B) (h1 : al_pc B c < al_pc S c) (h2 : al_ok c V D d e S) : al_best c V D d e (S + 1) S := by
  refine ⟨h2, fun T hT hok => ?_⟩
  by_cases e : T = S
  · subst e; exact Or.inr ⟨rfl, Nat.le_refl _⟩
  · rcases h.2 T (by omega) hok with q | q
    · exact Or.inl (by omega)
    · exact Or.inl (by omega)
theorem al_best_n {c : Nat} {V D : Nat → Int32} {d e : Int32} {S B : Nat} (h : al_best c V D d e S B) (hB : B ≤ S) (h1 : ¬ (al_pc B c < al_pc S c ∧ al_ok c V D d e S)) : al_best c V D d e (S + 1) B := by
  refine ⟨h.1, fun T hT hok => ?_⟩
  by_cases e : T = S
  · subst e
    have : ¬ al_pc B c < al_pc T c := fun q => h1 ⟨q, hok⟩
    by_cases q : al_pc T c = al_pc B c
    · exact Or.inr ⟨q, hB⟩
    · exact Or.inl (by omega)
  · exact h.2 T (by omega) hok
theorem l_alike {G : ev_G} {n : Nat} {M : ev_M} {tn c0 c1 c2 sh : Nat} {tx s kp bw ar tu : Nat → Int32} {k0 k1 : Bool} {tr : Int64} {one gof dof act : Nat → Int32} {sp of' ba go dr ki : Int32} {up dn : Int64} (hc : c0 ≤ 12) (hs : ∀ i, i < c0 → sk_ok (fun q => s (7 * i + q))) {b : Nat} {M1 : ev_M} (hX : md_X M1 tn c0 c1 c2 sh tx s kp bw ar tu k0 k1 tr one gof dof act sp of' ba go dr ki up dn) (hf1 : ∀ k, k < 129 → M1 k = M k) (hg : (∀ k, k < 2 * c0 → gof k = fl_GO tu s (bw (2 * b)) (bw (2 * b + 1)) (k)) ∧ ∀ k, k < c0 → dof k = fl_D s (bw (2 * b)) (k)) {d e w : Int32} : ∀ (m S B : Nat), S + m = 2 ^ c0 → B ≤ S ∧ (B < 2 ^ c0) → al_best c0 (fun i => fl_V tu s (bw (2 * b)) (bw (2 * b + 1)) i (s (7 * i + 6))) (fl_D s (bw (2 * b))) d e S B → ev_E G mX12_alike 6 0 0 n M1 44 [some (.ref 129), some (.int (nI b)), some (.int d), some (.int e), some (.int w), some (.int (nI B)), some (.int (nI S))] [] (fun r M2 => (∃ B : Nat, B < 2 ^ c0 ∧ al_best c0 (fun i => fl_V tu s (bw (2 * b)) (bw (2 * b + 1)) i (s (7 * i + 6))) (fl_D s (bw (2 * b))) d e (2 ^ c0) B ∧ r = some (.int (if w = 0 then nI B else nI (al_pc B c0)))) ∧ md_S M2 tn c0 c1 c2 sh tx s kp bw ar tu k0 k1 tr ∧ ∀ k, k < 129 → M2 k = M k) := by
  have hX0 := hX
  obtain ⟨th, nx, tk, pl, va, fa, d0, d1, d2, dS, dB, dA, ik, h129, h130, h131, h132, h133, hk0, hk1, h134, h135, h136, h137, h138, h139, h140, h141, h142, h143, hsh⟩ := hX
  have hp : 2 ^ c0 ≤ 4096 := Nat.le_trans (Nat.pow_le_pow_right (by omega) hc) (by decide)
  intro m
  induction m with
  | zero =>
    intro S B hk hB hbest
    refine ev_iload dX12_alike_44 rfl ?_
    refine ev_iconst (v := 1) dX12_alike_46 cni_1 ?_
    refine ev_aload_n (i := 0) dX12_alike_47 rfl rfl ?_
    refine ev_getf dX12_alike_48 flX12_127 (by assumption) (by rfl) ?_
    refine ev_ishl dX12_alike_51 ?_
    refine ev_topi (al_shl c0 (by omega)) ?_
    refine ev_icmp_ge (tgt := 96) dX12_alike_52 (by decide) (fun h52 => ?_) (fun h52 => False.elim (Int32.not_le.mpr h52 (nI_le (a := 2 ^ c0) (b := S) (by omega) (by omega))))
    obtain rfl : S = 2 ^ c0 := by omega
    refine ev_iload dX12_alike_96 rfl ?_
    refine ev_if_ne (tgt := 106) dX12_alike_98 (by decide) (fun h98 => ?_) (fun h98 => ?_)
    · skip
      refine ev_aload_n (i := 0) dX12_alike_106 rfl rfl ?_
      refine ev_iload dX12_alike_107 rfl ?_
      refine ev_c2 kX12_alike_109 (m_manyOf (S := B) hX0 hc (by omega)) (ev_rv_of (by assumption) rfl rfl) (by decide) (by decide) (Nat.le_of_ble_eq_true rfl) ?_
      exact ev_reti dX12_alike_112 rfl rfl (⟨⟨B, by omega, hbest, by first | rw [if_pos h98] | rw [if_neg h98]⟩, md_XS hX0, hf1⟩)
    · skip
      refine ev_iload dX12_alike_101 rfl ?_
      refine ev_goto (tgt := 112) dX12_alike_103 (by decide) ?_
      exact ev_reti dX12_alike_112 rfl rfl (⟨⟨B, by omega, hbest, by first | rw [if_pos h98] | rw [if_neg h98]⟩, md_XS hX0, hf1⟩)
  | succ m ih =>
    intro S B hk hB hbest
    refine ev_iload dX12_alike_44 rfl ?_
    refine ev_iconst (v := 1) dX12_alike_46 cni_1 ?_
    refine ev_aload_n (i := 0) dX12_alike_47 rfl rfl ?_
    refine ev_getf dX12_alike_48 flX12_127 (by assumption) (by rfl) ?_
    refine ev_ishl dX12_alike_51 ?_
    refine ev_topi (al_shl c0 (by omega)) ?_
    refine ev_icmp_ge (tgt := 96) dX12_alike_52 (by decide) (fun h52 => False.elim (nI_ge (a := S) (b := 2 ^ c0) (by omega) (by omega) h52)) (fun h52 => ?_)
    refine ev_aload_n (i := 0) dX12_alike_55 rfl rfl ?_
    refine ev_iload dX12_alike_56 rfl ?_
    refine ev_c2 kX12_alike_58 (m_manyOf (S := S) hX0 hc (by omega)) (ev_rv_of (by assumption) rfl rfl) (by decide) (by decide) (Nat.le_of_ble_eq_true rfl) ?_
    refine ev_aload_n (i := 0) dX12_alike_61 rfl rfl ?_
    refine ev_iload dX12_alike_62 rfl ?_
    refine ev_c2 kX12_alike_64 (m_manyOf (S := B) hX0 hc (by omega)) (ev_rv_of (by assumption) rfl rfl) (by decide) (by decide) (Nat.le_of_ble_eq_true rfl) ?_
    refine ev_icmp_le (tgt := 86) dX12_alike_67 (by decide) (fun h67 => ?_) (fun h67 => ?_)
    · skip
      refine ev_iload dX12_alike_86 rfl ?_
      refine ev_istore dX12_alike_88 (Nat.le_of_ble_eq_true rfl) rfl ?_
      refine ev_iinc (v := nI (S + 1)) dX12_alike_90 rfl (nI_1 S) (Nat.le_of_ble_eq_true rfl) rfl ?_
      refine ev_goto (tgt := 44) dX12_alike_93 (by decide) ?_
      exact ih (S + 1) B (by omega) (by omega) (al_best_n hbest hB.1 (fun q => absurd ((nI_ltI (a := al_pc B c0) (b := al_pc S c0) (Nat.lt_of_le_of_lt (al_pc_le B c0) (by omega)) (Nat.lt_of_le_of_lt (al_pc_le S c0) (by omega))).mpr q.1) (Int32.not_lt.mpr h67)))
    · skip
      refine ev_aload_n (i := 0) dX12_alike_70 rfl rfl ?_
      refine ev_iload dX12_alike_71 rfl ?_
      refine ev_iload_n (i := 2) dX12_alike_73 rfl rfl ?_
      refine ev_iload_n (i := 3) dX12_alike_74 rfl rfl ?_
      refine ev_d4 kX12_alike_75 (m_areAlike (S := S) hc hs hX0 hg (by omega)) (ev_rv_of (by assumption) rfl rfl) (by decide) (by decide) (Nat.le_of_ble_eq_true rfl) ?_
      intro r M2 hr
      obtain ⟨⟨q, rfl, hq⟩, rfl⟩ := hr
      refine ev_if_eqb (tgt := 86) dX12_alike_78 (by decide) (fun h78 => ?_) (fun h78 => ?_)
      · skip
        refine ev_iload dX12_alike_86 rfl ?_
        refine ev_istore dX12_alike_88 (Nat.le_of_ble_eq_true rfl) rfl ?_
        refine ev_iinc (v := nI (S + 1)) dX12_alike_90 rfl (nI_1 S) (Nat.le_of_ble_eq_true rfl) rfl ?_
        refine ev_goto (tgt := 44) dX12_alike_93 (by decide) ?_
        exact ih (S + 1) B (by omega) (by omega) (al_best_n hbest hB.1 (fun z => absurd (h78.symm.trans (hq.mpr z.2)) (by decide)))
      · skip
        refine ev_iload dX12_alike_81 rfl ?_
        refine ev_goto (tgt := 88) dX12_alike_83 (by decide) ?_
        refine ev_istore dX12_alike_88 (Nat.le_of_ble_eq_true rfl) rfl ?_
        refine ev_iinc (v := nI (S + 1)) dX12_alike_90 rfl (nI_1 S) (Nat.le_of_ble_eq_true rfl) rfl ?_
        refine ev_goto (tgt := 44) dX12_alike_93 (by decide) ?_
        exact ih (S + 1) S (by omega) (by omega) (al_best_y hbest ((nI_ltI (a := al_pc B c0) (b := al_pc S c0) (Nat.lt_of_le_of_lt (al_pc_le B c0) (by omega)) (Nat.lt_of_le_of_lt (al_pc_le S c0) (by omega))).mp h67) (hq.mp h78))
theorem m_alike {G : ev_G} {n : Nat} {M : ev_M} {tn c0 c1 c2 sh : Nat} {tx s kp bw ar tu : Nat → Int32} {k0 k1 : Bool} {tr : Int64} (hM : md_S M tn c0 c1 c2 sh tx s kp bw ar tu k0 k1 tr) {b : Nat} (hb : b < c1) (hc1 : c1 ≤ 3) (hc : c0 ≤ 12) (hs : ∀ i, i < c0 → sk_ok (fun q => s (7 * i + q))) (hw : bw_ok (bw (2 * b)) (bw (2 * b + 1))) (ht : tu_ok tu) {d e w : Int32} (hde : (sp_in d 0 999 && sp_in e 0 999) = true) (hw1 : sp_in w 0 1 = true) : ev_Cal G mX12_alike 6 0 0 [.ref 129, .int (nI b), .int d, .int e, .int w] n M (fun r M2 => (∃ B : Nat, B < 2 ^ c0 ∧ al_best c0 (fun i => fl_V tu s (bw (2 * b)) (bw (2 * b + 1)) i (s (7 * i + 6))) (fl_D s (bw (2 * b))) d e (2 ^ c0) B ∧ r = some (.int (if w = 0 then nI B else nI (al_pc B c0)))) ∧ md_S M2 tn c0 c1 c2 sh tx s kp bw ar tu k0 k1 tr ∧ ∀ k, k < 129 → M2 k = M k) := by
  refine ev_Cal_of (L := [some (.ref 129), some (.int (nI b)), some (.int d), some (.int e), some (.int w), none, none]) (by decide +kernel) (Nat.le_of_ble_eq_true rfl) rfl ?_
  refine md_thr hM dX12_alike_0 dX12_alike_1 dX12_alike_2 rfl rfl (fun M1 hM1 hf1 => ?_)
  obtain ⟨one, gof, dof, act, sp, of', ba, go, dr, ki, up, dn, hX⟩ := md_SX hM1
  have hX0 := hX
  obtain ⟨th, nx, tk, pl, va, fa, d0, d1, d2, dS, dB, dA, ik, h129, h130, h131, h132, h133, hk0, hk1, h134, h135, h136, h137, h138, h139, h140, h141, h142, h143, hsh⟩ := hX
  refine ev_aload_n (i := 0) dX12_alike_5 rfl rfl ?_
  refine ev_iload_n (i := 1) dX12_alike_6 rfl rfl ?_
  refine ev_c2 kX12_alike_7 (c13_isBow h129) (ev_rv_of (by assumption) rfl rfl) (by decide) (by decide) (Nat.le_of_ble_eq_true rfl) ?_
  refine ev_if_eqb (tgt := 31) dX12_alike_10 (by decide) (fun h10 => False.elim (Bool.false_ne_true (h10.symm.trans (sp_in_ix hb (by omega))))) (fun h10 => ?_)
  refine ev_iload_n (i := 2) dX12_alike_13 rfl rfl ?_
  refine ev_iload_n (i := 3) dX12_alike_14 rfl rfl ?_
  refine ev_c2 kX12_alike_15 (c13_areSame) trivial (by decide) (by decide) (Nat.le_of_ble_eq_true rfl) ?_
  refine ev_if_eqb (tgt := 31) dX12_alike_18 (by decide) (fun h18 => False.elim (Bool.false_ne_true (h18.symm.trans (hde)))) (fun h18 => ?_)
  refine ev_iload dX12_alike_21 rfl ?_
  refine ev_iconst (v := 0) dX12_alike_23 cni_0 ?_
  refine ev_iconst (v := 1) dX12_alike_24 cni_1 ?_
  refine ev_c3 kX12_alike_25 (c13_in) trivial (by decide) (by decide) (Nat.le_of_ble_eq_true rfl) ?_
  refine ev_if_neb (tgt := 33) dX12_alike_28 (by decide) (fun h28 => ?_) (fun h28 => False.elim (Bool.false_ne_true (h28.symm.trans (hw1))))
  refine ev_aload_n (i := 0) dX12_alike_33 rfl rfl ?_
  refine ev_iload_n (i := 1) dX12_alike_34 rfl rfl ?_
  refine ev_d2 kX12_alike_35 (m_fliesAll hX0 hb hc1 hc hs hw ht) (ev_rv_of (by assumption) rfl rfl) (by decide) (by decide) (Nat.le_of_ble_eq_true rfl) ?_
  intro r M2 hr
  obtain ⟨rfl, hG0, hf2⟩ := hr
  obtain ⟨one, gof, dof, act, sp, of', ba, go, dr, ki, up, dn, hX1, hg⟩ := hG0
  have hX := hX1
  obtain ⟨th, nx, tk, pl, va, fa, d0, d1, d2, dS, dB, dA, ik, h129, h130, h131, h132, h133, hk0, hk1, h134, h135, h136, h137, h138, h139, h140, h141, h142, h143, hsh⟩ := hX
  refine ev_iconst (v := 0) dX12_alike_38 cni_0 ?_
  refine ev_istore dX12_alike_39 (Nat.le_of_ble_eq_true rfl) rfl ?_
  refine ev_iconst (v := 0) dX12_alike_41 cni_0 ?_
  refine ev_istore dX12_alike_42 (Nat.le_of_ble_eq_true rfl) rfl ?_
  exact l_alike hc hs hX1 (fun k hk => (hf2 k hk).trans (hf1 k hk)) hg (2 ^ c0) 0 0 (Nat.zero_add _) ⟨Nat.le_refl _, Nat.pow_pos (by omega)⟩ ⟨al_ok_0, fun T hT => absurd hT (by omega)⟩
theorem m_alike_no {G : ev_G} {n : Nat} {M : ev_M} {tn c0 c1 c2 sh : Nat} {tx s kp bw ar tu : Nat → Int32} {k0 k1 : Bool} {tr : Int64} (hM : md_S M tn c0 c1 c2 sh tx s kp bw ar tu k0 k1 tr) {xb d e w : Int32} (h : (sp_in xb 0 (nI c1 - 1) && (sp_in d 0 999 && sp_in e 0 999) && sp_in w 0 1) = false) : ev_Cal G mX12_alike 6 0 0 [.ref 129, .int xb, .int d, .int e, .int w] n M (md_is M (.int (-1)) tn c0 c1 c2 sh tx s kp bw ar tu k0 k1 tr) := by
  refine ev_Cal_of (L := [some (.ref 129), some (.int xb), some (.int d), some (.int e), some (.int w), none, none]) (by decide +kernel) (Nat.le_of_ble_eq_true rfl) rfl ?_
  refine md_thr hM dX12_alike_0 dX12_alike_1 dX12_alike_2 rfl rfl (fun M1 hM1 hf1 => ?_)
  obtain ⟨one, gof, dof, act, sp, of', ba, go, dr, ki, up, dn, hX⟩ := md_SX hM1
  have hX0 := hX
  obtain ⟨th, nx, tk, pl, va, fa, d0, d1, d2, dS, dB, dA, ik, h129, h130, h131, h132, h133, hk0, hk1, h134, h135, h136, h137, h138, h139, h140, h141, h142, h143, hsh⟩ := hX
  refine ev_aload_n (i := 0) dX12_alike_5 rfl rfl ?_
  refine ev_iload_n (i := 1) dX12_alike_6 rfl rfl ?_
  refine ev_c2 kX12_alike_7 (c13_isBow h129) (ev_rv_of (by assumption) rfl rfl) (by decide) (by decide) (Nat.le_of_ble_eq_true rfl) ?_
  refine ev_if_eqb (tgt := 31) dX12_alike_10 (by decide) (fun h10 => ?_) (fun h10 => ?_)
  · skip
    refine ev_iconst (v := (-1)) dX12_alike_31 cni_m1 ?_
    exact ev_reti dX12_alike_32 rfl rfl (⟨rfl, md_XS hX0, hf1⟩)
  · skip
    refine ev_iload_n (i := 2) dX12_alike_13 rfl rfl ?_
    refine ev_iload_n (i := 3) dX12_alike_14 rfl rfl ?_
    refine ev_c2 kX12_alike_15 (c13_areSame) trivial (by decide) (by decide) (Nat.le_of_ble_eq_true rfl) ?_
    refine ev_if_eqb (tgt := 31) dX12_alike_18 (by decide) (fun h18 => ?_) (fun h18 => ?_)
    · skip
      refine ev_iconst (v := (-1)) dX12_alike_31 cni_m1 ?_
      exact ev_reti dX12_alike_32 rfl rfl (⟨rfl, md_XS hX0, hf1⟩)
    · skip
      refine ev_iload dX12_alike_21 rfl ?_
      refine ev_iconst (v := 0) dX12_alike_23 cni_0 ?_
      refine ev_iconst (v := 1) dX12_alike_24 cni_1 ?_
      refine ev_c3 kX12_alike_25 (c13_in) trivial (by decide) (by decide) (Nat.le_of_ble_eq_true rfl) ?_
      refine ev_if_neb (tgt := 33) dX12_alike_28 (by decide) (fun h28 => False.elim (by rw [h10, h18, h28] at h; cases h)) (fun h28 => ?_)
      refine ev_iconst (v := (-1)) dX12_alike_31 cni_m1 ?_
      exact ev_reti dX12_alike_32 rfl rfl (⟨rfl, md_XS hX0, hf1⟩)
