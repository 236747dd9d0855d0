/-! ===== contracts: the model, turned, spread, out, rate ===== -/
/-- the greatest so far -/
def tm_j (C : Nat → Int32) (m : Int32) : Nat → Int32
  | 0 => m
  | j + 1 => if tm_j C m j < C j then C j else tm_j C m j
def tm_k (C : Nat → Nat → Int32) (c : Nat) : Nat → Int32
  | 0 => 0
  | k + 1 => tm_j (C k) (tm_k C c k) c
theorem tm_j_1 {C : Nat → Int32} {m : Int32} {j : Nat} (h : tm_j C m j < C j) : tm_j C m (j + 1) = C j := by rw [tm_j, if_pos h]
theorem tm_j_0 {C : Nat → Int32} {m : Int32} {j : Nat} (h : C j ≤ tm_j C m j) : tm_j C m (j + 1) = tm_j C m j := by rw [tm_j, if_neg (Int32.not_lt.mpr h)]
def tu_C (tu s : Nat → Int32) (dr wi d e : Int32) (c k j : Nat) : Int32 := sp_cnt (fl_near (fun i => fl_GO tu s dr wi (2 * i)) (fun i => fl_GO tu s dr wi (2 * i + 1)) (fl_D s dr) (fl_GO tu s dr wi k) d (fl_D s dr j) e) c
theorem fl_near_1 {q0 q1 q2 : Nat → Int32} {g d dp e : Int32} {k : Nat} (h : sp_in (q0 k) g (g + d) = true) (h2 : sp_in (q2 k) dp (dp + e) = true) : fl_near q0 q1 q2 g d dp e k = true := by unfold fl_near; rw [h, h2]; rfl
theorem fl_near_2 {q0 q1 q2 : Nat → Int32} {g d dp e : Int32} {k : Nat} (h : sp_in (q1 k) g (g + d) = true) (h2 : sp_in (q2 k) dp (dp + e) = true) : fl_near q0 q1 q2 g d dp e k = true := by unfold fl_near; rw [h, h2, Bool.or_true]; rfl
theorem fl_near_3 {q0 q1 q2 : Nat → Int32} {g d dp e : Int32} {k : Nat} (h : sp_in (q2 k) dp (dp + e) = false) : fl_near q0 q1 q2 g d dp e k = false := by unfold fl_near; rw [h, Bool.and_false]
theorem fl_near_4 {q0 q1 q2 : Nat → Int32} {g d dp e : Int32} {k : Nat} (h : sp_in (q0 k) g (g + d) = false) (h2 : sp_in (q1 k) g (g + d) = false) : fl_near q0 q1 q2 g d dp e k = false := by unfold fl_near; rw [h, h2]; rfl
theorem l_turned_i {G : ev_G} {n : Nat} {M : ev_M} {tn c0 c1 c2 sh : Nat} {tx s kp bw ar tu : Nat → Int32} {k0 k1 : Bool} {tr : Int64} {one gof dof act : Nat → Int32} {sp of' ba go dr ki : Int32} {up dn : Int64} (hc : c0 ≤ 12) {b : Nat} {M1 : ev_M} (hX : md_X M1 tn c0 c1 c2 sh tx s kp bw ar tu k0 k1 tr one gof dof act sp of' ba go dr ki up dn) (hf1 : ∀ k, k < 129 → M1 k = M k) (hg : (∀ k, k < 2 * c0 → gof k = fl_GO tu s (bw (2 * b)) (bw (2 * b + 1)) (k)) ∧ ∀ k, k < c0 → dof k = fl_D s (bw (2 * b)) (k)) {d e : Int32} {Post : Option Value → ev_M → Prop} {k j : Nat} {mo : Int32} (hk : k < 2 * c0) (hj : j < c0) (K : ∀ z z2 : Option Value, ev_E G mX12_turned 6 0 0 n M1 193 [some (.ref 129), some (.int (nI b)), some (.int d), some (.int e), some (.int mo), some (.int (nI k)), some (.int (nI j)), some (.int (sp_cnt (fl_near (fun i => (fl_GO tu s (bw (2 * b)) (bw (2 * b + 1))) (2 * i)) (fun i => (fl_GO tu s (bw (2 * b)) (bw (2 * b + 1))) (2 * i + 1)) (fl_D s (bw (2 * b))) ((fl_GO tu s (bw (2 * b)) (bw (2 * b + 1))) k) d (fl_D s (bw (2 * b)) j) e) c0)), z, z2] [] Post) : ∀ (m i : Nat) (z : Option Value), i + m = c0 → ev_E G mX12_turned 6 0 0 n M1 63 [some (.ref 129), some (.int (nI b)), some (.int d), some (.int e), some (.int mo), some (.int (nI k)), some (.int (nI j)), some (.int (sp_cnt (fl_near (fun i => (fl_GO tu s (bw (2 * b)) (bw (2 * b + 1))) (2 * i)) (fun i => (fl_GO tu s (bw (2 * b)) (bw (2 * b + 1))) (2 * i + 1)) (fl_D s (bw (2 * b))) ((fl_GO tu s (bw (2 * b)) (bw (2 * b + 1))) k) d (fl_D s (bw (2 * b)) j) e) i)), some (.int (nI i)), z] [] Post := by
  have hX0 := hX
  obtain ⟨th, nx, tk, pl, va, fa, d0, d1, d2, dS, dB, dA, ik, h129, h130, h131, h132, h133, hk0, hk1, h134, h135, h136, h137, h138, h139, h140, h141, h142, h143, hsh⟩ := hX
  intro m
  induction m with
  | zero =>
    intro i z hi
    refine ev_iload dX12_turned_63 rfl ?_
    refine ev_aload_n (i := 0) dX12_turned_65 rfl rfl ?_
    refine ev_getf dX12_turned_66 flX12_127 (by assumption) (by rfl) ?_
    refine ev_icmp_ge (tgt := 193) dX12_turned_69 (by decide) (fun h69 => ?_) (fun h69 => False.elim (Int32.not_le.mpr h69 (nI_le (a := c0) (b := i) (by omega) (by omega))))
    obtain rfl : i = c0 := by omega
    exact K _ z
  | succ m ih =>
    intro i z hi
    refine ev_iload dX12_turned_63 rfl ?_
    refine ev_aload_n (i := 0) dX12_turned_65 rfl rfl ?_
    refine ev_getf dX12_turned_66 flX12_127 (by assumption) (by rfl) ?_
    refine ev_icmp_ge (tgt := 193) dX12_turned_69 (by decide) (fun h69 => False.elim (nI_ge (a := i) (b := c0) (by omega) (by omega) h69)) (fun h69 => ?_)
    refine ev_aload_n (i := 0) dX12_turned_72 rfl rfl ?_
    refine ev_getf dX12_turned_73 flX12_44 (by assumption) (by rfl) ?_
    refine ev_iconst (v := 2) dX12_turned_76 cni_2 ?_
    refine ev_iload dX12_turned_77 rfl ?_
    refine ev_imul dX12_turned_79 ?_
    refine ev_iald (j := 2 * i) dX12_turned_80 (by assumption) (ev_ix20 i (by omega)) (by omega) ?_
    refine ev_aload_n (i := 0) dX12_turned_81 rfl rfl ?_
    refine ev_getf dX12_turned_82 flX12_44 (by assumption) (by rfl) ?_
    refine ev_iload dX12_turned_85 rfl ?_
    refine ev_iald (j := k) dX12_turned_87 (by assumption) (ev_ix_nI (by omega)) (by omega) ?_
    refine ev_aload_n (i := 0) dX12_turned_88 rfl rfl ?_
    refine ev_getf dX12_turned_89 flX12_44 (by assumption) (by rfl) ?_
    refine ev_iload dX12_turned_92 rfl ?_
    refine ev_iald (j := k) dX12_turned_94 (by assumption) (ev_ix_nI (by omega)) (by omega) ?_
    refine ev_iload_n (i := 2) dX12_turned_95 rfl rfl ?_
    refine ev_iadd dX12_turned_96 ?_
    refine ev_c3 kX12_turned_97 (c13_in) trivial (by decide) (by decide) (Nat.le_of_ble_eq_true rfl) ?_
    refine ev_topi (congrArg ev_b (show _ = sp_in ((fun i => (fl_GO tu s (bw (2 * b)) (bw (2 * b + 1))) (2 * i)) i) ((fl_GO tu s (bw (2 * b)) (bw (2 * b + 1))) k) ((fl_GO tu s (bw (2 * b)) (bw (2 * b + 1))) k + d) from by rw [hg.1 (2 * i) (by omega), hg.1 k (by omega)])) ?_
    refine ev_if_neb (tgt := 136) dX12_turned_100 (by decide) (fun h100 => ?_) (fun h100 => ?_)
    · skip
      refine ev_iconst (v := 1) dX12_turned_136 cni_1 ?_
      refine ev_goto (tgt := 141) dX12_turned_137 (by decide) ?_
      refine ev_istore dX12_turned_141 (Nat.le_of_ble_eq_true rfl) rfl ?_
      refine ev_iload dX12_turned_143 rfl ?_
      refine ev_iload dX12_turned_145 rfl ?_
      refine ev_if_eq (tgt := 183) dX12_turned_147 (by decide) (fun h => absurd h (by decide)) (fun _ => ?_)
      refine ev_aload_n (i := 0) dX12_turned_150 rfl rfl ?_
      refine ev_getf dX12_turned_151 flX12_47 (by assumption) (by rfl) ?_
      refine ev_iload dX12_turned_154 rfl ?_
      refine ev_iald (j := i) dX12_turned_156 (by assumption) (ev_ix_nI (by omega)) (by omega) ?_
      refine ev_aload_n (i := 0) dX12_turned_157 rfl rfl ?_
      refine ev_getf dX12_turned_158 flX12_47 (by assumption) (by rfl) ?_
      refine ev_iload dX12_turned_161 rfl ?_
      refine ev_iald (j := j) dX12_turned_163 (by assumption) (ev_ix_nI (by omega)) (by omega) ?_
      refine ev_aload_n (i := 0) dX12_turned_164 rfl rfl ?_
      refine ev_getf dX12_turned_165 flX12_47 (by assumption) (by rfl) ?_
      refine ev_iload dX12_turned_168 rfl ?_
      refine ev_iald (j := j) dX12_turned_170 (by assumption) (ev_ix_nI (by omega)) (by omega) ?_
      refine ev_iload_n (i := 3) dX12_turned_171 rfl rfl ?_
      refine ev_iadd dX12_turned_172 ?_
      refine ev_c3 kX12_turned_173 (c13_in) trivial (by decide) (by decide) (Nat.le_of_ble_eq_true rfl) ?_
      refine ev_topi (congrArg ev_b (show _ = sp_in (fl_D s (bw (2 * b)) i) (fl_D s (bw (2 * b)) j) (fl_D s (bw (2 * b)) j + e) from by rw [hg.2 i (by omega), hg.2 j (by omega)])) ?_
      refine ev_if_eqb (tgt := 183) dX12_turned_176 (by decide) (fun h176 => ?_) (fun h176 => ?_)
      · skip
        refine ev_iconst (v := 0) dX12_turned_183 cni_0 ?_
        refine ev_iadd dX12_turned_184 ?_
        refine ev_istore dX12_turned_185 (Nat.le_of_ble_eq_true rfl) rfl ?_
        refine ev_iinc (v := nI (i + 1)) dX12_turned_187 rfl (nI_1 i) (Nat.le_of_ble_eq_true rfl) rfl ?_
        refine ev_goto (tgt := 63) dX12_turned_190 (by decide) ?_
        refine ev_loc (L2 := [some (.ref 129), some (.int (nI b)), some (.int d), some (.int e), some (.int mo), some (.int (nI k)), some (.int (nI j)), some (.int (sp_cnt (fl_near (fun i => (fl_GO tu s (bw (2 * b)) (bw (2 * b + 1))) (2 * i)) (fun i => (fl_GO tu s (bw (2 * b)) (bw (2 * b + 1))) (2 * i + 1)) (fl_D s (bw (2 * b))) ((fl_GO tu s (bw (2 * b)) (bw (2 * b + 1))) k) d (fl_D s (bw (2 * b)) j) e) (i + 1))), some (.int (nI (i + 1))), some (.int 1)]) (by rw [sp_cnt_0 (P := fl_near (fun i => (fl_GO tu s (bw (2 * b)) (bw (2 * b + 1))) (2 * i)) (fun i => (fl_GO tu s (bw (2 * b)) (bw (2 * b + 1))) (2 * i + 1)) (fl_D s (bw (2 * b))) ((fl_GO tu s (bw (2 * b)) (bw (2 * b + 1))) k) d (fl_D s (bw (2 * b)) j) e) (k := i) (fl_near_3 h176), nI_add0 (sp_cnt (fl_near (fun i => (fl_GO tu s (bw (2 * b)) (bw (2 * b + 1))) (2 * i)) (fun i => (fl_GO tu s (bw (2 * b)) (bw (2 * b + 1))) (2 * i + 1)) (fl_D s (bw (2 * b))) ((fl_GO tu s (bw (2 * b)) (bw (2 * b + 1))) k) d (fl_D s (bw (2 * b)) j) e) i)]; rfl) (ih (i + 1) _ (by omega))
      · skip
        refine ev_iconst (v := 1) dX12_turned_179 cni_1 ?_
        refine ev_goto (tgt := 184) dX12_turned_180 (by decide) ?_
        refine ev_iadd dX12_turned_184 ?_
        refine ev_istore dX12_turned_185 (Nat.le_of_ble_eq_true rfl) rfl ?_
        refine ev_iinc (v := nI (i + 1)) dX12_turned_187 rfl (nI_1 i) (Nat.le_of_ble_eq_true rfl) rfl ?_
        refine ev_goto (tgt := 63) dX12_turned_190 (by decide) ?_
        refine ev_loc (L2 := [some (.ref 129), some (.int (nI b)), some (.int d), some (.int e), some (.int mo), some (.int (nI k)), some (.int (nI j)), some (.int (sp_cnt (fl_near (fun i => (fl_GO tu s (bw (2 * b)) (bw (2 * b + 1))) (2 * i)) (fun i => (fl_GO tu s (bw (2 * b)) (bw (2 * b + 1))) (2 * i + 1)) (fl_D s (bw (2 * b))) ((fl_GO tu s (bw (2 * b)) (bw (2 * b + 1))) k) d (fl_D s (bw (2 * b)) j) e) (i + 1))), some (.int (nI (i + 1))), some (.int 1)]) (by rw [sp_cnt_1 (P := fl_near (fun i => (fl_GO tu s (bw (2 * b)) (bw (2 * b + 1))) (2 * i)) (fun i => (fl_GO tu s (bw (2 * b)) (bw (2 * b + 1))) (2 * i + 1)) (fl_D s (bw (2 * b))) ((fl_GO tu s (bw (2 * b)) (bw (2 * b + 1))) k) d (fl_D s (bw (2 * b)) j) e) (k := i) (fl_near_1 h100 h176)]; rfl) (ih (i + 1) _ (by omega))
    · skip
      refine ev_aload_n (i := 0) dX12_turned_103 rfl rfl ?_
      refine ev_getf dX12_turned_104 flX12_44 (by assumption) (by rfl) ?_
      refine ev_iconst (v := 2) dX12_turned_107 cni_2 ?_
      refine ev_iload dX12_turned_108 rfl ?_
      refine ev_imul dX12_turned_110 ?_
      refine ev_iconst (v := 1) dX12_turned_111 cni_1 ?_
      refine ev_iadd dX12_turned_112 ?_
      refine ev_iald (j := 2 * i + 1) dX12_turned_113 (by assumption) (ev_ix2 i 1 (by omega)) (by omega) ?_
      refine ev_aload_n (i := 0) dX12_turned_114 rfl rfl ?_
      refine ev_getf dX12_turned_115 flX12_44 (by assumption) (by rfl) ?_
      refine ev_iload dX12_turned_118 rfl ?_
      refine ev_iald (j := k) dX12_turned_120 (by assumption) (ev_ix_nI (by omega)) (by omega) ?_
      refine ev_aload_n (i := 0) dX12_turned_121 rfl rfl ?_
      refine ev_getf dX12_turned_122 flX12_44 (by assumption) (by rfl) ?_
      refine ev_iload dX12_turned_125 rfl ?_
      refine ev_iald (j := k) dX12_turned_127 (by assumption) (ev_ix_nI (by omega)) (by omega) ?_
      refine ev_iload_n (i := 2) dX12_turned_128 rfl rfl ?_
      refine ev_iadd dX12_turned_129 ?_
      refine ev_c3 kX12_turned_130 (c13_in) trivial (by decide) (by decide) (Nat.le_of_ble_eq_true rfl) ?_
      refine ev_topi (congrArg ev_b (show _ = sp_in ((fun i => (fl_GO tu s (bw (2 * b)) (bw (2 * b + 1))) (2 * i + 1)) i) ((fl_GO tu s (bw (2 * b)) (bw (2 * b + 1))) k) ((fl_GO tu s (bw (2 * b)) (bw (2 * b + 1))) k + d) from by rw [hg.1 (2 * i + 1) (by omega), hg.1 k (by omega)])) ?_
      refine ev_if_eqb (tgt := 140) dX12_turned_133 (by decide) (fun g133 => ?_) (fun g133 => ?_)
      · skip
        refine ev_iconst (v := 0) dX12_turned_140 cni_0 ?_
        refine ev_istore dX12_turned_141 (Nat.le_of_ble_eq_true rfl) rfl ?_
        refine ev_iload dX12_turned_143 rfl ?_
        refine ev_iload dX12_turned_145 rfl ?_
        refine ev_if_eq (tgt := 183) dX12_turned_147 (by decide) (fun _ => ?_) (fun h => absurd rfl h)
        refine ev_iconst (v := 0) dX12_turned_183 cni_0 ?_
        refine ev_iadd dX12_turned_184 ?_
        refine ev_istore dX12_turned_185 (Nat.le_of_ble_eq_true rfl) rfl ?_
        refine ev_iinc (v := nI (i + 1)) dX12_turned_187 rfl (nI_1 i) (Nat.le_of_ble_eq_true rfl) rfl ?_
        refine ev_goto (tgt := 63) dX12_turned_190 (by decide) ?_
        refine ev_loc (L2 := [some (.ref 129), some (.int (nI b)), some (.int d), some (.int e), some (.int mo), some (.int (nI k)), some (.int (nI j)), some (.int (sp_cnt (fl_near (fun i => (fl_GO tu s (bw (2 * b)) (bw (2 * b + 1))) (2 * i)) (fun i => (fl_GO tu s (bw (2 * b)) (bw (2 * b + 1))) (2 * i + 1)) (fl_D s (bw (2 * b))) ((fl_GO tu s (bw (2 * b)) (bw (2 * b + 1))) k) d (fl_D s (bw (2 * b)) j) e) (i + 1))), some (.int (nI (i + 1))), some (.int 0)]) (by rw [sp_cnt_0 (P := fl_near (fun i => (fl_GO tu s (bw (2 * b)) (bw (2 * b + 1))) (2 * i)) (fun i => (fl_GO tu s (bw (2 * b)) (bw (2 * b + 1))) (2 * i + 1)) (fl_D s (bw (2 * b))) ((fl_GO tu s (bw (2 * b)) (bw (2 * b + 1))) k) d (fl_D s (bw (2 * b)) j) e) (k := i) (fl_near_4 h100 g133), nI_add0 (sp_cnt (fl_near (fun i => (fl_GO tu s (bw (2 * b)) (bw (2 * b + 1))) (2 * i)) (fun i => (fl_GO tu s (bw (2 * b)) (bw (2 * b + 1))) (2 * i + 1)) (fl_D s (bw (2 * b))) ((fl_GO tu s (bw (2 * b)) (bw (2 * b + 1))) k) d (fl_D s (bw (2 * b)) j) e) i)]; rfl) (ih (i + 1) _ (by omega))
      · skip
        refine ev_iconst (v := 1) dX12_turned_136 cni_1 ?_
        refine ev_goto (tgt := 141) dX12_turned_137 (by decide) ?_
        refine ev_istore dX12_turned_141 (Nat.le_of_ble_eq_true rfl) rfl ?_
        refine ev_iload dX12_turned_143 rfl ?_
        refine ev_iload dX12_turned_145 rfl ?_
        refine ev_if_eq (tgt := 183) dX12_turned_147 (by decide) (fun h => absurd h (by decide)) (fun _ => ?_)
        refine ev_aload_n (i := 0) dX12_turned_150 rfl rfl ?_
        refine ev_getf dX12_turned_151 flX12_47 (by assumption) (by rfl) ?_
        refine ev_iload dX12_turned_154 rfl ?_
        refine ev_iald (j := i) dX12_turned_156 (by assumption) (ev_ix_nI (by omega)) (by omega) ?_
        refine ev_aload_n (i := 0) dX12_turned_157 rfl rfl ?_
        refine ev_getf dX12_turned_158 flX12_47 (by assumption) (by rfl) ?_
        refine ev_iload dX12_turned_161 rfl ?_
        refine ev_iald (j := j) dX12_turned_163 (by assumption) (ev_ix_nI (by omega)) (by omega) ?_
        refine ev_aload_n (i := 0) dX12_turned_164 rfl rfl ?_
        refine ev_getf dX12_turned_165 flX12_47 (by assumption) (by rfl) ?_
        refine ev_iload dX12_turned_168 rfl ?_
        refine ev_iald (j := j) dX12_turned_170 (by assumption) (ev_ix_nI (by omega)) (by omega) ?_
        refine ev_iload_n (i := 3) dX12_turned_171 rfl rfl ?_
        refine ev_iadd dX12_turned_172 ?_
        refine ev_c3 kX12_turned_173 (c13_in) trivial (by decide) (by decide) (Nat.le_of_ble_eq_true rfl) ?_
        refine ev_topi (congrArg ev_b (show _ = sp_in (fl_D s (bw (2 * b)) i) (fl_D s (bw (2 * b)) j) (fl_D s (bw (2 * b)) j + e) from by rw [hg.2 i (by omega), hg.2 j (by omega)])) ?_
        refine ev_if_eqb (tgt := 183) dX12_turned_176 (by decide) (fun h176 => ?_) (fun h176 => ?_)
        · skip
          refine ev_iconst (v := 0) dX12_turned_183 cni_0 ?_
          refine ev_iadd dX12_turned_184 ?_
          refine ev_istore dX12_turned_185 (Nat.le_of_ble_eq_true rfl) rfl ?_
          refine ev_iinc (v := nI (i + 1)) dX12_turned_187 rfl (nI_1 i) (Nat.le_of_ble_eq_true rfl) rfl ?_
          refine ev_goto (tgt := 63) dX12_turned_190 (by decide) ?_
          refine ev_loc (L2 := [some (.ref 129), some (.int (nI b)), some (.int d), some (.int e), some (.int mo), some (.int (nI k)), some (.int (nI j)), some (.int (sp_cnt (fl_near (fun i => (fl_GO tu s (bw (2 * b)) (bw (2 * b + 1))) (2 * i)) (fun i => (fl_GO tu s (bw (2 * b)) (bw (2 * b + 1))) (2 * i + 1)) (fl_D s (bw (2 * b))) ((fl_GO tu s (bw (2 * b)) (bw (2 * b + 1))) k) d (fl_D s (bw (2 * b)) j) e) (i + 1))), some (.int (nI (i + 1))), some (.int 1)]) (by rw [sp_cnt_0 (P := fl_near (fun i => (fl_GO tu s (bw (2 * b)) (bw (2 * b + 1))) (2 * i)) (fun i => (fl_GO tu s (bw (2 * b)) (bw (2 * b + 1))) (2 * i + 1)) (fl_D s (bw (2 * b))) ((fl_GO tu s (bw (2 * b)) (bw (2 * b + 1))) k) d (fl_D s (bw (2 * b)) j) e) (k := i) (fl_near_3 h176), nI_add0 (sp_cnt (fl_near (fun i => (fl_GO tu s (bw (2 * b)) (bw (2 * b + 1))) (2 * i)) (fun i => (fl_GO tu s (bw (2 * b)) (bw (2 * b + 1))) (2 * i + 1)) (fl_D s (bw (2 * b))) ((fl_GO tu s (bw (2 * b)) (bw (2 * b + 1))) k) d (fl_D s (bw (2 * b)) j) e) i)]; rfl) (ih (i + 1) _ (by omega))
        · skip
          refine ev_iconst (v := 1) dX12_turned_179 cni_1 ?_
          refine ev_goto (tgt := 184) dX12_turned_180 (by decide) ?_
          refine ev_iadd dX12_turned_184 ?_
          refine ev_istore dX12_turned_185 (Nat.le_of_ble_eq_true rfl) rfl ?_
          refine ev_iinc (v := nI (i + 1)) dX12_turned_187 rfl (nI_1 i) (Nat.le_of_ble_eq_true rfl) rfl ?_
          refine ev_goto (tgt := 63) dX12_turned_190 (by decide) ?_
          refine ev_loc (L2 := [some (.ref 129), some (.int (nI b)), some (.int d), some (.int e), some (.int mo), some (.int (nI k)), some (.int (nI j)), some (.int (sp_cnt (fl_near (fun i => (fl_GO tu s (bw (2 * b)) (bw (2 * b + 1))) (2 * i)) (fun i => (fl_GO tu s (bw (2 * b)) (bw (2 * b + 1))) (2 * i + 1)) (fl_D s (bw (2 * b))) ((fl_GO tu s (bw (2 * b)) (bw (2 * b + 1))) k) d (fl_D s (bw (2 * b)) j) e) (i + 1))), some (.int (nI (i + 1))), some (.int 1)]) (by rw [sp_cnt_1 (P := fl_near (fun i => (fl_GO tu s (bw (2 * b)) (bw (2 * b + 1))) (2 * i)) (fun i => (fl_GO tu s (bw (2 * b)) (bw (2 * b + 1))) (2 * i + 1)) (fl_D s (bw (2 * b))) ((fl_GO tu s (bw (2 * b)) (bw (2 * b + 1))) k) d (fl_D s (bw (2 * b)) j) e) (k := i) (fl_near_2 g133 h176)]; rfl) (ih (i + 1) _ (by omega))
theorem l_turned_j {G : ev_G} {n : Nat} {M : ev_M} {tn c0 c1 c2 sh : Nat} {tx s kp bw ar tu : Nat → Int32} {k0 k1 : Bool} {tr : Int64} {one gof dof act : Nat → Int32} {sp of' ba go dr ki : Int32} {up dn : Int64} (hc : c0 ≤ 12) {b : Nat} {M1 : ev_M} (hX : md_X M1 tn c0 c1 c2 sh tx s kp bw ar tu k0 k1 tr one gof dof act sp of' ba go dr ki up dn) (hf1 : ∀ k, k < 129 → M1 k = M k) (hg : (∀ k, k < 2 * c0 → gof k = fl_GO tu s (bw (2 * b)) (bw (2 * b + 1)) (k)) ∧ ∀ k, k < c0 → dof k = fl_D s (bw (2 * b)) (k)) {d e : Int32} {Post : Option Value → ev_M → Prop} {k : Nat} {mo : Int32} (hk : k < 2 * c0) (K : ∀ z z2 z3 : Option Value, ev_E G mX12_turned 6 0 0 n M1 215 [some (.ref 129), some (.int (nI b)), some (.int d), some (.int e), some (.int (tm_j ((tu_C tu s (bw (2 * b)) (bw (2 * b + 1)) d e c0) k) mo c0)), some (.int (nI k)), some (.int (nI c0)), z, z2, z3] [] Post) : ∀ (m j : Nat) (z z2 z3 : Option Value), j + m = c0 → ev_E G mX12_turned 6 0 0 n M1 48 [some (.ref 129), some (.int (nI b)), some (.int d), some (.int e), some (.int (tm_j ((tu_C tu s (bw (2 * b)) (bw (2 * b + 1)) d e c0) k) mo j)), some (.int (nI k)), some (.int (nI j)), z, z2, z3] [] Post := by
  have hX0 := hX
  obtain ⟨th, nx, tk, pl, va, fa, d0, d1, d2, dS, dB, dA, ik, h129, h130, h131, h132, h133, hk0, hk1, h134, h135, h136, h137, h138, h139, h140, h141, h142, h143, hsh⟩ := hX
  intro m
  induction m with
  | zero =>
    intro j z z2 z3 hj
    refine ev_iload dX12_turned_48 rfl ?_
    refine ev_aload_n (i := 0) dX12_turned_50 rfl rfl ?_
    refine ev_getf dX12_turned_51 flX12_127 (by assumption) (by rfl) ?_
    refine ev_icmp_ge (tgt := 215) dX12_turned_54 (by decide) (fun h54 => ?_) (fun h54 => False.elim (Int32.not_le.mpr h54 (nI_le (a := c0) (b := j) (by omega) (by omega))))
    obtain rfl : j = c0 := by omega
    exact K z z2 z3
  | succ m ih =>
    intro j z z2 z3 hj
    refine ev_iload dX12_turned_48 rfl ?_
    refine ev_aload_n (i := 0) dX12_turned_50 rfl rfl ?_
    refine ev_getf dX12_turned_51 flX12_127 (by assumption) (by rfl) ?_
    refine ev_icmp_ge (tgt := 215) dX12_turned_54 (by decide) (fun h54 => False.elim (nI_ge (a := j) (b := c0) (by omega) (by omega) h54)) (fun h54 => ?_)
    refine ev_iconst (v := 0) dX12_turned_57 cni_0 ?_
    refine ev_istore dX12_turned_58 (Nat.le_of_ble_eq_true rfl) rfl ?_
    refine ev_iconst (v := 0) dX12_turned_60 cni_0 ?_
    refine ev_istore dX12_turned_61 (Nat.le_of_ble_eq_true rfl) rfl ?_
    refine l_turned_i (mo := (tm_j ((tu_C tu s (bw (2 * b)) (bw (2 * b + 1)) d e c0) k) mo j)) hc hX0 hf1 hg hk (by omega) (fun y y2 => ?_) c0 0 _ (Nat.zero_add _)
    refine ev_loc (L2 := [some (.ref 129), some (.int (nI b)), some (.int d), some (.int e), some (.int (tm_j ((tu_C tu s (bw (2 * b)) (bw (2 * b + 1)) d e c0) k) mo j)), some (.int (nI k)), some (.int (nI j)), some (.int ((tu_C tu s (bw (2 * b)) (bw (2 * b + 1)) d e c0) k j)), y, y2]) rfl ?_
    refine ev_iload dX12_turned_193 rfl ?_
    refine ev_iload dX12_turned_195 rfl ?_
    refine ev_icmp_le (tgt := 205) dX12_turned_197 (by decide) (fun h197 => ?_) (fun h197 => ?_)
    · skip
      refine ev_iload dX12_turned_205 rfl ?_
      refine ev_istore dX12_turned_207 (Nat.le_of_ble_eq_true rfl) rfl ?_
      refine ev_iinc (v := nI (j + 1)) dX12_turned_209 rfl (nI_1 j) (Nat.le_of_ble_eq_true rfl) rfl ?_
      refine ev_goto (tgt := 48) dX12_turned_212 (by decide) ?_
      refine ev_loc (L2 := [some (.ref 129), some (.int (nI b)), some (.int d), some (.int e), some (.int (tm_j ((tu_C tu s (bw (2 * b)) (bw (2 * b + 1)) d e c0) k) mo (j + 1))), some (.int (nI k)), some (.int (nI (j + 1))), some (.int ((tu_C tu s (bw (2 * b)) (bw (2 * b + 1)) d e c0) k j)), y, y2]) (by rw [tm_j_0 (C := (tu_C tu s (bw (2 * b)) (bw (2 * b + 1)) d e c0) k) (m := mo) (j := j) h197]; rfl) (ih (j + 1) _ _ _ (by omega))
    · skip
      refine ev_iload dX12_turned_200 rfl ?_
      refine ev_goto (tgt := 207) dX12_turned_202 (by decide) ?_
      refine ev_istore dX12_turned_207 (Nat.le_of_ble_eq_true rfl) rfl ?_
      refine ev_iinc (v := nI (j + 1)) dX12_turned_209 rfl (nI_1 j) (Nat.le_of_ble_eq_true rfl) rfl ?_
      refine ev_goto (tgt := 48) dX12_turned_212 (by decide) ?_
      refine ev_loc (L2 := [some (.ref 129), some (.int (nI b)), some (.int d), some (.int e), some (.int (tm_j ((tu_C tu s (bw (2 * b)) (bw (2 * b + 1)) d e c0) k) mo (j + 1))), some (.int (nI k)), some (.int (nI (j + 1))), some (.int ((tu_C tu s (bw (2 * b)) (bw (2 * b + 1)) d e c0) k j)), y, y2]) (by rw [tm_j_1 (C := (tu_C tu s (bw (2 * b)) (bw (2 * b + 1)) d e c0) k) (m := mo) (j := j) h197]; rfl) (ih (j + 1) _ _ _ (by omega))
theorem l_turned_k {G : ev_G} {n : Nat} {M : ev_M} {tn c0 c1 c2 sh : Nat} {tx s kp bw ar tu : Nat → Int32} {k0 k1 : Bool} {tr : Int64} {one gof dof act : Nat → Int32} {sp of' ba go dr ki : Int32} {up dn : Int64} (hc : c0 ≤ 12) {b : Nat} {M1 : ev_M} (hX : md_X M1 tn c0 c1 c2 sh tx s kp bw ar tu k0 k1 tr one gof dof act sp of' ba go dr ki up dn) (hf1 : ∀ k, k < 129 → M1 k = M k) (hg : (∀ k, k < 2 * c0 → gof k = fl_GO tu s (bw (2 * b)) (bw (2 * b + 1)) (k)) ∧ ∀ k, k < c0 → dof k = fl_D s (bw (2 * b)) (k)) {d e : Int32} : ∀ (m k : Nat) (z0 z z2 z3 : Option Value), k + m = 2 * c0 → ev_E G mX12_turned 6 0 0 n M1 34 [some (.ref 129), some (.int (nI b)), some (.int d), some (.int e), some (.int (tm_k (tu_C tu s (bw (2 * b)) (bw (2 * b + 1)) d e c0) c0 k)), some (.int (nI k)), z0, z, z2, z3] [] (md_is M (.int (tm_k (tu_C tu s (bw (2 * b)) (bw (2 * b + 1)) d e c0) c0 (2 * c0))) tn c0 c1 c2 sh tx s kp bw ar tu k0 k1 tr) := by
  have hX0 := hX
  obtain ⟨th, nx, tk, pl, va, fa, d0, d1, d2, dS, dB, dA, ik, h129, h130, h131, h132, h133, hk0, hk1, h134, h135, h136, h137, h138, h139, h140, h141, h142, h143, hsh⟩ := hX
  intro m
  induction m with
  | zero =>
    intro k z0 z z2 z3 hk
    refine ev_iload dX12_turned_34 rfl ?_
    refine ev_iconst (v := 2) dX12_turned_36 cni_2 ?_
    refine ev_aload_n (i := 0) dX12_turned_37 rfl rfl ?_
    refine ev_getf dX12_turned_38 flX12_127 (by assumption) (by rfl) ?_
    refine ev_imul dX12_turned_41 ?_
    refine ev_topi (nI_mul 2 c0) ?_
    refine ev_icmp_ge (tgt := 221) dX12_turned_42 (by decide) (fun h42 => ?_) (fun h42 => False.elim (Int32.not_le.mpr h42 (nI_le (a := 2 * c0) (b := k) (by omega) (by omega))))
    refine ev_iload dX12_turned_221 rfl ?_
    exact ev_reti dX12_turned_223 rfl rfl (⟨by rw [show k = 2 * c0 by omega], md_XS hX0, hf1⟩)
  | succ m ih =>
    intro k z0 z z2 z3 hk
    refine ev_iload dX12_turned_34 rfl ?_
    refine ev_iconst (v := 2) dX12_turned_36 cni_2 ?_
    refine ev_aload_n (i := 0) dX12_turned_37 rfl rfl ?_
    refine ev_getf dX12_turned_38 flX12_127 (by assumption) (by rfl) ?_
    refine ev_imul dX12_turned_41 ?_
    refine ev_topi (nI_mul 2 c0) ?_
    refine ev_icmp_ge (tgt := 221) dX12_turned_42 (by decide) (fun h42 => False.elim (nI_ge (a := k) (b := 2 * c0) (by omega) (by omega) h42)) (fun h42 => ?_)
    refine ev_iconst (v := 0) dX12_turned_45 cni_0 ?_
    refine ev_istore dX12_turned_46 (Nat.le_of_ble_eq_true rfl) rfl ?_
    refine l_turned_j (mo := tm_k (tu_C tu s (bw (2 * b)) (bw (2 * b + 1)) d e c0) c0 k) hc hX0 hf1 hg (by omega) (fun y y2 y3 => ?_) c0 0 _ _ _ (Nat.zero_add _)
    refine ev_iinc (v := nI (k + 1)) dX12_turned_215 rfl (nI_1 k) (Nat.le_of_ble_eq_true rfl) rfl ?_
    refine ev_goto (tgt := 34) dX12_turned_218 (by decide) ?_
    exact ih (k + 1) _ _ _ _ (by omega)
theorem m_turned {G : ev_G} {n : Nat} {M : ev_M} {tn c0 c1 c2 sh : Nat} {tx s kp bw ar tu : Nat → Int32} {k0 k1 : Bool} {tr : Int64} (hM : md_S M tn c0 c1 c2 sh tx s kp bw ar tu k0 k1 tr) {b : Nat} (hb : b < c1) (hc1 : c1 ≤ 3) (hc : c0 ≤ 12) (hs : ∀ i, i < c0 → sk_ok (fun q => s (7 * i + q))) (hw : bw_ok (bw (2 * b)) (bw (2 * b + 1))) (ht : tu_ok tu) {d e : Int32} (hde : (sp_in d 0 999 && sp_in e 0 999) = true) : ev_Cal G mX12_turned 6 0 0 [.ref 129, .int (nI b), .int d, .int e] n M (md_is M (.int (tm_k (tu_C tu s (bw (2 * b)) (bw (2 * b + 1)) d e c0) c0 (2 * c0))) tn c0 c1 c2 sh tx s kp bw ar tu k0 k1 tr) := by
  refine ev_Cal_of (L := [some (.ref 129), some (.int (nI b)), some (.int d), some (.int e), none, none, none, none, none, none]) (by decide +kernel) (Nat.le_of_ble_eq_true rfl) rfl ?_
  refine md_thr hM dX12_turned_0 dX12_turned_1 dX12_turned_2 rfl rfl (fun M1 hM1 hf1 => ?_)
  obtain ⟨one, gof, dof, act, sp, of', ba, go, dr, ki, up, dn, hX⟩ := md_SX hM1
  have hX0 := hX
  obtain ⟨th, nx, tk, pl, va, fa, d0, d1, d2, dS, dB, dA, ik, h129, h130, h131, h132, h133, hk0, hk1, h134, h135, h136, h137, h138, h139, h140, h141, h142, h143, hsh⟩ := hX
  refine ev_aload_n (i := 0) dX12_turned_5 rfl rfl ?_
  refine ev_iload_n (i := 1) dX12_turned_6 rfl rfl ?_
  refine ev_c2 kX12_turned_7 (c13_isBow h129) (ev_rv_of (by assumption) rfl rfl) (by decide) (by decide) (Nat.le_of_ble_eq_true rfl) ?_
  refine ev_if_eqb (tgt := 21) dX12_turned_10 (by decide) (fun h10 => False.elim (Bool.false_ne_true (h10.symm.trans (sp_in_ix hb (by omega))))) (fun h10 => ?_)
  refine ev_iload_n (i := 2) dX12_turned_13 rfl rfl ?_
  refine ev_iload_n (i := 3) dX12_turned_14 rfl rfl ?_
  refine ev_c2 kX12_turned_15 (c13_areSame) trivial (by decide) (by decide) (Nat.le_of_ble_eq_true rfl) ?_
  refine ev_if_neb (tgt := 23) dX12_turned_18 (by decide) (fun h18 => ?_) (fun h18 => False.elim (Bool.false_ne_true (h18.symm.trans (hde))))
  refine ev_aload_n (i := 0) dX12_turned_23 rfl rfl ?_
  refine ev_iload_n (i := 1) dX12_turned_24 rfl rfl ?_
  refine ev_d2 kX12_turned_25 (m_fliesAll hX0 hb hc1 hc hs hw ht) (ev_rv_of (by assumption) rfl rfl) (by decide) (by decide) (Nat.le_of_ble_eq_true rfl) ?_
  intro r M2 hr
  obtain ⟨rfl, hG0, hf2⟩ := hr
  obtain ⟨one, gof, dof, act, sp, of', ba, go, dr, ki, up, dn, hX1, hg⟩ := hG0
  have hX := hX1
  obtain ⟨th, nx, tk, pl, va, fa, d0, d1, d2, dS, dB, dA, ik, h129, h130, h131, h132, h133, hk0, hk1, h134, h135, h136, h137, h138, h139, h140, h141, h142, h143, hsh⟩ := hX
  refine ev_iconst (v := 0) dX12_turned_28 cni_0 ?_
  refine ev_istore dX12_turned_29 (Nat.le_of_ble_eq_true rfl) rfl ?_
  refine ev_iconst (v := 0) dX12_turned_31 cni_0 ?_
  refine ev_istore dX12_turned_32 (Nat.le_of_ble_eq_true rfl) rfl ?_
  exact l_turned_k hc hX1 (fun k hk => (hf2 k hk).trans (hf1 k hk)) hg (2 * c0) 0 _ _ _ _ (Nat.zero_add _)
theorem m_turned_no {G : ev_G} {n : Nat} {M : ev_M} {tn c0 c1 c2 sh : Nat} {tx s kp bw ar tu : Nat → Int32} {k0 k1 : Bool} {tr : Int64} (hM : md_S M tn c0 c1 c2 sh tx s kp bw ar tu k0 k1 tr) {xb d e : Int32} (h : (sp_in xb 0 (nI c1 - 1) && (sp_in d 0 999 && sp_in e 0 999)) = false) : ev_Cal G mX12_turned 6 0 0 [.ref 129, .int xb, .int d, .int e] n M (md_is M (.int (-1)) tn c0 c1 c2 sh tx s kp bw ar tu k0 k1 tr) := by
  refine ev_Cal_of (L := [some (.ref 129), some (.int xb), some (.int d), some (.int e), none, none, none, none, none, none]) (by decide +kernel) (Nat.le_of_ble_eq_true rfl) rfl ?_
  refine md_thr hM dX12_turned_0 dX12_turned_1 dX12_turned_2 rfl rfl (fun M1 hM1 hf1 => ?_)
  obtain ⟨one, gof, dof, act, sp, of', ba, go, dr, ki, up, dn, hX⟩ := md_SX hM1
  have hX0 := hX
  obtain ⟨th, nx, tk, pl, va, fa, d0, d1, d2, dS, dB, dA, ik, h129, h130, h131, h132, h133, hk0, hk1, h134, h135, h136, h137, h138, h139, h140, h141, h142, h143, hsh⟩ := hX
  refine ev_aload_n (i := 0) dX12_turned_5 rfl rfl ?_
  refine ev_iload_n (i := 1) dX12_turned_6 rfl rfl ?_
  refine ev_c2 kX12_turned_7 (c13_isBow h129) (ev_rv_of (by assumption) rfl rfl) (by decide) (by decide) (Nat.le_of_ble_eq_true rfl) ?_
  refine ev_if_eqb (tgt := 21) dX12_turned_10 (by decide) (fun h10 => ?_) (fun h10 => ?_)
  · skip
    refine ev_iconst (v := (-1)) dX12_turned_21 cni_m1 ?_
    exact ev_reti dX12_turned_22 rfl rfl (⟨rfl, md_XS hX0, hf1⟩)
  · skip
    refine ev_iload_n (i := 2) dX12_turned_13 rfl rfl ?_
    refine ev_iload_n (i := 3) dX12_turned_14 rfl rfl ?_
    refine ev_c2 kX12_turned_15 (c13_areSame) trivial (by decide) (by decide) (Nat.le_of_ble_eq_true rfl) ?_
    refine ev_if_neb (tgt := 23) dX12_turned_18 (by decide) (fun h18 => False.elim (by rw [h10, h18] at h; cases h)) (fun h18 => ?_)
    refine ev_iconst (v := (-1)) dX12_turned_21 cni_m1 ?_
    exact ev_reti dX12_turned_22 rfl rfl (⟨rfl, md_XS hX0, hf1⟩)
theorem l_spread {G : ev_G} {n : Nat} {M : ev_M} {tn c0 c1 c2 sh : Nat} {tx s kp bw ar tu : Nat → Int32} {k0 k1 : Bool} {tr : Int64} {one gof dof act : Nat → Int32} {sp of' ba go dr ki : Int32} {up dn : Int64} {M1 : ev_M} (hX : md_X M1 tn c0 c1 c2 sh tx s kp bw ar tu k0 k1 tr one gof dof act sp of' ba go dr ki up dn) (hf1 : ∀ k, k < 129 → M1 k = M k) (hsz : sh ≤ 60) {x : Int32} : ∀ (m k c : Nat) (z : Option Value), k + m = sh → c ≤ k → (sp_spr (fun k => s (86 + 5 * k)) (fun k => s (86 + 5 * k + 3)) x k).1 = decide (0 < c) → ev_E G mX12_spread 3 0 0 n M1 25 [some (.ref 129), some (.int x), some (.int (nI c)), some (.int (sp_spr (fun k => s (86 + 5 * k)) (fun k => s (86 + 5 * k + 3)) x k).2.1), some (.int (sp_spr (fun k => s (86 + 5 * k)) (fun k => s (86 + 5 * k + 3)) x k).2.2), some (.int (nI k)), z] [] (md_is M (.int (sp_spread (fun k => s (86 + 5 * k)) (fun k => s (86 + 5 * k + 3)) x sh)) tn c0 c1 c2 sh tx s kp bw ar tu k0 k1 tr) := by
  have hX0 := hX
  obtain ⟨th, nx, tk, pl, va, fa, d0, d1, d2, dS, dB, dA, ik, h129, h130, h131, h132, h133, hk0, hk1, h134, h135, h136, h137, h138, h139, h140, h141, h142, h143, hsh⟩ := hX
  intro m
  induction m with
  | zero =>
    intro k c z hk hck hq
    refine ev_iload dX12_spread_25 rfl ?_
    refine ev_aload_n (i := 0) dX12_spread_27 rfl rfl ?_
    refine ev_getf dX12_spread_28 flX12_13 (by assumption) (by rfl) ?_
    refine ev_bipush (v := 85) dX12_spread_31 cnb_85 ?_
    refine ev_iald (j := 85) dX12_spread_33 (by assumption) (ev_ixc (j := 85) rfl (by decide)) (by decide) ?_
    refine ev_topi hsh ?_
    refine ev_icmp_ge (tgt := 115) dX12_spread_34 (by decide) (fun h34 => ?_) (fun h34 => False.elim (Int32.not_le.mpr h34 (nI_le (a := sh) (b := k) (by omega) (by omega))))
    refine ev_iload_n (i := 2) dX12_spread_115 rfl rfl ?_
    refine ev_if_ne (tgt := 124) dX12_spread_116 (by decide) (fun h116 => ?_) (fun h116 => ?_)
    · skip
      refine ev_iload dX12_spread_124 rfl ?_
      refine ev_iload_n (i := 3) dX12_spread_126 rfl rfl ?_
      refine ev_isub dX12_spread_127 ?_
      exact ev_reti dX12_spread_128 rfl rfl (⟨by have e : k = sh := (by omega); subst e; unfold sp_spread; rw [hq]; first | (rw [decide_eq_false (show ¬ 0 < c from fun z => nI_ne0 z (by omega) h116)]; rfl) | (rw [decide_eq_true (show 0 < c from Nat.pos_of_ne_zero (fun z => h116 (by rw [z]; rfl)))]; rfl), md_XS hX0, hf1⟩)
    · skip
      refine ev_bipush (v := (-9)) dX12_spread_119 cnb_m9 ?_
      refine ev_goto (tgt := 128) dX12_spread_121 (by decide) ?_
      exact ev_reti dX12_spread_128 rfl rfl (⟨by have e : k = sh := (by omega); subst e; unfold sp_spread; rw [hq]; first | (rw [decide_eq_false (show ¬ 0 < c from fun z => nI_ne0 z (by omega) h116)]; rfl) | (rw [decide_eq_true (show 0 < c from Nat.pos_of_ne_zero (fun z => h116 (by rw [z]; rfl)))]; rfl), md_XS hX0, hf1⟩)
  | succ m ih =>
    intro k c z hk hck hq
    refine ev_iload dX12_spread_25 rfl ?_
    refine ev_aload_n (i := 0) dX12_spread_27 rfl rfl ?_
    refine ev_getf dX12_spread_28 flX12_13 (by assumption) (by rfl) ?_
    refine ev_bipush (v := 85) dX12_spread_31 cnb_85 ?_
    refine ev_iald (j := 85) dX12_spread_33 (by assumption) (ev_ixc (j := 85) rfl (by decide)) (by decide) ?_
    refine ev_topi hsh ?_
    refine ev_icmp_ge (tgt := 115) dX12_spread_34 (by decide) (fun h34 => False.elim (nI_ge (a := k) (b := sh) (by omega) (by omega) h34)) (fun h34 => ?_)
    refine ev_aload_n (i := 0) dX12_spread_37 rfl rfl ?_
    refine ev_getf dX12_spread_38 flX12_13 (by assumption) (by rfl) ?_
    refine ev_bipush (v := 86) dX12_spread_41 cnb_86 ?_
    refine ev_iconst (v := 5) dX12_spread_43 cni_5 ?_
    refine ev_iload dX12_spread_44 rfl ?_
    refine ev_imul dX12_spread_46 ?_
    refine ev_iadd dX12_spread_47 ?_
    refine ev_iconst (v := 3) dX12_spread_48 cni_3 ?_
    refine ev_iadd dX12_spread_49 ?_
    refine ev_iald (j := 86 + 5 * k + 3) dX12_spread_50 (by assumption) (ev_ixc (by show nI 86 + nI 5 * nI k + nI 3 = _; rw [nI_mul, nI_add, nI_add]) (by omega)) (by omega) ?_
    refine ev_istore dX12_spread_51 (Nat.le_of_ble_eq_true rfl) rfl ?_
    refine ev_aload_n (i := 0) dX12_spread_53 rfl rfl ?_
    refine ev_getf dX12_spread_54 flX12_13 (by assumption) (by rfl) ?_
    refine ev_bipush (v := 86) dX12_spread_57 cnb_86 ?_
    refine ev_iconst (v := 5) dX12_spread_59 cni_5 ?_
    refine ev_iload dX12_spread_60 rfl ?_
    refine ev_imul dX12_spread_62 ?_
    refine ev_iadd dX12_spread_63 ?_
    refine ev_iald (j := 86 + 5 * k) dX12_spread_64 (by assumption) (ev_ixc (by show nI 86 + nI 5 * nI k = _; rw [nI_mul, nI_add]) (by omega)) (by omega) ?_
    refine ev_iload_n (i := 1) dX12_spread_65 rfl rfl ?_
    refine ev_icmp_ne (tgt := 109) dX12_spread_66 (by decide) (fun h66 => ?_) (fun h66 => ?_)
    · skip
      refine ev_iinc (v := nI (k + 1)) dX12_spread_109 rfl (nI_1 k) (Nat.le_of_ble_eq_true rfl) rfl ?_
      refine ev_goto (tgt := 25) dX12_spread_112 (by decide) ?_
      refine ev_loc (L2 := [some (.ref 129), some (.int x), some (.int (nI c)), some (.int (sp_spr (fun k => s (86 + 5 * k)) (fun k => s (86 + 5 * k + 3)) x (k + 1)).2.1), some (.int (sp_spr (fun k => s (86 + 5 * k)) (fun k => s (86 + 5 * k + 3)) x (k + 1)).2.2), some (.int (nI (k + 1))), some (.int (s (86 + 5 * k + 3)))]) (by rw [sp_spr_0 (st := (fun k => s (86 + 5 * k))) (xs := (fun k => s (86 + 5 * k + 3))) (i := x) (k := k) h66]; rfl) (ih (k + 1) c _ (by omega) (by omega) (by rw [sp_spr_0 (st := (fun k => s (86 + 5 * k))) (xs := (fun k => s (86 + 5 * k + 3))) (i := x) (k := k) h66]; exact hq))
    · skip
      refine ev_iload_n (i := 2) dX12_spread_69 rfl rfl ?_
      refine ev_if_eq (tgt := 79) dX12_spread_70 (by decide) (fun h70 => ?_) (fun h70 => ?_)
      · skip
        have hz : c = 0 := Nat.eq_zero_of_not_pos (fun z => nI_ne0 z (by omega) h70)
        have hf : (sp_spr (fun k => s (86 + 5 * k)) (fun k => s (86 + 5 * k + 3)) x k).1 = false := by rw [hq, hz]; rfl
        refine ev_iload dX12_spread_79 rfl ?_
        refine ev_goto (tgt := 85) dX12_spread_81 (by decide) ?_
        refine ev_istore_n (i := 3) dX12_spread_85 rfl (Nat.le_of_ble_eq_true rfl) rfl ?_
        refine ev_iload_n (i := 2) dX12_spread_86 rfl rfl ?_
        refine ev_if_eq (tgt := 97) dX12_spread_87 (by decide) (fun _ => ?_) (fun h87 => absurd h70 h87)
        refine ev_iload dX12_spread_97 rfl ?_
        refine ev_goto (tgt := 104) dX12_spread_99 (by decide) ?_
        refine ev_istore dX12_spread_104 (Nat.le_of_ble_eq_true rfl) rfl ?_
        refine ev_iinc (v := nI (c + 1)) dX12_spread_106 rfl (nI_1 c) (Nat.le_of_ble_eq_true rfl) rfl ?_
        refine ev_iinc (v := nI (k + 1)) dX12_spread_109 rfl (nI_1 k) (Nat.le_of_ble_eq_true rfl) rfl ?_
        refine ev_goto (tgt := 25) dX12_spread_112 (by decide) ?_
        refine ev_loc (L2 := [some (.ref 129), some (.int x), some (.int (nI (c + 1))), some (.int (sp_spr (fun k => s (86 + 5 * k)) (fun k => s (86 + 5 * k + 3)) x (k + 1)).2.1), some (.int (sp_spr (fun k => s (86 + 5 * k)) (fun k => s (86 + 5 * k + 3)) x (k + 1)).2.2), some (.int (nI (k + 1))), some (.int (s (86 + 5 * k + 3)))]) (by rw [sp_spr_f (st := (fun k => s (86 + 5 * k))) (xs := (fun k => s (86 + 5 * k + 3))) (i := x) (k := k) h66 hf]; rfl) (ih (k + 1) (c + 1) _ (by omega) (by omega) (by rw [sp_spr_f (st := (fun k => s (86 + 5 * k))) (xs := (fun k => s (86 + 5 * k + 3))) (i := x) (k := k) h66 hf]; rfl))
      · skip
        have hz : 0 < c := Nat.pos_of_ne_zero (fun z => h70 (by rw [z]; rfl))
        have hf : (sp_spr (fun k => s (86 + 5 * k)) (fun k => s (86 + 5 * k + 3)) x k).1 = true := by rw [hq, decide_eq_true hz]
        refine ev_iload dX12_spread_73 rfl ?_
        refine ev_iload_n (i := 3) dX12_spread_75 rfl rfl ?_
        refine ev_icmp_ge (tgt := 84) dX12_spread_76 (by decide) (fun h76 => ?_) (fun h76 => ?_)
        · skip
          refine ev_iload_n (i := 3) dX12_spread_84 rfl rfl ?_
          refine ev_istore_n (i := 3) dX12_spread_85 rfl (Nat.le_of_ble_eq_true rfl) rfl ?_
          refine ev_iload_n (i := 2) dX12_spread_86 rfl rfl ?_
          refine ev_if_eq (tgt := 97) dX12_spread_87 (by decide) (fun h87 => absurd h87 h70) (fun _ => ?_)
          refine ev_iload dX12_spread_90 rfl ?_
          refine ev_iload dX12_spread_92 rfl ?_
          refine ev_icmp_le (tgt := 102) dX12_spread_94 (by decide) (fun h94 => ?_) (fun h94 => ?_)
          · skip
            refine ev_iload dX12_spread_102 rfl ?_
            refine ev_istore dX12_spread_104 (Nat.le_of_ble_eq_true rfl) rfl ?_
            refine ev_iinc (v := nI (c + 1)) dX12_spread_106 rfl (nI_1 c) (Nat.le_of_ble_eq_true rfl) rfl ?_
            refine ev_iinc (v := nI (k + 1)) dX12_spread_109 rfl (nI_1 k) (Nat.le_of_ble_eq_true rfl) rfl ?_
            refine ev_goto (tgt := 25) dX12_spread_112 (by decide) ?_
            refine ev_loc (L2 := [some (.ref 129), some (.int x), some (.int (nI (c + 1))), some (.int (sp_spr (fun k => s (86 + 5 * k)) (fun k => s (86 + 5 * k + 3)) x (k + 1)).2.1), some (.int (sp_spr (fun k => s (86 + 5 * k)) (fun k => s (86 + 5 * k + 3)) x (k + 1)).2.2), some (.int (nI (k + 1))), some (.int (s (86 + 5 * k + 3)))]) (by rw [sp_spr_t (st := (fun k => s (86 + 5 * k))) (xs := (fun k => s (86 + 5 * k + 3))) (i := x) (k := k) h66 hf]; show _ = [_, _, _, some (Value.int (sp_min _ _)), some (Value.int (sp_max _ _)), _, _]; rw [(show sp_min (sp_spr (fun k => s (86 + 5 * k)) (fun k => s (86 + 5 * k + 3)) x k).2.1 (s (86 + 5 * k + 3)) = (sp_spr (fun k => s (86 + 5 * k)) (fun k => s (86 + 5 * k + 3)) x k).2.1 from if_neg (Int32.not_lt.mpr h76)), (show sp_max (sp_spr (fun k => s (86 + 5 * k)) (fun k => s (86 + 5 * k + 3)) x k).2.2 (s (86 + 5 * k + 3)) = (sp_spr (fun k => s (86 + 5 * k)) (fun k => s (86 + 5 * k + 3)) x k).2.2 from if_neg (Int32.not_lt.mpr h94))]; rfl) (ih (k + 1) (c + 1) _ (by omega) (by omega) (by rw [sp_spr_t (st := (fun k => s (86 + 5 * k))) (xs := (fun k => s (86 + 5 * k + 3))) (i := x) (k := k) h66 hf]; rfl))
          · skip
            refine ev_iload dX12_spread_97 rfl ?_
            refine ev_goto (tgt := 104) dX12_spread_99 (by decide) ?_
            refine ev_istore dX12_spread_104 (Nat.le_of_ble_eq_true rfl) rfl ?_
            refine ev_iinc (v := nI (c + 1)) dX12_spread_106 rfl (nI_1 c) (Nat.le_of_ble_eq_true rfl) rfl ?_
            refine ev_iinc (v := nI (k + 1)) dX12_spread_109 rfl (nI_1 k) (Nat.le_of_ble_eq_true rfl) rfl ?_
            refine ev_goto (tgt := 25) dX12_spread_112 (by decide) ?_
            refine ev_loc (L2 := [some (.ref 129), some (.int x), some (.int (nI (c + 1))), some (.int (sp_spr (fun k => s (86 + 5 * k)) (fun k => s (86 + 5 * k + 3)) x (k + 1)).2.1), some (.int (sp_spr (fun k => s (86 + 5 * k)) (fun k => s (86 + 5 * k + 3)) x (k + 1)).2.2), some (.int (nI (k + 1))), some (.int (s (86 + 5 * k + 3)))]) (by rw [sp_spr_t (st := (fun k => s (86 + 5 * k))) (xs := (fun k => s (86 + 5 * k + 3))) (i := x) (k := k) h66 hf]; show _ = [_, _, _, some (Value.int (sp_min _ _)), some (Value.int (sp_max _ _)), _, _]; rw [(show sp_min (sp_spr (fun k => s (86 + 5 * k)) (fun k => s (86 + 5 * k + 3)) x k).2.1 (s (86 + 5 * k + 3)) = (sp_spr (fun k => s (86 + 5 * k)) (fun k => s (86 + 5 * k + 3)) x k).2.1 from if_neg (Int32.not_lt.mpr h76)), (show sp_max (sp_spr (fun k => s (86 + 5 * k)) (fun k => s (86 + 5 * k + 3)) x k).2.2 (s (86 + 5 * k + 3)) = s (86 + 5 * k + 3) from if_pos h94)]; rfl) (ih (k + 1) (c + 1) _ (by omega) (by omega) (by rw [sp_spr_t (st := (fun k => s (86 + 5 * k))) (xs := (fun k => s (86 + 5 * k + 3))) (i := x) (k := k) h66 hf]; rfl))
        · skip
          refine ev_iload dX12_spread_79 rfl ?_
          refine ev_goto (tgt := 85) dX12_spread_81 (by decide) ?_
          refine ev_istore_n (i := 3) dX12_spread_85 rfl (Nat.le_of_ble_eq_true rfl) rfl ?_
          refine ev_iload_n (i := 2) dX12_spread_86 rfl rfl ?_
          refine ev_if_eq (tgt := 97) dX12_spread_87 (by decide) (fun h87 => absurd h87 h70) (fun _ => ?_)
          refine ev_iload dX12_spread_90 rfl ?_
          refine ev_iload dX12_spread_92 rfl ?_
          refine ev_icmp_le (tgt := 102) dX12_spread_94 (by decide) (fun h94 => ?_) (fun h94 => ?_)
          · skip
            refine ev_iload dX12_spread_102 rfl ?_
            refine ev_istore dX12_spread_104 (Nat.le_of_ble_eq_true rfl) rfl ?_
            refine ev_iinc (v := nI (c + 1)) dX12_spread_106 rfl (nI_1 c) (Nat.le_of_ble_eq_true rfl) rfl ?_
            refine ev_iinc (v := nI (k + 1)) dX12_spread_109 rfl (nI_1 k) (Nat.le_of_ble_eq_true rfl) rfl ?_
            refine ev_goto (tgt := 25) dX12_spread_112 (by decide) ?_
            refine ev_loc (L2 := [some (.ref 129), some (.int x), some (.int (nI (c + 1))), some (.int (sp_spr (fun k => s (86 + 5 * k)) (fun k => s (86 + 5 * k + 3)) x (k + 1)).2.1), some (.int (sp_spr (fun k => s (86 + 5 * k)) (fun k => s (86 + 5 * k + 3)) x (k + 1)).2.2), some (.int (nI (k + 1))), some (.int (s (86 + 5 * k + 3)))]) (by rw [sp_spr_t (st := (fun k => s (86 + 5 * k))) (xs := (fun k => s (86 + 5 * k + 3))) (i := x) (k := k) h66 hf]; show _ = [_, _, _, some (Value.int (sp_min _ _)), some (Value.int (sp_max _ _)), _, _]; rw [(show sp_min (sp_spr (fun k => s (86 + 5 * k)) (fun k => s (86 + 5 * k + 3)) x k).2.1 (s (86 + 5 * k + 3)) = s (86 + 5 * k + 3) from if_pos h76), (show sp_max (sp_spr (fun k => s (86 + 5 * k)) (fun k => s (86 + 5 * k + 3)) x k).2.2 (s (86 + 5 * k + 3)) = (sp_spr (fun k => s (86 + 5 * k)) (fun k => s (86 + 5 * k + 3)) x k).2.2 from if_neg (Int32.not_lt.mpr h94))]; rfl) (ih (k + 1) (c + 1) _ (by omega) (by omega) (by rw [sp_spr_t (st := (fun k => s (86 + 5 * k))) (xs := (fun k => s (86 + 5 * k + 3))) (i := x) (k := k) h66 hf]; rfl))
          · skip
            refine ev_iload dX12_spread_97 rfl ?_
            refine ev_goto (tgt := 104) dX12_spread_99 (by decide) ?_
            refine ev_istore dX12_spread_104 (Nat.le_of_ble_eq_true rfl) rfl ?_
            refine ev_iinc (v := nI (c + 1)) dX12_spread_106 rfl (nI_1 c) (Nat.le_of_ble_eq_true rfl) rfl ?_
            refine ev_iinc (v := nI (k + 1)) dX12_spread_109 rfl (nI_1 k) (Nat.le_of_ble_eq_true rfl) rfl ?_
            refine ev_goto (tgt := 25) dX12_spread_112 (by decide) ?_
            refine ev_loc (L2 := [some (.ref 129), some (.int x), some (.int (nI (c + 1))), some (.int (sp_spr (fun k => s (86 + 5 * k)) (fun k => s (86 + 5 * k + 3)) x (k + 1)).2.1), some (.int (sp_spr (fun k => s (86 + 5 * k)) (fun k => s (86 + 5 * k + 3)) x (k + 1)).2.2), some (.int (nI (k + 1))), some (.int (s (86 + 5 * k + 3)))]) (by rw [sp_spr_t (st := (fun k => s (86 + 5 * k))) (xs := (fun k => s (86 + 5 * k + 3))) (i := x) (k := k) h66 hf]; show _ = [_, _, _, some (Value.int (sp_min _ _)), some (Value.int (sp_max _ _)), _, _]; rw [(show sp_min (sp_spr (fun k => s (86 + 5 * k)) (fun k => s (86 + 5 * k + 3)) x k).2.1 (s (86 + 5 * k + 3)) = s (86 + 5 * k + 3) from if_pos h76), (show sp_max (sp_spr (fun k => s (86 + 5 * k)) (fun k => s (86 + 5 * k + 3)) x k).2.2 (s (86 + 5 * k + 3)) = s (86 + 5 * k + 3) from if_pos h94)]; rfl) (ih (k + 1) (c + 1) _ (by omega) (by omega) (by rw [sp_spr_t (st := (fun k => s (86 + 5 * k))) (xs := (fun k => s (86 + 5 * k + 3))) (i := x) (k := k) h66 hf]; rfl))
theorem m_spread {G : ev_G} {n : Nat} {M : ev_M} {tn c0 c1 c2 sh : Nat} {tx s kp bw ar tu : Nat → Int32} {k0 k1 : Bool} {tr : Int64} (hM : md_S M tn c0 c1 c2 sh tx s kp bw ar tu k0 k1 tr) (hsz : sh ≤ 60) {x : Int32} (hx : sp_in x 0 (nI c0 - 1) = true) : ev_Cal G mX12_spread 3 0 0 [.ref 129, .int x] n M (md_is M (.int (sp_spread (fun k => s (86 + 5 * k)) (fun k => s (86 + 5 * k + 3)) x sh)) tn c0 c1 c2 sh tx s kp bw ar tu k0 k1 tr) := by
  refine ev_Cal_of (L := [some (.ref 129), some (.int x), none, none, none, none, none]) (by decide +kernel) (Nat.le_of_ble_eq_true rfl) rfl ?_
  refine md_thr hM dX12_spread_0 dX12_spread_1 dX12_spread_2 rfl rfl (fun M1 hM1 hf1 => ?_)
  obtain ⟨one, gof, dof, act, sp, of', ba, go, dr, ki, up, dn, hX⟩ := md_SX hM1
  have hX0 := hX
  obtain ⟨th, nx, tk, pl, va, fa, d0, d1, d2, dS, dB, dA, ik, h129, h130, h131, h132, h133, hk0, hk1, h134, h135, h136, h137, h138, h139, h140, h141, h142, h143, hsh⟩ := hX
  refine ev_aload_n (i := 0) dX12_spread_5 rfl rfl ?_
  refine ev_iload_n (i := 1) dX12_spread_6 rfl rfl ?_
  refine ev_c2 kX12_spread_7 (c13_isStick h129) (ev_rv_of (by assumption) rfl rfl) (by decide) (by decide) (Nat.le_of_ble_eq_true rfl) ?_
  refine ev_if_neb (tgt := 15) dX12_spread_10 (by decide) (fun h10 => ?_) (fun h10 => False.elim (Bool.false_ne_true (h10.symm.trans (hx))))
  refine ev_iconst (v := 0) dX12_spread_15 cni_0 ?_
  refine ev_istore_n (i := 2) dX12_spread_16 rfl (Nat.le_of_ble_eq_true rfl) rfl ?_
  refine ev_iconst (v := 0) dX12_spread_17 cni_0 ?_
  refine ev_istore_n (i := 3) dX12_spread_18 rfl (Nat.le_of_ble_eq_true rfl) rfl ?_
  refine ev_iconst (v := 0) dX12_spread_19 cni_0 ?_
  refine ev_istore dX12_spread_20 (Nat.le_of_ble_eq_true rfl) rfl ?_
  refine ev_iconst (v := 0) dX12_spread_22 cni_0 ?_
  refine ev_istore dX12_spread_23 (Nat.le_of_ble_eq_true rfl) rfl ?_
  exact l_spread hX0 hf1 hsz sh 0 0 none (Nat.zero_add _) (Nat.le_refl _) rfl
theorem m_spread_no {G : ev_G} {n : Nat} {M : ev_M} {tn c0 c1 c2 sh : Nat} {tx s kp bw ar tu : Nat → Int32} {k0 k1 : Bool} {tr : Int64} (hM : md_S M tn c0 c1 c2 sh tx s kp bw ar tu k0 k1 tr) {x : Int32} (h : sp_in x 0 (nI c0 - 1) = false) : ev_Cal G mX12_spread 3 0 0 [.ref 129, .int x] n M (md_is M (.int (-1)) tn c0 c1 c2 sh tx s kp bw ar tu k0 k1 tr) := by
  refine ev_Cal_of (L := [some (.ref 129), some (.int x), none, none, none, none, none]) (by decide +kernel) (Nat.le_of_ble_eq_true rfl) rfl ?_
  refine md_thr hM dX12_spread_0 dX12_spread_1 dX12_spread_2 rfl rfl (fun M1 hM1 hf1 => ?_)
  obtain ⟨one, gof, dof, act, sp, of', ba, go, dr, ki, up, dn, hX⟩ := md_SX hM1
  have hX0 := hX
  obtain ⟨th, nx, tk, pl, va, fa, d0, d1, d2, dS, dB, dA, ik, h129, h130, h131, h132, h133, hk0, hk1, h134, h135, h136, h137, h138, h139, h140, h141, h142, h143, hsh⟩ := hX
  refine ev_aload_n (i := 0) dX12_spread_5 rfl rfl ?_
  refine ev_iload_n (i := 1) dX12_spread_6 rfl rfl ?_
  refine ev_c2 kX12_spread_7 (c13_isStick h129) (ev_rv_of (by assumption) rfl rfl) (by decide) (by decide) (Nat.le_of_ble_eq_true rfl) ?_
  refine ev_if_neb (tgt := 15) dX12_spread_10 (by decide) (fun h10 => False.elim (Bool.false_ne_true ((h).symm.trans h10))) (fun h10 => ?_)
  refine ev_iconst (v := (-1)) dX12_spread_13 cni_m1 ?_
  exact ev_reti dX12_spread_14 rfl rfl (⟨rfl, md_XS hX0, hf1⟩)
/-- of a stick's shots and the others': sums and how many, in ints -/
abbrev mo_Q : Type := Int32 × Int32 × Int32 × Int32
def mo_lv (kf xs : Nat → Int32) (i : Int32) : Nat → mo_Q
  | 0 => (0, 0, 0, 0)
  | k + 1 => if kf k = i then ((mo_lv kf xs i k).1 + xs k, (mo_lv kf xs i k).2.1 + 1, (mo_lv kf xs i k).2.2.1 + 0, (mo_lv kf xs i k).2.2.2 + 0) else ((mo_lv kf xs i k).1 + 0, (mo_lv kf xs i k).2.1 + 0, (mo_lv kf xs i k).2.2.1 + xs k, (mo_lv kf xs i k).2.2.2 + 1)
theorem mo_lv_1 {kf xs : Nat → Int32} {i : Int32} {k : Nat} (h : kf k = i) : mo_lv kf xs i (k + 1) = ((mo_lv kf xs i k).1 + xs k, (mo_lv kf xs i k).2.1 + 1, (mo_lv kf xs i k).2.2.1 + 0, (mo_lv kf xs i k).2.2.2 + 0) := by rw [mo_lv, if_pos h]
theorem mo_lv_0 {kf xs : Nat → Int32} {i : Int32} {k : Nat} (h : ¬ kf k = i) : mo_lv kf xs i (k + 1) = ((mo_lv kf xs i k).1 + 0, (mo_lv kf xs i k).2.1 + 0, (mo_lv kf xs i k).2.2.1 + xs k, (mo_lv kf xs i k).2.2.2 + 1) := by rw [mo_lv, if_neg h]
def mo_may (A : mo_Q) (t : Int32) : Int32 := if A.2.1 = 0 ∨ A.2.2.2 = 0 then -2 else if 2 < A.2.1 ∧ t * A.2.1 * A.2.2.2 < sp_abs (A.1 * A.2.2.2 - A.2.2.1 * A.2.1) then 1 else 0
theorem mo_may_a {A : mo_Q} {t : Int32} (h : A.2.1 = 0) : mo_may A t = -2 := if_pos (Or.inl h)
theorem mo_may_b {A : mo_Q} {t : Int32} (h : A.2.2.2 = 0) : mo_may A t = -2 := if_pos (Or.inr h)
theorem mo_may_1 {A : mo_Q} {t : Int32} (h1 : ¬ A.2.1 = 0) (h2 : ¬ A.2.2.2 = 0) (h3 : 2 < A.2.1) (h4 : t * A.2.1 * A.2.2.2 < sp_abs (A.1 * A.2.2.2 - A.2.2.1 * A.2.1)) : mo_may A t = 1 := by
  unfold mo_may; rw [if_neg (fun q => q.elim h1 h2), if_pos ⟨h3, h4⟩]
theorem mo_may_2 {A : mo_Q} {t : Int32} (h1 : ¬ A.2.1 = 0) (h2 : ¬ A.2.2.2 = 0) (h3 : A.2.1 ≤ 2) : mo_may A t = 0 := by
  unfold mo_may; rw [if_neg (fun q => q.elim h1 h2), if_neg (fun q => Int32.not_lt.mpr h3 q.1)]
theorem mo_may_3 {A : mo_Q} {t : Int32} (h1 : ¬ A.2.1 = 0) (h2 : ¬ A.2.2.2 = 0) (h4 : sp_abs (A.1 * A.2.2.2 - A.2.2.1 * A.2.1) ≤ t * A.2.1 * A.2.2.2) : mo_may A t = 0 := by
  unfold mo_may; rw [if_neg (fun q => q.elim h1 h2), if_neg (fun q => Int32.not_lt.mpr h4 q.2)]
theorem l_out {G : ev_G} {n : Nat} {M : ev_M} {tn c0 c1 c2 sh : Nat} {tx s kp bw ar tu : Nat → Int32} {k0 k1 : Bool} {tr : Int64} {one gof dof act : Nat → Int32} {sp of' ba go dr ki : Int32} {up dn : Int64} {M1 : ev_M} (hX : md_X M1 tn c0 c1 c2 sh tx s kp bw ar tu k0 k1 tr one gof dof act sp of' ba go dr ki up dn) (hf1 : ∀ k, k < 129 → M1 k = M k) (hsz : sh ≤ 60) {x : Int32} {t : Int32} : ∀ (m k : Nat) (z : Option Value), k + m = sh → ev_E G mX12_out 3 0 0 n M1 39 [some (.ref 129), some (.int x), some (.int t), some (.int (mo_lv (fun k => s (86 + 5 * k)) (fun k => s (86 + 5 * k + 3)) x k).1), some (.int (mo_lv (fun k => s (86 + 5 * k)) (fun k => s (86 + 5 * k + 3)) x k).2.1), some (.int (mo_lv (fun k => s (86 + 5 * k)) (fun k => s (86 + 5 * k + 3)) x k).2.2.1), some (.int (mo_lv (fun k => s (86 + 5 * k)) (fun k => s (86 + 5 * k + 3)) x k).2.2.2), some (.int (nI k)), z] [] (md_is M (.int (mo_may (mo_lv (fun k => s (86 + 5 * k)) (fun k => s (86 + 5 * k + 3)) x sh) t)) tn c0 c1 c2 sh tx s kp bw ar tu k0 k1 tr) := by
  have hX0 := hX
  obtain ⟨th, nx, tk, pl, va, fa, d0, d1, d2, dS, dB, dA, ik, h129, h130, h131, h132, h133, hk0, hk1, h134, h135, h136, h137, h138, h139, h140, h141, h142, h143, hsh⟩ := hX
  intro m
  induction m with
  | zero =>
    intro k z hk
    refine ev_iload dX12_out_39 rfl ?_
    refine ev_aload_n (i := 0) dX12_out_41 rfl rfl ?_
    refine ev_getf dX12_out_42 flX12_13 (by assumption) (by rfl) ?_
    refine ev_bipush (v := 85) dX12_out_45 cnb_85 ?_
    refine ev_iald (j := 85) dX12_out_47 (by assumption) (ev_ixc (j := 85) rfl (by decide)) (by decide) ?_
    refine ev_topi hsh ?_
    refine ev_icmp_ge (tgt := 164) dX12_out_48 (by decide) (fun h48 => ?_) (fun h48 => False.elim (Int32.not_le.mpr h48 (nI_le (a := sh) (b := k) (by omega) (by omega))))
    obtain rfl : k = sh := by omega
    refine ev_iload dX12_out_164 rfl ?_
    refine ev_if_eq (tgt := 174) dX12_out_166 (by decide) (fun h166 => ?_) (fun h166 => ?_)
    · skip
      refine ev_bipush (v := (-2)) dX12_out_174 cnb_m2 ?_
      exact ev_reti dX12_out_176 rfl rfl (⟨by first | rw [mo_may_a h166] | rw [mo_may_b h171] | rw [mo_may_1 h166 h171 h195 h207] | rw [mo_may_2 h166 h171 h195] | rw [mo_may_3 h166 h171 h207], md_XS hX0, hf1⟩)
    · skip
      refine ev_iload dX12_out_169 rfl ?_
      refine ev_if_ne (tgt := 177) dX12_out_171 (by decide) (fun h171 => ?_) (fun h171 => ?_)
      · skip
        refine ev_iload_n (i := 3) dX12_out_177 rfl rfl ?_
        refine ev_iload dX12_out_178 rfl ?_
        refine ev_imul dX12_out_180 ?_
        refine ev_iload dX12_out_181 rfl ?_
        refine ev_iload dX12_out_183 rfl ?_
        refine ev_imul dX12_out_185 ?_
        refine ev_isub dX12_out_186 ?_
        refine ev_c1 kX12_out_187 (c13_size) trivial (by decide) (by decide) (Nat.le_of_ble_eq_true rfl) ?_
        refine ev_istore dX12_out_190 (Nat.le_of_ble_eq_true rfl) rfl ?_
        refine ev_iload dX12_out_192 rfl ?_
        refine ev_iconst (v := 2) dX12_out_194 cni_2 ?_
        refine ev_icmp_le (tgt := 214) dX12_out_195 (by decide) (fun h195 => ?_) (fun h195 => ?_)
        · skip
          refine ev_iconst (v := 0) dX12_out_214 cni_0 ?_
          exact ev_reti dX12_out_215 rfl rfl (⟨by first | rw [mo_may_a h166] | rw [mo_may_b h171] | rw [mo_may_1 h166 h171 h195 h207] | rw [mo_may_2 h166 h171 h195] | rw [mo_may_3 h166 h171 h207], md_XS hX0, hf1⟩)
        · skip
          refine ev_iload dX12_out_198 rfl ?_
          refine ev_iload_n (i := 2) dX12_out_200 rfl rfl ?_
          refine ev_iload dX12_out_201 rfl ?_
          refine ev_imul dX12_out_203 ?_
          refine ev_iload dX12_out_204 rfl ?_
          refine ev_imul dX12_out_206 ?_
          refine ev_icmp_le (tgt := 214) dX12_out_207 (by decide) (fun h207 => ?_) (fun h207 => ?_)
          · skip
            refine ev_iconst (v := 0) dX12_out_214 cni_0 ?_
            exact ev_reti dX12_out_215 rfl rfl (⟨by first | rw [mo_may_a h166] | rw [mo_may_b h171] | rw [mo_may_1 h166 h171 h195 h207] | rw [mo_may_2 h166 h171 h195] | rw [mo_may_3 h166 h171 h207], md_XS hX0, hf1⟩)
          · skip
            refine ev_iconst (v := 1) dX12_out_210 cni_1 ?_
            refine ev_goto (tgt := 215) dX12_out_211 (by decide) ?_
            exact ev_reti dX12_out_215 rfl rfl (⟨by first | rw [mo_may_a h166] | rw [mo_may_b h171] | rw [mo_may_1 h166 h171 h195 h207] | rw [mo_may_2 h166 h171 h195] | rw [mo_may_3 h166 h171 h207], md_XS hX0, hf1⟩)
      · skip
        refine ev_bipush (v := (-2)) dX12_out_174 cnb_m2 ?_
        exact ev_reti dX12_out_176 rfl rfl (⟨by first | rw [mo_may_a h166] | rw [mo_may_b h171] | rw [mo_may_1 h166 h171 h195 h207] | rw [mo_may_2 h166 h171 h195] | rw [mo_may_3 h166 h171 h207], md_XS hX0, hf1⟩)
  | succ m ih =>
    intro k z hk
    refine ev_iload dX12_out_39 rfl ?_
    refine ev_aload_n (i := 0) dX12_out_41 rfl rfl ?_
    refine ev_getf dX12_out_42 flX12_13 (by assumption) (by rfl) ?_
    refine ev_bipush (v := 85) dX12_out_45 cnb_85 ?_
    refine ev_iald (j := 85) dX12_out_47 (by assumption) (ev_ixc (j := 85) rfl (by decide)) (by decide) ?_
    refine ev_topi hsh ?_
    refine ev_icmp_ge (tgt := 164) dX12_out_48 (by decide) (fun h48 => False.elim (nI_ge (a := k) (b := sh) (by omega) (by omega) h48)) (fun h48 => ?_)
    refine ev_aload_n (i := 0) dX12_out_51 rfl rfl ?_
    refine ev_getf dX12_out_52 flX12_13 (by assumption) (by rfl) ?_
    refine ev_bipush (v := 86) dX12_out_55 cnb_86 ?_
    refine ev_iconst (v := 5) dX12_out_57 cni_5 ?_
    refine ev_iload dX12_out_58 rfl ?_
    refine ev_imul dX12_out_60 ?_
    refine ev_iadd dX12_out_61 ?_
    refine ev_iald (j := 86 + 5 * k) dX12_out_62 (by assumption) (ev_ixc (by show nI 86 + nI 5 * nI k = _; rw [nI_mul, nI_add]) (by omega)) (by omega) ?_
    refine ev_iload_n (i := 1) dX12_out_63 rfl rfl ?_
    refine ev_icmp_ne (tgt := 71) dX12_out_64 (by decide) (fun h64 => ?_) (fun h64 => ?_)
    · skip
      refine ev_iconst (v := 0) dX12_out_71 cni_0 ?_
      refine ev_istore dX12_out_72 (Nat.le_of_ble_eq_true rfl) rfl ?_
      refine ev_iload_n (i := 3) dX12_out_74 rfl rfl ?_
      refine ev_iload dX12_out_75 rfl ?_
      refine ev_if_eq (tgt := 97) dX12_out_77 (by decide) (fun g77 => ?_) (fun g77 => False.elim (absurd rfl g77))
      refine ev_iconst (v := 0) dX12_out_97 cni_0 ?_
      refine ev_iadd dX12_out_98 ?_
      refine ev_istore_n (i := 3) dX12_out_99 rfl (Nat.le_of_ble_eq_true rfl) rfl ?_
      refine ev_iload dX12_out_100 rfl ?_
      refine ev_iload dX12_out_102 rfl ?_
      refine ev_if_eq (tgt := 111) dX12_out_104 (by decide) (fun g104 => ?_) (fun g104 => False.elim (absurd rfl g104))
      refine ev_iconst (v := 0) dX12_out_111 cni_0 ?_
      refine ev_iadd dX12_out_112 ?_
      refine ev_istore dX12_out_113 (Nat.le_of_ble_eq_true rfl) rfl ?_
      refine ev_iload dX12_out_115 rfl ?_
      refine ev_iload dX12_out_117 rfl ?_
      refine ev_if_eq (tgt := 126) dX12_out_119 (by decide) (fun g119 => ?_) (fun g119 => False.elim (absurd rfl g119))
      refine ev_aload_n (i := 0) dX12_out_126 rfl rfl ?_
      refine ev_getf dX12_out_127 flX12_13 (by assumption) (by rfl) ?_
      refine ev_bipush (v := 86) dX12_out_130 cnb_86 ?_
      refine ev_iconst (v := 5) dX12_out_132 cni_5 ?_
      refine ev_iload dX12_out_133 rfl ?_
      refine ev_imul dX12_out_135 ?_
      refine ev_iadd dX12_out_136 ?_
      refine ev_iconst (v := 3) dX12_out_137 cni_3 ?_
      refine ev_iadd dX12_out_138 ?_
      refine ev_iald (j := 86 + 5 * k + 3) dX12_out_139 (by assumption) (ev_ixc (by show nI 86 + nI 5 * nI k + nI 3 = _; rw [nI_mul, nI_add, nI_add]) (by omega)) (by omega) ?_
      refine ev_iadd dX12_out_140 ?_
      refine ev_istore dX12_out_141 (Nat.le_of_ble_eq_true rfl) rfl ?_
      refine ev_iload dX12_out_143 rfl ?_
      refine ev_iload dX12_out_145 rfl ?_
      refine ev_if_eq (tgt := 154) dX12_out_147 (by decide) (fun g147 => ?_) (fun g147 => False.elim (absurd rfl g147))
      refine ev_iconst (v := 1) dX12_out_154 cni_1 ?_
      refine ev_iadd dX12_out_155 ?_
      refine ev_istore dX12_out_156 (Nat.le_of_ble_eq_true rfl) rfl ?_
      refine ev_iinc (v := nI (k + 1)) dX12_out_158 rfl (nI_1 k) (Nat.le_of_ble_eq_true rfl) rfl ?_
      refine ev_goto (tgt := 39) dX12_out_161 (by decide) ?_
      refine ev_loc (L2 := [some (.ref 129), some (.int x), some (.int t), some (.int (mo_lv (fun k => s (86 + 5 * k)) (fun k => s (86 + 5 * k + 3)) x (k + 1)).1), some (.int (mo_lv (fun k => s (86 + 5 * k)) (fun k => s (86 + 5 * k + 3)) x (k + 1)).2.1), some (.int (mo_lv (fun k => s (86 + 5 * k)) (fun k => s (86 + 5 * k + 3)) x (k + 1)).2.2.1), some (.int (mo_lv (fun k => s (86 + 5 * k)) (fun k => s (86 + 5 * k + 3)) x (k + 1)).2.2.2), some (.int (nI (k + 1))), some (.int 0)]) (by rw [mo_lv_0 (kf := (fun k => s (86 + 5 * k))) (xs := (fun k => s (86 + 5 * k + 3))) (i := x) (k := k) h64]; rfl) (ih (k + 1) _ (by omega))
    · skip
      refine ev_iconst (v := 1) dX12_out_67 cni_1 ?_
      refine ev_goto (tgt := 72) dX12_out_68 (by decide) ?_
      refine ev_istore dX12_out_72 (Nat.le_of_ble_eq_true rfl) rfl ?_
      refine ev_iload_n (i := 3) dX12_out_74 rfl rfl ?_
      refine ev_iload dX12_out_75 rfl ?_
      refine ev_if_eq (tgt := 97) dX12_out_77 (by decide) (fun g77 => False.elim (absurd g77 (by decide))) (fun g77 => ?_)
      refine ev_aload_n (i := 0) dX12_out_80 rfl rfl ?_
      refine ev_getf dX12_out_81 flX12_13 (by assumption) (by rfl) ?_
      refine ev_bipush (v := 86) dX12_out_84 cnb_86 ?_
      refine ev_iconst (v := 5) dX12_out_86 cni_5 ?_
      refine ev_iload dX12_out_87 rfl ?_
      refine ev_imul dX12_out_89 ?_
      refine ev_iadd dX12_out_90 ?_
      refine ev_iconst (v := 3) dX12_out_91 cni_3 ?_
      refine ev_iadd dX12_out_92 ?_
      refine ev_iald (j := 86 + 5 * k + 3) dX12_out_93 (by assumption) (ev_ixc (by show nI 86 + nI 5 * nI k + nI 3 = _; rw [nI_mul, nI_add, nI_add]) (by omega)) (by omega) ?_
      refine ev_goto (tgt := 98) dX12_out_94 (by decide) ?_
      refine ev_iadd dX12_out_98 ?_
      refine ev_istore_n (i := 3) dX12_out_99 rfl (Nat.le_of_ble_eq_true rfl) rfl ?_
      refine ev_iload dX12_out_100 rfl ?_
      refine ev_iload dX12_out_102 rfl ?_
      refine ev_if_eq (tgt := 111) dX12_out_104 (by decide) (fun g104 => False.elim (absurd g104 (by decide))) (fun g104 => ?_)
      refine ev_iconst (v := 1) dX12_out_107 cni_1 ?_
      refine ev_goto (tgt := 112) dX12_out_108 (by decide) ?_
      refine ev_iadd dX12_out_112 ?_
      refine ev_istore dX12_out_113 (Nat.le_of_ble_eq_true rfl) rfl ?_
      refine ev_iload dX12_out_115 rfl ?_
      refine ev_iload dX12_out_117 rfl ?_
      refine ev_if_eq (tgt := 126) dX12_out_119 (by decide) (fun g119 => False.elim (absurd g119 (by decide))) (fun g119 => ?_)
      refine ev_iconst (v := 0) dX12_out_122 cni_0 ?_
      refine ev_goto (tgt := 140) dX12_out_123 (by decide) ?_
      refine ev_iadd dX12_out_140 ?_
      refine ev_istore dX12_out_141 (Nat.le_of_ble_eq_true rfl) rfl ?_
      refine ev_iload dX12_out_143 rfl ?_
      refine ev_iload dX12_out_145 rfl ?_
      refine ev_if_eq (tgt := 154) dX12_out_147 (by decide) (fun g147 => False.elim (absurd g147 (by decide))) (fun g147 => ?_)
      refine ev_iconst (v := 0) dX12_out_150 cni_0 ?_
      refine ev_goto (tgt := 155) dX12_out_151 (by decide) ?_
      refine ev_iadd dX12_out_155 ?_
      refine ev_istore dX12_out_156 (Nat.le_of_ble_eq_true rfl) rfl ?_
      refine ev_iinc (v := nI (k + 1)) dX12_out_158 rfl (nI_1 k) (Nat.le_of_ble_eq_true rfl) rfl ?_
      refine ev_goto (tgt := 39) dX12_out_161 (by decide) ?_
      refine ev_loc (L2 := [some (.ref 129), some (.int x), some (.int t), some (.int (mo_lv (fun k => s (86 + 5 * k)) (fun k => s (86 + 5 * k + 3)) x (k + 1)).1), some (.int (mo_lv (fun k => s (86 + 5 * k)) (fun k => s (86 + 5 * k + 3)) x (k + 1)).2.1), some (.int (mo_lv (fun k => s (86 + 5 * k)) (fun k => s (86 + 5 * k + 3)) x (k + 1)).2.2.1), some (.int (mo_lv (fun k => s (86 + 5 * k)) (fun k => s (86 + 5 * k + 3)) x (k + 1)).2.2.2), some (.int (nI (k + 1))), some (.int 1)]) (by rw [mo_lv_1 (kf := (fun k => s (86 + 5 * k))) (xs := (fun k => s (86 + 5 * k + 3))) (i := x) (k := k) h64]; rfl) (ih (k + 1) _ (by omega))
theorem m_out {G : ev_G} {n : Nat} {M : ev_M} {tn c0 c1 c2 sh : Nat} {tx s kp bw ar tu : Nat → Int32} {k0 k1 : Bool} {tr : Int64} (hM : md_S M tn c0 c1 c2 sh tx s kp bw ar tu k0 k1 tr) (hsz : sh ≤ 60) {x t : Int32} (hx : sp_in x 0 (nI c0 - 1) = true) (hr : sp_in t 0 99 = true) : ev_Cal G mX12_out 3 0 0 [.ref 129, .int x, .int t] n M (md_is M (.int (mo_may (mo_lv (fun k => s (86 + 5 * k)) (fun k => s (86 + 5 * k + 3)) x sh) t)) tn c0 c1 c2 sh tx s kp bw ar tu k0 k1 tr) := by
  refine ev_Cal_of (L := [some (.ref 129), some (.int x), some (.int t), none, none, none, none, none, none]) (by decide +kernel) (Nat.le_of_ble_eq_true rfl) rfl ?_
  refine md_thr hM dX12_out_0 dX12_out_1 dX12_out_2 rfl rfl (fun M1 hM1 hf1 => ?_)
  obtain ⟨one, gof, dof, act, sp, of', ba, go, dr, ki, up, dn, hX⟩ := md_SX hM1
  have hX0 := hX
  obtain ⟨th, nx, tk, pl, va, fa, d0, d1, d2, dS, dB, dA, ik, h129, h130, h131, h132, h133, hk0, hk1, h134, h135, h136, h137, h138, h139, h140, h141, h142, h143, hsh⟩ := hX
  refine ev_aload_n (i := 0) dX12_out_5 rfl rfl ?_
  refine ev_iload_n (i := 1) dX12_out_6 rfl rfl ?_
  refine ev_c2 kX12_out_7 (c13_isStick h129) (ev_rv_of (by assumption) rfl rfl) (by decide) (by decide) (Nat.le_of_ble_eq_true rfl) ?_
  refine ev_if_eqb (tgt := 23) dX12_out_10 (by decide) (fun h10 => False.elim (Bool.false_ne_true (h10.symm.trans (hx)))) (fun h10 => ?_)
  refine ev_iload_n (i := 2) dX12_out_13 rfl rfl ?_
  refine ev_iconst (v := 0) dX12_out_14 cni_0 ?_
  refine ev_bipush (v := 99) dX12_out_15 cnb_99 ?_
  refine ev_c3 kX12_out_17 (c13_in) trivial (by decide) (by decide) (Nat.le_of_ble_eq_true rfl) ?_
  refine ev_if_neb (tgt := 25) dX12_out_20 (by decide) (fun h20 => ?_) (fun h20 => False.elim (Bool.false_ne_true (h20.symm.trans (hr))))
  refine ev_iconst (v := 0) dX12_out_25 cni_0 ?_
  refine ev_istore_n (i := 3) dX12_out_26 rfl (Nat.le_of_ble_eq_true rfl) rfl ?_
  refine ev_iconst (v := 0) dX12_out_27 cni_0 ?_
  refine ev_istore dX12_out_28 (Nat.le_of_ble_eq_true rfl) rfl ?_
  refine ev_iconst (v := 0) dX12_out_30 cni_0 ?_
  refine ev_istore dX12_out_31 (Nat.le_of_ble_eq_true rfl) rfl ?_
  refine ev_iconst (v := 0) dX12_out_33 cni_0 ?_
  refine ev_istore dX12_out_34 (Nat.le_of_ble_eq_true rfl) rfl ?_
  refine ev_iconst (v := 0) dX12_out_36 cni_0 ?_
  refine ev_istore dX12_out_37 (Nat.le_of_ble_eq_true rfl) rfl ?_
  exact l_out hX0 hf1 hsz sh 0 none (Nat.zero_add _)
theorem m_out_no {G : ev_G} {n : Nat} {M : ev_M} {tn c0 c1 c2 sh : Nat} {tx s kp bw ar tu : Nat → Int32} {k0 k1 : Bool} {tr : Int64} (hM : md_S M tn c0 c1 c2 sh tx s kp bw ar tu k0 k1 tr) {x t : Int32} (h : (sp_in x 0 (nI c0 - 1) && sp_in t 0 99) = false) : ev_Cal G mX12_out 3 0 0 [.ref 129, .int x, .int t] n M (md_is M (.int (-1)) tn c0 c1 c2 sh tx s kp bw ar tu k0 k1 tr) := by
  refine ev_Cal_of (L := [some (.ref 129), some (.int x), some (.int t), none, none, none, none, none, none]) (by decide +kernel) (Nat.le_of_ble_eq_true rfl) rfl ?_
  refine md_thr hM dX12_out_0 dX12_out_1 dX12_out_2 rfl rfl (fun M1 hM1 hf1 => ?_)
  obtain ⟨one, gof, dof, act, sp, of', ba, go, dr, ki, up, dn, hX⟩ := md_SX hM1
  have hX0 := hX
  obtain ⟨th, nx, tk, pl, va, fa, d0, d1, d2, dS, dB, dA, ik, h129, h130, h131, h132, h133, hk0, hk1, h134, h135, h136, h137, h138, h139, h140, h141, h142, h143, hsh⟩ := hX
  refine ev_aload_n (i := 0) dX12_out_5 rfl rfl ?_
  refine ev_iload_n (i := 1) dX12_out_6 rfl rfl ?_
  refine ev_c2 kX12_out_7 (c13_isStick h129) (ev_rv_of (by assumption) rfl rfl) (by decide) (by decide) (Nat.le_of_ble_eq_true rfl) ?_
  refine ev_if_eqb (tgt := 23) dX12_out_10 (by decide) (fun h10 => ?_) (fun h10 => ?_)
  · skip
    refine ev_iconst (v := (-1)) dX12_out_23 cni_m1 ?_
    exact ev_reti dX12_out_24 rfl rfl (⟨rfl, md_XS hX0, hf1⟩)
  · skip
    refine ev_iload_n (i := 2) dX12_out_13 rfl rfl ?_
    refine ev_iconst (v := 0) dX12_out_14 cni_0 ?_
    refine ev_bipush (v := 99) dX12_out_15 cnb_99 ?_
    refine ev_c3 kX12_out_17 (c13_in) trivial (by decide) (by decide) (Nat.le_of_ble_eq_true rfl) ?_
    refine ev_if_neb (tgt := 25) dX12_out_20 (by decide) (fun h20 => False.elim (by rw [h10, h20] at h; cases h)) (fun h20 => ?_)
    refine ev_iconst (v := (-1)) dX12_out_23 cni_m1 ?_
    exact ev_reti dX12_out_24 rfl rfl (⟨rfl, md_XS hX0, hf1⟩)
theorem md_sttr {G : ev_G} {y : ev_MI} {f rc ru n pc : Nat} {M : ev_M} {L : List (Option Value)} {st : List Value} {Post : Option Value → ev_M → Prop} {tn c0 c1 c2 sh : Nat} {tx s kp bw ar tu : Nat → Int32} {k0 k1 : Bool} {tr : Int64} {one gof dof act : Nat → Int32} {sp of' ba go dr ki : Int32} {up dn : Int64} (hX : md_X M tn c0 c1 c2 sh tx s kp bw ar tu k0 k1 tr one gof dof act sp of' ba go dr ki up dn) {x : Int64} (hd : decode y.2.1 pc = .ok (.putfield 225, 3)) (hy : y.1.cls = RX12)
    (k : ∀ M1 : ev_M, md_X M1 tn c0 c1 c2 sh tx s kp bw ar tu k0 k1 x one gof dof act sp of' ba go dr ki up dn → (∀ k, k < 129 → M1 k = M k) → ev_E G y f rc ru n M1 (pc + 3) L st Post) : ev_E G y f rc ru n M pc L (.long x :: .ref 129 :: st) Post := by
  obtain ⟨th, nx, tk, pl, va, fa, d0, d1, d2, dS, dB, dA, ik, h129, h130, h131, h132, h133, hk0, hk1, h134, h135, h136, h137, h138, h139, h140, h141, h142, h143, hsh⟩ := hX
  refine ev_putl hd (by rw [hy]; exact fpX12_225) h129 (Nat.le_of_ble_eq_true rfl) ?_
  exact k _ ⟨th, nx, tk, pl, va, fa, d0, d1, d2, dS, dB, dA, ik, ev_set_eq, (ev_set_ne (by decide)).trans h130, (ev_set_ne (by decide)).trans h131, (ev_set_ne (by decide)).trans h132, (ev_set_ne (by decide)).trans h133, hk0, hk1, (ev_set_ne (by decide)).trans h134, (ev_set_ne (by decide)).trans h135, (ev_set_ne (by decide)).trans h136, (ev_set_ne (by decide)).trans h137, (ev_set_ne (by decide)).trans h138, (ev_set_ne (by decide)).trans h139, (ev_set_ne (by decide)).trans h140, (ev_set_ne (by decide)).trans h141, (ev_set_ne (by decide)).trans h142, (ev_set_ne (by decide)).trans h143, hsh⟩ (fun k hk => ev_set_ne (by omega))
theorem m_rate_0 {G : ev_G} {n : Nat} {M : ev_M} {tn c0 c1 c2 sh : Nat} {tx s kp bw ar tu : Nat → Int32} {k0 k1 : Bool} {tr : Int64} (hM : md_S M tn c0 c1 c2 sh tx s kp bw ar tu k0 k1 tr) {j : Nat} (hj : j < c0) (hc : c0 ≤ 12) (hb : 0 < c1) (hc1 : c1 ≤ 3) (hs : sk_ok (fun q => s (7 * j + q))) (hw : bw_ok (bw (2 * 0)) (bw (2 * 0 + 1))) (ht : tu_ok tu) : ev_Cal G mX12_rate 6 0 0 [.ref 129, .int 0, .int (nI j)] n M (md_is M (.int (fx_sp (fun q => s (7 * j + q)))) tn c0 c1 c2 sh tx s kp bw ar tu k0 k1 (tr + 1)) := by
  refine ev_Cal_of (L := [some (.ref 129), some (.int 0), some (.int (nI j)), none, none]) (by decide +kernel) (Nat.le_of_ble_eq_true rfl) rfl ?_
  refine md_thr hM dX12_rate_0 dX12_rate_1 dX12_rate_2 rfl rfl (fun M1 hM1 hf1 => ?_)
  obtain ⟨one, gof, dof, act, sp, of', ba, go, dr, ki, up, dn, hX⟩ := md_SX hM1
  have hX0 := hX
  obtain ⟨th, nx, tk, pl, va, fa, d0, d1, d2, dS, dB, dA, ik, h129, h130, h131, h132, h133, hk0, hk1, h134, h135, h136, h137, h138, h139, h140, h141, h142, h143, hsh⟩ := hX
  refine ev_iload_n (i := 1) dX12_rate_5 rfl rfl ?_
  refine ev_iconst (v := 0) dX12_rate_6 cni_0 ?_
  refine ev_iconst (v := 5) dX12_rate_7 cni_5 ?_
  refine ev_c3 kX12_rate_8 (c13_in) trivial (by decide) (by decide) (Nat.le_of_ble_eq_true rfl) ?_
  refine ev_if_eqb (tgt := 29) dX12_rate_11 (by decide) (fun h11 => False.elim (Bool.false_ne_true (h11.symm.trans (by decide)))) (fun h11 => ?_)
  refine ev_aload_n (i := 0) dX12_rate_14 rfl rfl ?_
  refine ev_iload_n (i := 2) dX12_rate_15 rfl rfl ?_
  refine ev_c2 kX12_rate_16 (c13_isStick h129) (ev_rv_of (by assumption) rfl rfl) (by decide) (by decide) (Nat.le_of_ble_eq_true rfl) ?_
  refine ev_if_eqb (tgt := 29) dX12_rate_19 (by decide) (fun h19 => False.elim (Bool.false_ne_true (h19.symm.trans (sp_in_ix hj (by omega))))) (fun h19 => ?_)
  refine ev_aload_n (i := 0) dX12_rate_22 rfl rfl ?_
  refine ev_getf dX12_rate_23 flX12_130 (by assumption) (by rfl) ?_
  refine ev_if_ne (tgt := 32) dX12_rate_26 (by decide) (fun h26 => ?_) (fun h26 => False.elim (nI_ne0 (n := c1) (by omega) (by omega) h26))
  refine ev_aload_n (i := 0) dX12_rate_32 rfl rfl ?_
  refine ev_iload_n (i := 2) dX12_rate_33 rfl rfl ?_
  refine ev_iconst (v := 0) dX12_rate_34 cni_0 ?_
  refine ev_d3 kX12_rate_35 (m_fliesWith (b := 0) hX0 hj hc (by omega) hc1 hs hw ht) (ev_rv_of (by assumption) rfl rfl) (by decide) (by decide) (Nat.le_of_ble_eq_true rfl) ?_
  intro r M2 hr
  obtain ⟨rfl, ⟨o2, ho, hX⟩, hf2⟩ := hr
  have hX0 := hX
  obtain ⟨th, nx, tk, pl, va, fa, d0, d1, d2, dS, dB, dA, ik, h129, h130, h131, h132, h133, hk0, hk1, h134, h135, h136, h137, h138, h139, h140, h141, h142, h143, hsh⟩ := hX
  refine ev_aload_n (i := 0) dX12_rate_38 rfl rfl ?_
  refine ev_getf dX12_rate_39 flX12_171 (by assumption) (by rfl) ?_
  refine ev_aload_n (i := 0) dX12_rate_42 rfl rfl ?_
  refine ev_getf dX12_rate_43 flX12_41 (by assumption) (by rfl) ?_
  refine ev_iconst (v := 1) dX12_rate_46 cni_1 ?_
  refine ev_iald (j := 1) dX12_rate_47 (by assumption) (ev_ixc (j := 1) rfl (by decide)) (by decide) ?_
  refine ev_topi (ho 1 (by omega)) ?_
  refine ev_iadd dX12_rate_48 ?_
  refine ev_istore_n (i := 3) dX12_rate_49 rfl (Nat.le_of_ble_eq_true rfl) rfl ?_
  refine ev_aload_n (i := 0) dX12_rate_50 rfl rfl ?_
  refine ev_getf dX12_rate_51 flX12_171 (by assumption) (by rfl) ?_
  refine ev_aload_n (i := 0) dX12_rate_54 rfl rfl ?_
  refine ev_getf dX12_rate_55 flX12_186 (by assumption) (by rfl) ?_
  refine ev_isub dX12_rate_58 ?_
  refine ev_istore dX12_rate_59 (Nat.le_of_ble_eq_true rfl) rfl ?_
  refine ev_aload_n (i := 0) dX12_rate_61 rfl rfl ?_
  refine ev_dup dX12_rate_62 rfl ?_
  refine ev_getf dX12_rate_63 flX12_225 (by assumption) (by rfl) ?_
  refine ev_iload_n (i := 1) dX12_rate_66 rfl rfl ?_
  refine ev_if_ne (tgt := 74) dX12_rate_67 (by decide) (fun h67 => False.elim (absurd rfl h67)) (fun h67 => ?_)
  refine ev_lconst (v := 1) dX12_rate_70 rfl ?_
  refine ev_goto (tgt := 121) dX12_rate_71 (by decide) ?_
  refine ev_ladd dX12_rate_121 ?_
  refine md_sttr hX0 dX12_rate_122 rfl (fun M3 hX hf3 => ?_)
  have hX0 := hX
  obtain ⟨th, nx, tk, pl, va, fa, d0, d1, d2, dS, dB, dA, ik, h129, h130, h131, h132, h133, hk0, hk1, h134, h135, h136, h137, h138, h139, h140, h141, h142, h143, hsh⟩ := hX
  refine ev_iload_n (i := 1) dX12_rate_125 rfl rfl ?_
  refine ev_if_ne (tgt := 136) dX12_rate_126 (by decide) (fun g126 => False.elim (absurd rfl g126)) (fun g126 => ?_)
  refine ev_aload_n (i := 0) dX12_rate_129 rfl rfl ?_
  refine ev_getf dX12_rate_130 flX12_171 (by assumption) (by rfl) ?_
  refine ev_goto (tgt := 194) dX12_rate_133 (by decide) ?_
  exact ev_reti dX12_rate_194 rfl rfl (⟨rfl, md_XS hX0, fun k hk => (hf3 k hk).trans ((hf2 k hk).trans (hf1 k hk))⟩)
theorem m_rate_1 {G : ev_G} {n : Nat} {M : ev_M} {tn c0 c1 c2 sh : Nat} {tx s kp bw ar tu : Nat → Int32} {k0 k1 : Bool} {tr : Int64} (hM : md_S M tn c0 c1 c2 sh tx s kp bw ar tu k0 k1 tr) {j : Nat} (hj : j < c0) (hc : c0 ≤ 12) (hb : 0 < c1) (hc1 : c1 ≤ 3) (hs : sk_ok (fun q => s (7 * j + q))) (hw : bw_ok (bw (2 * 0)) (bw (2 * 0 + 1))) (ht : tu_ok tu) : ev_Cal G mX12_rate 6 0 0 [.ref 129, .int 1, .int (nI j)] n M (md_is M (.int (fx_sp (fun q => s (7 * j + q)) + s (7 * j + 1))) tn c0 c1 c2 sh tx s kp bw ar tu k0 k1 (tr + 11)) := by
  refine ev_Cal_of (L := [some (.ref 129), some (.int 1), some (.int (nI j)), none, none]) (by decide +kernel) (Nat.le_of_ble_eq_true rfl) rfl ?_
  refine md_thr hM dX12_rate_0 dX12_rate_1 dX12_rate_2 rfl rfl (fun M1 hM1 hf1 => ?_)
  obtain ⟨one, gof, dof, act, sp, of', ba, go, dr, ki, up, dn, hX⟩ := md_SX hM1
  have hX0 := hX
  obtain ⟨th, nx, tk, pl, va, fa, d0, d1, d2, dS, dB, dA, ik, h129, h130, h131, h132, h133, hk0, hk1, h134, h135, h136, h137, h138, h139, h140, h141, h142, h143, hsh⟩ := hX
  refine ev_iload_n (i := 1) dX12_rate_5 rfl rfl ?_
  refine ev_iconst (v := 0) dX12_rate_6 cni_0 ?_
  refine ev_iconst (v := 5) dX12_rate_7 cni_5 ?_
  refine ev_c3 kX12_rate_8 (c13_in) trivial (by decide) (by decide) (Nat.le_of_ble_eq_true rfl) ?_
  refine ev_if_eqb (tgt := 29) dX12_rate_11 (by decide) (fun h11 => False.elim (Bool.false_ne_true (h11.symm.trans (by decide)))) (fun h11 => ?_)
  refine ev_aload_n (i := 0) dX12_rate_14 rfl rfl ?_
  refine ev_iload_n (i := 2) dX12_rate_15 rfl rfl ?_
  refine ev_c2 kX12_rate_16 (c13_isStick h129) (ev_rv_of (by assumption) rfl rfl) (by decide) (by decide) (Nat.le_of_ble_eq_true rfl) ?_
  refine ev_if_eqb (tgt := 29) dX12_rate_19 (by decide) (fun h19 => False.elim (Bool.false_ne_true (h19.symm.trans (sp_in_ix hj (by omega))))) (fun h19 => ?_)
  refine ev_aload_n (i := 0) dX12_rate_22 rfl rfl ?_
  refine ev_getf dX12_rate_23 flX12_130 (by assumption) (by rfl) ?_
  refine ev_if_ne (tgt := 32) dX12_rate_26 (by decide) (fun h26 => ?_) (fun h26 => False.elim (nI_ne0 (n := c1) (by omega) (by omega) h26))
  refine ev_aload_n (i := 0) dX12_rate_32 rfl rfl ?_
  refine ev_iload_n (i := 2) dX12_rate_33 rfl rfl ?_
  refine ev_iconst (v := 0) dX12_rate_34 cni_0 ?_
  refine ev_d3 kX12_rate_35 (m_fliesWith (b := 0) hX0 hj hc (by omega) hc1 hs hw ht) (ev_rv_of (by assumption) rfl rfl) (by decide) (by decide) (Nat.le_of_ble_eq_true rfl) ?_
  intro r M2 hr
  obtain ⟨rfl, ⟨o2, ho, hX⟩, hf2⟩ := hr
  have hX0 := hX
  obtain ⟨th, nx, tk, pl, va, fa, d0, d1, d2, dS, dB, dA, ik, h129, h130, h131, h132, h133, hk0, hk1, h134, h135, h136, h137, h138, h139, h140, h141, h142, h143, hsh⟩ := hX
  refine ev_aload_n (i := 0) dX12_rate_38 rfl rfl ?_
  refine ev_getf dX12_rate_39 flX12_171 (by assumption) (by rfl) ?_
  refine ev_aload_n (i := 0) dX12_rate_42 rfl rfl ?_
  refine ev_getf dX12_rate_43 flX12_41 (by assumption) (by rfl) ?_
  refine ev_iconst (v := 1) dX12_rate_46 cni_1 ?_
  refine ev_iald (j := 1) dX12_rate_47 (by assumption) (ev_ixc (j := 1) rfl (by decide)) (by decide) ?_
  refine ev_topi (ho 1 (by omega)) ?_
  refine ev_iadd dX12_rate_48 ?_
  refine ev_istore_n (i := 3) dX12_rate_49 rfl (Nat.le_of_ble_eq_true rfl) rfl ?_
  refine ev_aload_n (i := 0) dX12_rate_50 rfl rfl ?_
  refine ev_getf dX12_rate_51 flX12_171 (by assumption) (by rfl) ?_
  refine ev_aload_n (i := 0) dX12_rate_54 rfl rfl ?_
  refine ev_getf dX12_rate_55 flX12_186 (by assumption) (by rfl) ?_
  refine ev_isub dX12_rate_58 ?_
  refine ev_istore dX12_rate_59 (Nat.le_of_ble_eq_true rfl) rfl ?_
  refine ev_aload_n (i := 0) dX12_rate_61 rfl rfl ?_
  refine ev_dup dX12_rate_62 rfl ?_
  refine ev_getf dX12_rate_63 flX12_225 (by assumption) (by rfl) ?_
  refine ev_iload_n (i := 1) dX12_rate_66 rfl rfl ?_
  refine ev_if_ne (tgt := 74) dX12_rate_67 (by decide) (fun h67 => ?_) (fun h67 => False.elim (absurd h67 (by decide)))
  refine ev_iload_n (i := 1) dX12_rate_74 rfl rfl ?_
  refine ev_iconst (v := 1) dX12_rate_75 cni_1 ?_
  refine ev_icmp_ne (tgt := 85) dX12_rate_76 (by decide) (fun h76 => False.elim (absurd rfl h76)) (fun h76 => ?_)
  refine ev_ldc2 dX12_rate_79 coX12_228 ?_
  refine ev_goto (tgt := 121) dX12_rate_82 (by decide) ?_
  refine ev_ladd dX12_rate_121 ?_
  refine md_sttr hX0 dX12_rate_122 rfl (fun M3 hX hf3 => ?_)
  have hX0 := hX
  obtain ⟨th, nx, tk, pl, va, fa, d0, d1, d2, dS, dB, dA, ik, h129, h130, h131, h132, h133, hk0, hk1, h134, h135, h136, h137, h138, h139, h140, h141, h142, h143, hsh⟩ := hX
  refine ev_iload_n (i := 1) dX12_rate_125 rfl rfl ?_
  refine ev_if_ne (tgt := 136) dX12_rate_126 (by decide) (fun g126 => ?_) (fun g126 => False.elim (absurd g126 (by decide)))
  refine ev_iload_n (i := 1) dX12_rate_136 rfl rfl ?_
  refine ev_iconst (v := 1) dX12_rate_137 cni_1 ?_
  refine ev_icmp_ne (tgt := 145) dX12_rate_138 (by decide) (fun g138 => False.elim (absurd rfl g138)) (fun g138 => ?_)
  refine ev_iload_n (i := 3) dX12_rate_141 rfl rfl ?_
  refine ev_goto (tgt := 194) dX12_rate_142 (by decide) ?_
  exact ev_reti dX12_rate_194 rfl rfl (⟨rfl, md_XS hX0, fun k hk => (hf3 k hk).trans ((hf2 k hk).trans (hf1 k hk))⟩)
theorem m_rate_2 {G : ev_G} {n : Nat} {M : ev_M} {tn c0 c1 c2 sh : Nat} {tx s kp bw ar tu : Nat → Int32} {k0 k1 : Bool} {tr : Int64} (hM : md_S M tn c0 c1 c2 sh tx s kp bw ar tu k0 k1 tr) {j : Nat} (hj : j < c0) (hc : c0 ≤ 12) (hb : 0 < c1) (hc1 : c1 ≤ 3) (hs : sk_ok (fun q => s (7 * j + q))) (hw : bw_ok (bw (2 * 0)) (bw (2 * 0 + 1))) (ht : tu_ok tu) : ev_Cal G mX12_rate 6 0 0 [.ref 129, .int 2, .int (nI j)] n M (md_is M (.int (fx_sp (fun q => s (7 * j + q)) - fx_dr (fun q => s (7 * j + q)) (bw (2 * 0)))) tn c0 c1 c2 sh tx s kp bw ar tu k0 k1 (tr + 101)) := by
  refine ev_Cal_of (L := [some (.ref 129), some (.int 2), some (.int (nI j)), none, none]) (by decide +kernel) (Nat.le_of_ble_eq_true rfl) rfl ?_
  refine md_thr hM dX12_rate_0 dX12_rate_1 dX12_rate_2 rfl rfl (fun M1 hM1 hf1 => ?_)
  obtain ⟨one, gof, dof, act, sp, of', ba, go, dr, ki, up, dn, hX⟩ := md_SX hM1
  have hX0 := hX
  obtain ⟨th, nx, tk, pl, va, fa, d0, d1, d2, dS, dB, dA, ik, h129, h130, h131, h132, h133, hk0, hk1, h134, h135, h136, h137, h138, h139, h140, h141, h142, h143, hsh⟩ := hX
  refine ev_iload_n (i := 1) dX12_rate_5 rfl rfl ?_
  refine ev_iconst (v := 0) dX12_rate_6 cni_0 ?_
  refine ev_iconst (v := 5) dX12_rate_7 cni_5 ?_
  refine ev_c3 kX12_rate_8 (c13_in) trivial (by decide) (by decide) (Nat.le_of_ble_eq_true rfl) ?_
  refine ev_if_eqb (tgt := 29) dX12_rate_11 (by decide) (fun h11 => False.elim (Bool.false_ne_true (h11.symm.trans (by decide)))) (fun h11 => ?_)
  refine ev_aload_n (i := 0) dX12_rate_14 rfl rfl ?_
  refine ev_iload_n (i := 2) dX12_rate_15 rfl rfl ?_
  refine ev_c2 kX12_rate_16 (c13_isStick h129) (ev_rv_of (by assumption) rfl rfl) (by decide) (by decide) (Nat.le_of_ble_eq_true rfl) ?_
  refine ev_if_eqb (tgt := 29) dX12_rate_19 (by decide) (fun h19 => False.elim (Bool.false_ne_true (h19.symm.trans (sp_in_ix hj (by omega))))) (fun h19 => ?_)
  refine ev_aload_n (i := 0) dX12_rate_22 rfl rfl ?_
  refine ev_getf dX12_rate_23 flX12_130 (by assumption) (by rfl) ?_
  refine ev_if_ne (tgt := 32) dX12_rate_26 (by decide) (fun h26 => ?_) (fun h26 => False.elim (nI_ne0 (n := c1) (by omega) (by omega) h26))
  refine ev_aload_n (i := 0) dX12_rate_32 rfl rfl ?_
  refine ev_iload_n (i := 2) dX12_rate_33 rfl rfl ?_
  refine ev_iconst (v := 0) dX12_rate_34 cni_0 ?_
  refine ev_d3 kX12_rate_35 (m_fliesWith (b := 0) hX0 hj hc (by omega) hc1 hs hw ht) (ev_rv_of (by assumption) rfl rfl) (by decide) (by decide) (Nat.le_of_ble_eq_true rfl) ?_
  intro r M2 hr
  obtain ⟨rfl, ⟨o2, ho, hX⟩, hf2⟩ := hr
  have hX0 := hX
  obtain ⟨th, nx, tk, pl, va, fa, d0, d1, d2, dS, dB, dA, ik, h129, h130, h131, h132, h133, hk0, hk1, h134, h135, h136, h137, h138, h139, h140, h141, h142, h143, hsh⟩ := hX
  refine ev_aload_n (i := 0) dX12_rate_38 rfl rfl ?_
  refine ev_getf dX12_rate_39 flX12_171 (by assumption) (by rfl) ?_
  refine ev_aload_n (i := 0) dX12_rate_42 rfl rfl ?_
  refine ev_getf dX12_rate_43 flX12_41 (by assumption) (by rfl) ?_
  refine ev_iconst (v := 1) dX12_rate_46 cni_1 ?_
  refine ev_iald (j := 1) dX12_rate_47 (by assumption) (ev_ixc (j := 1) rfl (by decide)) (by decide) ?_
  refine ev_topi (ho 1 (by omega)) ?_
  refine ev_iadd dX12_rate_48 ?_
  refine ev_istore_n (i := 3) dX12_rate_49 rfl (Nat.le_of_ble_eq_true rfl) rfl ?_
  refine ev_aload_n (i := 0) dX12_rate_50 rfl rfl ?_
  refine ev_getf dX12_rate_51 flX12_171 (by assumption) (by rfl) ?_
  refine ev_aload_n (i := 0) dX12_rate_54 rfl rfl ?_
  refine ev_getf dX12_rate_55 flX12_186 (by assumption) (by rfl) ?_
  refine ev_isub dX12_rate_58 ?_
  refine ev_istore dX12_rate_59 (Nat.le_of_ble_eq_true rfl) rfl ?_
  refine ev_aload_n (i := 0) dX12_rate_61 rfl rfl ?_
  refine ev_dup dX12_rate_62 rfl ?_
  refine ev_getf dX12_rate_63 flX12_225 (by assumption) (by rfl) ?_
  refine ev_iload_n (i := 1) dX12_rate_66 rfl rfl ?_
  refine ev_if_ne (tgt := 74) dX12_rate_67 (by decide) (fun h67 => ?_) (fun h67 => False.elim (absurd h67 (by decide)))
  refine ev_iload_n (i := 1) dX12_rate_74 rfl rfl ?_
  refine ev_iconst (v := 1) dX12_rate_75 cni_1 ?_
  refine ev_icmp_ne (tgt := 85) dX12_rate_76 (by decide) (fun h76 => ?_) (fun h76 => False.elim (absurd h76 (by decide)))
  refine ev_iload_n (i := 1) dX12_rate_85 rfl rfl ?_
  refine ev_iconst (v := 2) dX12_rate_86 cni_2 ?_
  refine ev_icmp_ne (tgt := 96) dX12_rate_87 (by decide) (fun h87 => False.elim (absurd rfl h87)) (fun h87 => ?_)
  refine ev_ldc2 dX12_rate_90 coX12_230 ?_
  refine ev_goto (tgt := 121) dX12_rate_93 (by decide) ?_
  refine ev_ladd dX12_rate_121 ?_
  refine md_sttr hX0 dX12_rate_122 rfl (fun M3 hX hf3 => ?_)
  have hX0 := hX
  obtain ⟨th, nx, tk, pl, va, fa, d0, d1, d2, dS, dB, dA, ik, h129, h130, h131, h132, h133, hk0, hk1, h134, h135, h136, h137, h138, h139, h140, h141, h142, h143, hsh⟩ := hX
  refine ev_iload_n (i := 1) dX12_rate_125 rfl rfl ?_
  refine ev_if_ne (tgt := 136) dX12_rate_126 (by decide) (fun g126 => ?_) (fun g126 => False.elim (absurd g126 (by decide)))
  refine ev_iload_n (i := 1) dX12_rate_136 rfl rfl ?_
  refine ev_iconst (v := 1) dX12_rate_137 cni_1 ?_
  refine ev_icmp_ne (tgt := 145) dX12_rate_138 (by decide) (fun g138 => ?_) (fun g138 => False.elim (absurd g138 (by decide)))
  refine ev_iload_n (i := 1) dX12_rate_145 rfl rfl ?_
  refine ev_iconst (v := 2) dX12_rate_146 cni_2 ?_
  refine ev_icmp_ne (tgt := 155) dX12_rate_147 (by decide) (fun g147 => False.elim (absurd rfl g147)) (fun g147 => ?_)
  refine ev_iload dX12_rate_150 rfl ?_
  refine ev_goto (tgt := 194) dX12_rate_152 (by decide) ?_
  exact ev_reti dX12_rate_194 rfl rfl (⟨rfl, md_XS hX0, fun k hk => (hf3 k hk).trans ((hf2 k hk).trans (hf1 k hk))⟩)
theorem m_rate_3 {G : ev_G} {n : Nat} {M : ev_M} {tn c0 c1 c2 sh : Nat} {tx s kp bw ar tu : Nat → Int32} {k0 k1 : Bool} {tr : Int64} (hM : md_S M tn c0 c1 c2 sh tx s kp bw ar tu k0 k1 tr) {j : Nat} (hj : j < c0) (hc : c0 ≤ 12) (hb : 0 < c1) (hc1 : c1 ≤ 3) (hs : sk_ok (fun q => s (7 * j + q))) (hw : bw_ok (bw (2 * 0)) (bw (2 * 0 + 1))) (ht : tu_ok tu) : ev_Cal G mX12_rate 6 0 0 [.ref 129, .int 3, .int (nI j)] n M (md_is M (.int (fx_sp (fun q => s (7 * j + q)) + s (7 * j + 1) + tu 3)) tn c0 c1 c2 sh tx s kp bw ar tu k0 k1 (tr + 1011)) := by
  refine ev_Cal_of (L := [some (.ref 129), some (.int 3), some (.int (nI j)), none, none]) (by decide +kernel) (Nat.le_of_ble_eq_true rfl) rfl ?_
  refine md_thr hM dX12_rate_0 dX12_rate_1 dX12_rate_2 rfl rfl (fun M1 hM1 hf1 => ?_)
  obtain ⟨one, gof, dof, act, sp, of', ba, go, dr, ki, up, dn, hX⟩ := md_SX hM1
  have hX0 := hX
  obtain ⟨th, nx, tk, pl, va, fa, d0, d1, d2, dS, dB, dA, ik, h129, h130, h131, h132, h133, hk0, hk1, h134, h135, h136, h137, h138, h139, h140, h141, h142, h143, hsh⟩ := hX
  refine ev_iload_n (i := 1) dX12_rate_5 rfl rfl ?_
  refine ev_iconst (v := 0) dX12_rate_6 cni_0 ?_
  refine ev_iconst (v := 5) dX12_rate_7 cni_5 ?_
  refine ev_c3 kX12_rate_8 (c13_in) trivial (by decide) (by decide) (Nat.le_of_ble_eq_true rfl) ?_
  refine ev_if_eqb (tgt := 29) dX12_rate_11 (by decide) (fun h11 => False.elim (Bool.false_ne_true (h11.symm.trans (by decide)))) (fun h11 => ?_)
  refine ev_aload_n (i := 0) dX12_rate_14 rfl rfl ?_
  refine ev_iload_n (i := 2) dX12_rate_15 rfl rfl ?_
  refine ev_c2 kX12_rate_16 (c13_isStick h129) (ev_rv_of (by assumption) rfl rfl) (by decide) (by decide) (Nat.le_of_ble_eq_true rfl) ?_
  refine ev_if_eqb (tgt := 29) dX12_rate_19 (by decide) (fun h19 => False.elim (Bool.false_ne_true (h19.symm.trans (sp_in_ix hj (by omega))))) (fun h19 => ?_)
  refine ev_aload_n (i := 0) dX12_rate_22 rfl rfl ?_
  refine ev_getf dX12_rate_23 flX12_130 (by assumption) (by rfl) ?_
  refine ev_if_ne (tgt := 32) dX12_rate_26 (by decide) (fun h26 => ?_) (fun h26 => False.elim (nI_ne0 (n := c1) (by omega) (by omega) h26))
  refine ev_aload_n (i := 0) dX12_rate_32 rfl rfl ?_
  refine ev_iload_n (i := 2) dX12_rate_33 rfl rfl ?_
  refine ev_iconst (v := 0) dX12_rate_34 cni_0 ?_
  refine ev_d3 kX12_rate_35 (m_fliesWith (b := 0) hX0 hj hc (by omega) hc1 hs hw ht) (ev_rv_of (by assumption) rfl rfl) (by decide) (by decide) (Nat.le_of_ble_eq_true rfl) ?_
  intro r M2 hr
  obtain ⟨rfl, ⟨o2, ho, hX⟩, hf2⟩ := hr
  have hX0 := hX
  obtain ⟨th, nx, tk, pl, va, fa, d0, d1, d2, dS, dB, dA, ik, h129, h130, h131, h132, h133, hk0, hk1, h134, h135, h136, h137, h138, h139, h140, h141, h142, h143, hsh⟩ := hX
  refine ev_aload_n (i := 0) dX12_rate_38 rfl rfl ?_
  refine ev_getf dX12_rate_39 flX12_171 (by assumption) (by rfl) ?_
  refine ev_aload_n (i := 0) dX12_rate_42 rfl rfl ?_
  refine ev_getf dX12_rate_43 flX12_41 (by assumption) (by rfl) ?_
  refine ev_iconst (v := 1) dX12_rate_46 cni_1 ?_
  refine ev_iald (j := 1) dX12_rate_47 (by assumption) (ev_ixc (j := 1) rfl (by decide)) (by decide) ?_
  refine ev_topi (ho 1 (by omega)) ?_
  refine ev_iadd dX12_rate_48 ?_
  refine ev_istore_n (i := 3) dX12_rate_49 rfl (Nat.le_of_ble_eq_true rfl) rfl ?_
  refine ev_aload_n (i := 0) dX12_rate_50 rfl rfl ?_
  refine ev_getf dX12_rate_51 flX12_171 (by assumption) (by rfl) ?_
  refine ev_aload_n (i := 0) dX12_rate_54 rfl rfl ?_
  refine ev_getf dX12_rate_55 flX12_186 (by assumption) (by rfl) ?_
  refine ev_isub dX12_rate_58 ?_
  refine ev_istore dX12_rate_59 (Nat.le_of_ble_eq_true rfl) rfl ?_
  refine ev_aload_n (i := 0) dX12_rate_61 rfl rfl ?_
  refine ev_dup dX12_rate_62 rfl ?_
  refine ev_getf dX12_rate_63 flX12_225 (by assumption) (by rfl) ?_
  refine ev_iload_n (i := 1) dX12_rate_66 rfl rfl ?_
  refine ev_if_ne (tgt := 74) dX12_rate_67 (by decide) (fun h67 => ?_) (fun h67 => False.elim (absurd h67 (by decide)))
  refine ev_iload_n (i := 1) dX12_rate_74 rfl rfl ?_
  refine ev_iconst (v := 1) dX12_rate_75 cni_1 ?_
  refine ev_icmp_ne (tgt := 85) dX12_rate_76 (by decide) (fun h76 => ?_) (fun h76 => False.elim (absurd h76 (by decide)))
  refine ev_iload_n (i := 1) dX12_rate_85 rfl rfl ?_
  refine ev_iconst (v := 2) dX12_rate_86 cni_2 ?_
  refine ev_icmp_ne (tgt := 96) dX12_rate_87 (by decide) (fun h87 => ?_) (fun h87 => False.elim (absurd h87 (by decide)))
  refine ev_iload_n (i := 1) dX12_rate_96 rfl rfl ?_
  refine ev_iconst (v := 3) dX12_rate_97 cni_3 ?_
  refine ev_icmp_ne (tgt := 107) dX12_rate_98 (by decide) (fun h98 => False.elim (absurd rfl h98)) (fun h98 => ?_)
  refine ev_ldc2 dX12_rate_101 coX12_232 ?_
  refine ev_goto (tgt := 121) dX12_rate_104 (by decide) ?_
  refine ev_ladd dX12_rate_121 ?_
  refine md_sttr hX0 dX12_rate_122 rfl (fun M3 hX hf3 => ?_)
  have hX0 := hX
  obtain ⟨th, nx, tk, pl, va, fa, d0, d1, d2, dS, dB, dA, ik, h129, h130, h131, h132, h133, hk0, hk1, h134, h135, h136, h137, h138, h139, h140, h141, h142, h143, hsh⟩ := hX
  refine ev_iload_n (i := 1) dX12_rate_125 rfl rfl ?_
  refine ev_if_ne (tgt := 136) dX12_rate_126 (by decide) (fun g126 => ?_) (fun g126 => False.elim (absurd g126 (by decide)))
  refine ev_iload_n (i := 1) dX12_rate_136 rfl rfl ?_
  refine ev_iconst (v := 1) dX12_rate_137 cni_1 ?_
  refine ev_icmp_ne (tgt := 145) dX12_rate_138 (by decide) (fun g138 => ?_) (fun g138 => False.elim (absurd g138 (by decide)))
  refine ev_iload_n (i := 1) dX12_rate_145 rfl rfl ?_
  refine ev_iconst (v := 2) dX12_rate_146 cni_2 ?_
  refine ev_icmp_ne (tgt := 155) dX12_rate_147 (by decide) (fun g147 => ?_) (fun g147 => False.elim (absurd g147 (by decide)))
  refine ev_iload_n (i := 1) dX12_rate_155 rfl rfl ?_
  refine ev_iconst (v := 3) dX12_rate_156 cni_3 ?_
  refine ev_icmp_ne (tgt := 171) dX12_rate_157 (by decide) (fun g157 => False.elim (absurd rfl g157)) (fun g157 => ?_)
  refine ev_iload_n (i := 3) dX12_rate_160 rfl rfl ?_
  refine ev_aload_n (i := 0) dX12_rate_161 rfl rfl ?_
  refine ev_getf dX12_rate_162 flX12_38 (by assumption) (by rfl) ?_
  refine ev_iconst (v := 3) dX12_rate_165 cni_3 ?_
  refine ev_iald (j := 3) dX12_rate_166 (by assumption) (ev_ixc (j := 3) rfl (by decide)) (by decide) ?_
  refine ev_iadd dX12_rate_167 ?_
  refine ev_goto (tgt := 194) dX12_rate_168 (by decide) ?_
  exact ev_reti dX12_rate_194 rfl rfl (⟨rfl, md_XS hX0, fun k hk => (hf3 k hk).trans ((hf2 k hk).trans (hf1 k hk))⟩)
theorem m_rate_4 {G : ev_G} {n : Nat} {M : ev_M} {tn c0 c1 c2 sh : Nat} {tx s kp bw ar tu : Nat → Int32} {k0 k1 : Bool} {tr : Int64} (hM : md_S M tn c0 c1 c2 sh tx s kp bw ar tu k0 k1 tr) {j : Nat} (hj : j < c0) (hc : c0 ≤ 12) (hb : 0 < c1) (hc1 : c1 ≤ 3) (hs : sk_ok (fun q => s (7 * j + q))) (hw : bw_ok (bw (2 * 0)) (bw (2 * 0 + 1))) (ht : tu_ok tu) : ev_Cal G mX12_rate 6 0 0 [.ref 129, .int 4, .int (nI j)] n M (md_is M (.int (2 * (fx_sp (fun q => s (7 * j + q)) - fx_dr (fun q => s (7 * j + q)) (bw (2 * 0))))) tn c0 c1 c2 sh tx s kp bw ar tu k0 k1 (tr + 10101)) := by
  refine ev_Cal_of (L := [some (.ref 129), some (.int 4), some (.int (nI j)), none, none]) (by decide +kernel) (Nat.le_of_ble_eq_true rfl) rfl ?_
  refine md_thr hM dX12_rate_0 dX12_rate_1 dX12_rate_2 rfl rfl (fun M1 hM1 hf1 => ?_)
  obtain ⟨one, gof, dof, act, sp, of', ba, go, dr, ki, up, dn, hX⟩ := md_SX hM1
  have hX0 := hX
  obtain ⟨th, nx, tk, pl, va, fa, d0, d1, d2, dS, dB, dA, ik, h129, h130, h131, h132, h133, hk0, hk1, h134, h135, h136, h137, h138, h139, h140, h141, h142, h143, hsh⟩ := hX
  refine ev_iload_n (i := 1) dX12_rate_5 rfl rfl ?_
  refine ev_iconst (v := 0) dX12_rate_6 cni_0 ?_
  refine ev_iconst (v := 5) dX12_rate_7 cni_5 ?_
  refine ev_c3 kX12_rate_8 (c13_in) trivial (by decide) (by decide) (Nat.le_of_ble_eq_true rfl) ?_
  refine ev_if_eqb (tgt := 29) dX12_rate_11 (by decide) (fun h11 => False.elim (Bool.false_ne_true (h11.symm.trans (by decide)))) (fun h11 => ?_)
  refine ev_aload_n (i := 0) dX12_rate_14 rfl rfl ?_
  refine ev_iload_n (i := 2) dX12_rate_15 rfl rfl ?_
  refine ev_c2 kX12_rate_16 (c13_isStick h129) (ev_rv_of (by assumption) rfl rfl) (by decide) (by decide) (Nat.le_of_ble_eq_true rfl) ?_
  refine ev_if_eqb (tgt := 29) dX12_rate_19 (by decide) (fun h19 => False.elim (Bool.false_ne_true (h19.symm.trans (sp_in_ix hj (by omega))))) (fun h19 => ?_)
  refine ev_aload_n (i := 0) dX12_rate_22 rfl rfl ?_
  refine ev_getf dX12_rate_23 flX12_130 (by assumption) (by rfl) ?_
  refine ev_if_ne (tgt := 32) dX12_rate_26 (by decide) (fun h26 => ?_) (fun h26 => False.elim (nI_ne0 (n := c1) (by omega) (by omega) h26))
  refine ev_aload_n (i := 0) dX12_rate_32 rfl rfl ?_
  refine ev_iload_n (i := 2) dX12_rate_33 rfl rfl ?_
  refine ev_iconst (v := 0) dX12_rate_34 cni_0 ?_
  refine ev_d3 kX12_rate_35 (m_fliesWith (b := 0) hX0 hj hc (by omega) hc1 hs hw ht) (ev_rv_of (by assumption) rfl rfl) (by decide) (by decide) (Nat.le_of_ble_eq_true rfl) ?_
  intro r M2 hr
  obtain ⟨rfl, ⟨o2, ho, hX⟩, hf2⟩ := hr
  have hX0 := hX
  obtain ⟨th, nx, tk, pl, va, fa, d0, d1, d2, dS, dB, dA, ik, h129, h130, h131, h132, h133, hk0, hk1, h134, h135, h136, h137, h138, h139, h140, h141, h142, h143, hsh⟩ := hX
  refine ev_aload_n (i := 0) dX12_rate_38 rfl rfl ?_
  refine ev_getf dX12_rate_39 flX12_171 (by assumption) (by rfl) ?_
  refine ev_aload_n (i := 0) dX12_rate_42 rfl rfl ?_
  refine ev_getf dX12_rate_43 flX12_41 (by assumption) (by rfl) ?_
  refine ev_iconst (v := 1) dX12_rate_46 cni_1 ?_
  refine ev_iald (j := 1) dX12_rate_47 (by assumption) (ev_ixc (j := 1) rfl (by decide)) (by decide) ?_
  refine ev_topi (ho 1 (by omega)) ?_
  refine ev_iadd dX12_rate_48 ?_
  refine ev_istore_n (i := 3) dX12_rate_49 rfl (Nat.le_of_ble_eq_true rfl) rfl ?_
  refine ev_aload_n (i := 0) dX12_rate_50 rfl rfl ?_
  refine ev_getf dX12_rate_51 flX12_171 (by assumption) (by rfl) ?_
  refine ev_aload_n (i := 0) dX12_rate_54 rfl rfl ?_
  refine ev_getf dX12_rate_55 flX12_186 (by assumption) (by rfl) ?_
  refine ev_isub dX12_rate_58 ?_
  refine ev_istore dX12_rate_59 (Nat.le_of_ble_eq_true rfl) rfl ?_
  refine ev_aload_n (i := 0) dX12_rate_61 rfl rfl ?_
  refine ev_dup dX12_rate_62 rfl ?_
  refine ev_getf dX12_rate_63 flX12_225 (by assumption) (by rfl) ?_
  refine ev_iload_n (i := 1) dX12_rate_66 rfl rfl ?_
  refine ev_if_ne (tgt := 74) dX12_rate_67 (by decide) (fun h67 => ?_) (fun h67 => False.elim (absurd h67 (by decide)))
  refine ev_iload_n (i := 1) dX12_rate_74 rfl rfl ?_
  refine ev_iconst (v := 1) dX12_rate_75 cni_1 ?_
  refine ev_icmp_ne (tgt := 85) dX12_rate_76 (by decide) (fun h76 => ?_) (fun h76 => False.elim (absurd h76 (by decide)))
  refine ev_iload_n (i := 1) dX12_rate_85 rfl rfl ?_
  refine ev_iconst (v := 2) dX12_rate_86 cni_2 ?_
  refine ev_icmp_ne (tgt := 96) dX12_rate_87 (by decide) (fun h87 => ?_) (fun h87 => False.elim (absurd h87 (by decide)))
  refine ev_iload_n (i := 1) dX12_rate_96 rfl rfl ?_
  refine ev_iconst (v := 3) dX12_rate_97 cni_3 ?_
  refine ev_icmp_ne (tgt := 107) dX12_rate_98 (by decide) (fun h98 => ?_) (fun h98 => False.elim (absurd h98 (by decide)))
  refine ev_iload_n (i := 1) dX12_rate_107 rfl rfl ?_
  refine ev_iconst (v := 4) dX12_rate_108 cni_4 ?_
  refine ev_icmp_ne (tgt := 118) dX12_rate_109 (by decide) (fun h109 => False.elim (absurd rfl h109)) (fun h109 => ?_)
  refine ev_ldc2 dX12_rate_112 coX12_234 ?_
  refine ev_goto (tgt := 121) dX12_rate_115 (by decide) ?_
  refine ev_ladd dX12_rate_121 ?_
  refine md_sttr hX0 dX12_rate_122 rfl (fun M3 hX hf3 => ?_)
  have hX0 := hX
  obtain ⟨th, nx, tk, pl, va, fa, d0, d1, d2, dS, dB, dA, ik, h129, h130, h131, h132, h133, hk0, hk1, h134, h135, h136, h137, h138, h139, h140, h141, h142, h143, hsh⟩ := hX
  refine ev_iload_n (i := 1) dX12_rate_125 rfl rfl ?_
  refine ev_if_ne (tgt := 136) dX12_rate_126 (by decide) (fun g126 => ?_) (fun g126 => False.elim (absurd g126 (by decide)))
  refine ev_iload_n (i := 1) dX12_rate_136 rfl rfl ?_
  refine ev_iconst (v := 1) dX12_rate_137 cni_1 ?_
  refine ev_icmp_ne (tgt := 145) dX12_rate_138 (by decide) (fun g138 => ?_) (fun g138 => False.elim (absurd g138 (by decide)))
  refine ev_iload_n (i := 1) dX12_rate_145 rfl rfl ?_
  refine ev_iconst (v := 2) dX12_rate_146 cni_2 ?_
  refine ev_icmp_ne (tgt := 155) dX12_rate_147 (by decide) (fun g147 => ?_) (fun g147 => False.elim (absurd g147 (by decide)))
  refine ev_iload_n (i := 1) dX12_rate_155 rfl rfl ?_
  refine ev_iconst (v := 3) dX12_rate_156 cni_3 ?_
  refine ev_icmp_ne (tgt := 171) dX12_rate_157 (by decide) (fun g157 => ?_) (fun g157 => False.elim (absurd g157 (by decide)))
  refine ev_iload_n (i := 1) dX12_rate_171 rfl rfl ?_
  refine ev_iconst (v := 4) dX12_rate_172 cni_4 ?_
  refine ev_icmp_ne (tgt := 183) dX12_rate_173 (by decide) (fun g173 => False.elim (absurd rfl g173)) (fun g173 => ?_)
  refine ev_iconst (v := 2) dX12_rate_176 cni_2 ?_
  refine ev_iload dX12_rate_177 rfl ?_
  refine ev_imul dX12_rate_179 ?_
  refine ev_goto (tgt := 194) dX12_rate_180 (by decide) ?_
  exact ev_reti dX12_rate_194 rfl rfl (⟨rfl, md_XS hX0, fun k hk => (hf3 k hk).trans ((hf2 k hk).trans (hf1 k hk))⟩)
theorem m_rate_5 {G : ev_G} {n : Nat} {M : ev_M} {tn c0 c1 c2 sh : Nat} {tx s kp bw ar tu : Nat → Int32} {k0 k1 : Bool} {tr : Int64} (hM : md_S M tn c0 c1 c2 sh tx s kp bw ar tu k0 k1 tr) {j : Nat} (hj : j < c0) (hc : c0 ≤ 12) (hb : 0 < c1) (hc1 : c1 ≤ 3) (hs : sk_ok (fun q => s (7 * j + q))) (hw : bw_ok (bw (2 * 0)) (bw (2 * 0 + 1))) (ht : tu_ok tu) : ev_Cal G mX12_rate 6 0 0 [.ref 129, .int 5, .int (nI j)] n M (md_is M (.int (fx_sp (fun q => s (7 * j + q)) + s (7 * j + 4))) tn c0 c1 c2 sh tx s kp bw ar tu k0 k1 (tr + 100001)) := by
  refine ev_Cal_of (L := [some (.ref 129), some (.int 5), some (.int (nI j)), none, none]) (by decide +kernel) (Nat.le_of_ble_eq_true rfl) rfl ?_
  refine md_thr hM dX12_rate_0 dX12_rate_1 dX12_rate_2 rfl rfl (fun M1 hM1 hf1 => ?_)
  obtain ⟨one, gof, dof, act, sp, of', ba, go, dr, ki, up, dn, hX⟩ := md_SX hM1
  have hX0 := hX
  obtain ⟨th, nx, tk, pl, va, fa, d0, d1, d2, dS, dB, dA, ik, h129, h130, h131, h132, h133, hk0, hk1, h134, h135, h136, h137, h138, h139, h140, h141, h142, h143, hsh⟩ := hX
  refine ev_iload_n (i := 1) dX12_rate_5 rfl rfl ?_
  refine ev_iconst (v := 0) dX12_rate_6 cni_0 ?_
  refine ev_iconst (v := 5) dX12_rate_7 cni_5 ?_
  refine ev_c3 kX12_rate_8 (c13_in) trivial (by decide) (by decide) (Nat.le_of_ble_eq_true rfl) ?_
  refine ev_if_eqb (tgt := 29) dX12_rate_11 (by decide) (fun h11 => False.elim (Bool.false_ne_true (h11.symm.trans (by decide)))) (fun h11 => ?_)
  refine ev_aload_n (i := 0) dX12_rate_14 rfl rfl ?_
  refine ev_iload_n (i := 2) dX12_rate_15 rfl rfl ?_
  refine ev_c2 kX12_rate_16 (c13_isStick h129) (ev_rv_of (by assumption) rfl rfl) (by decide) (by decide) (Nat.le_of_ble_eq_true rfl) ?_
  refine ev_if_eqb (tgt := 29) dX12_rate_19 (by decide) (fun h19 => False.elim (Bool.false_ne_true (h19.symm.trans (sp_in_ix hj (by omega))))) (fun h19 => ?_)
  refine ev_aload_n (i := 0) dX12_rate_22 rfl rfl ?_
  refine ev_getf dX12_rate_23 flX12_130 (by assumption) (by rfl) ?_
  refine ev_if_ne (tgt := 32) dX12_rate_26 (by decide) (fun h26 => ?_) (fun h26 => False.elim (nI_ne0 (n := c1) (by omega) (by omega) h26))
  refine ev_aload_n (i := 0) dX12_rate_32 rfl rfl ?_
  refine ev_iload_n (i := 2) dX12_rate_33 rfl rfl ?_
  refine ev_iconst (v := 0) dX12_rate_34 cni_0 ?_
  refine ev_d3 kX12_rate_35 (m_fliesWith (b := 0) hX0 hj hc (by omega) hc1 hs hw ht) (ev_rv_of (by assumption) rfl rfl) (by decide) (by decide) (Nat.le_of_ble_eq_true rfl) ?_
  intro r M2 hr
  obtain ⟨rfl, ⟨o2, ho, hX⟩, hf2⟩ := hr
  have hX0 := hX
  obtain ⟨th, nx, tk, pl, va, fa, d0, d1, d2, dS, dB, dA, ik, h129, h130, h131, h132, h133, hk0, hk1, h134, h135, h136, h137, h138, h139, h140, h141, h142, h143, hsh⟩ := hX
  refine ev_aload_n (i := 0) dX12_rate_38 rfl rfl ?_
  refine ev_getf dX12_rate_39 flX12_171 (by assumption) (by rfl) ?_
  refine ev_aload_n (i := 0) dX12_rate_42 rfl rfl ?_
  refine ev_getf dX12_rate_43 flX12_41 (by assumption) (by rfl) ?_
  refine ev_iconst (v := 1) dX12_rate_46 cni_1 ?_
  refine ev_iald (j := 1) dX12_rate_47 (by assumption) (ev_ixc (j := 1) rfl (by decide)) (by decide) ?_
  refine ev_topi (ho 1 (by omega)) ?_
  refine ev_iadd dX12_rate_48 ?_
  refine ev_istore_n (i := 3) dX12_rate_49 rfl (Nat.le_of_ble_eq_true rfl) rfl ?_
  refine ev_aload_n (i := 0) dX12_rate_50 rfl rfl ?_
  refine ev_getf dX12_rate_51 flX12_171 (by assumption) (by rfl) ?_
  refine ev_aload_n (i := 0) dX12_rate_54 rfl rfl ?_
  refine ev_getf dX12_rate_55 flX12_186 (by assumption) (by rfl) ?_
  refine ev_isub dX12_rate_58 ?_
  refine ev_istore dX12_rate_59 (Nat.le_of_ble_eq_true rfl) rfl ?_
  refine ev_aload_n (i := 0) dX12_rate_61 rfl rfl ?_
  refine ev_dup dX12_rate_62 rfl ?_
  refine ev_getf dX12_rate_63 flX12_225 (by assumption) (by rfl) ?_
  refine ev_iload_n (i := 1) dX12_rate_66 rfl rfl ?_
  refine ev_if_ne (tgt := 74) dX12_rate_67 (by decide) (fun h67 => ?_) (fun h67 => False.elim (absurd h67 (by decide)))
  refine ev_iload_n (i := 1) dX12_rate_74 rfl rfl ?_
  refine ev_iconst (v := 1) dX12_rate_75 cni_1 ?_
  refine ev_icmp_ne (tgt := 85) dX12_rate_76 (by decide) (fun h76 => ?_) (fun h76 => False.elim (absurd h76 (by decide)))
  refine ev_iload_n (i := 1) dX12_rate_85 rfl rfl ?_
  refine ev_iconst (v := 2) dX12_rate_86 cni_2 ?_
  refine ev_icmp_ne (tgt := 96) dX12_rate_87 (by decide) (fun h87 => ?_) (fun h87 => False.elim (absurd h87 (by decide)))
  refine ev_iload_n (i := 1) dX12_rate_96 rfl rfl ?_
  refine ev_iconst (v := 3) dX12_rate_97 cni_3 ?_
  refine ev_icmp_ne (tgt := 107) dX12_rate_98 (by decide) (fun h98 => ?_) (fun h98 => False.elim (absurd h98 (by decide)))
  refine ev_iload_n (i := 1) dX12_rate_107 rfl rfl ?_
  refine ev_iconst (v := 4) dX12_rate_108 cni_4 ?_
  refine ev_icmp_ne (tgt := 118) dX12_rate_109 (by decide) (fun h109 => ?_) (fun h109 => False.elim (absurd h109 (by decide)))
  refine ev_ldc2 dX12_rate_118 coX12_236 ?_
  refine ev_ladd dX12_rate_121 ?_
  refine md_sttr hX0 dX12_rate_122 rfl (fun M3 hX hf3 => ?_)
  have hX0 := hX
  obtain ⟨th, nx, tk, pl, va, fa, d0, d1, d2, dS, dB, dA, ik, h129, h130, h131, h132, h133, hk0, hk1, h134, h135, h136, h137, h138, h139, h140, h141, h142, h143, hsh⟩ := hX
  refine ev_iload_n (i := 1) dX12_rate_125 rfl rfl ?_
  refine ev_if_ne (tgt := 136) dX12_rate_126 (by decide) (fun g126 => ?_) (fun g126 => False.elim (absurd g126 (by decide)))
  refine ev_iload_n (i := 1) dX12_rate_136 rfl rfl ?_
  refine ev_iconst (v := 1) dX12_rate_137 cni_1 ?_
  refine ev_icmp_ne (tgt := 145) dX12_rate_138 (by decide) (fun g138 => ?_) (fun g138 => False.elim (absurd g138 (by decide)))
  refine ev_iload_n (i := 1) dX12_rate_145 rfl rfl ?_
  refine ev_iconst (v := 2) dX12_rate_146 cni_2 ?_
  refine ev_icmp_ne (tgt := 155) dX12_rate_147 (by decide) (fun g147 => ?_) (fun g147 => False.elim (absurd g147 (by decide)))
  refine ev_iload_n (i := 1) dX12_rate_155 rfl rfl ?_
  refine ev_iconst (v := 3) dX12_rate_156 cni_3 ?_
  refine ev_icmp_ne (tgt := 171) dX12_rate_157 (by decide) (fun g157 => ?_) (fun g157 => False.elim (absurd g157 (by decide)))
  refine ev_iload_n (i := 1) dX12_rate_171 rfl rfl ?_
  refine ev_iconst (v := 4) dX12_rate_172 cni_4 ?_
  refine ev_icmp_ne (tgt := 183) dX12_rate_173 (by decide) (fun g173 => ?_) (fun g173 => False.elim (absurd g173 (by decide)))
  refine ev_aload_n (i := 0) dX12_rate_183 rfl rfl ?_
  refine ev_getf dX12_rate_184 flX12_171 (by assumption) (by rfl) ?_
  refine ev_aload_n (i := 0) dX12_rate_187 rfl rfl ?_
  refine ev_getf dX12_rate_188 flX12_41 (by assumption) (by rfl) ?_
  refine ev_iconst (v := 4) dX12_rate_191 cni_4 ?_
  refine ev_iald (j := 4) dX12_rate_192 (by assumption) (ev_ixc (j := 4) rfl (by decide)) (by decide) ?_
  refine ev_topi (ho 4 (by omega)) ?_
  refine ev_iadd dX12_rate_193 ?_
  exact ev_reti dX12_rate_194 rfl rfl (⟨rfl, md_XS hX0, fun k hk => (hf3 k hk).trans ((hf2 k hk).trans (hf1 k hk))⟩)
theorem m_rate_no {G : ev_G} {n : Nat} {M : ev_M} {tn c0 c1 c2 sh : Nat} {tx s kp bw ar tu : Nat → Int32} {k0 k1 : Bool} {tr : Int64} (hM : md_S M tn c0 c1 c2 sh tx s kp bw ar tu k0 k1 tr) (hc1 : c1 ≤ 3) {w x : Int32} (h : (sp_in w 0 5 && sp_in x 0 (nI c0 - 1)) = false ∨ c1 = 0) : ev_Cal G mX12_rate 6 0 0 [.ref 129, .int w, .int x] n M (md_is M (.int (-1000000)) tn c0 c1 c2 sh tx s kp bw ar tu k0 k1 tr) := by
  refine ev_Cal_of (L := [some (.ref 129), some (.int w), some (.int x), none, none]) (by decide +kernel) (Nat.le_of_ble_eq_true rfl) rfl ?_
  refine md_thr hM dX12_rate_0 dX12_rate_1 dX12_rate_2 rfl rfl (fun M1 hM1 hf1 => ?_)
  obtain ⟨one, gof, dof, act, sp, of', ba, go, dr, ki, up, dn, hX⟩ := md_SX hM1
  have hX0 := hX
  obtain ⟨th, nx, tk, pl, va, fa, d0, d1, d2, dS, dB, dA, ik, h129, h130, h131, h132, h133, hk0, hk1, h134, h135, h136, h137, h138, h139, h140, h141, h142, h143, hsh⟩ := hX
  refine ev_iload_n (i := 1) dX12_rate_5 rfl rfl ?_
  refine ev_iconst (v := 0) dX12_rate_6 cni_0 ?_
  refine ev_iconst (v := 5) dX12_rate_7 cni_5 ?_
  refine ev_c3 kX12_rate_8 (c13_in) trivial (by decide) (by decide) (Nat.le_of_ble_eq_true rfl) ?_
  refine ev_if_eqb (tgt := 29) dX12_rate_11 (by decide) (fun h11 => ?_) (fun h11 => ?_)
  · skip
    refine ev_ldc dX12_rate_29 coX12_143 ?_
    exact ev_reti dX12_rate_31 rfl rfl (⟨rfl, md_XS hX0, hf1⟩)
  · skip
    refine ev_aload_n (i := 0) dX12_rate_14 rfl rfl ?_
    refine ev_iload_n (i := 2) dX12_rate_15 rfl rfl ?_
    refine ev_c2 kX12_rate_16 (c13_isStick h129) (ev_rv_of (by assumption) rfl rfl) (by decide) (by decide) (Nat.le_of_ble_eq_true rfl) ?_
    refine ev_if_eqb (tgt := 29) dX12_rate_19 (by decide) (fun h19 => ?_) (fun h19 => ?_)
    · skip
      refine ev_ldc dX12_rate_29 coX12_143 ?_
      exact ev_reti dX12_rate_31 rfl rfl (⟨rfl, md_XS hX0, hf1⟩)
    · skip
      refine ev_aload_n (i := 0) dX12_rate_22 rfl rfl ?_
      refine ev_getf dX12_rate_23 flX12_130 (by assumption) (by rfl) ?_
      refine ev_if_ne (tgt := 32) dX12_rate_26 (by decide) (fun h26 => False.elim (h.elim (fun q => by rw [h11, h19] at q; cases q) (fun q => h26 (by rw [q]; rfl)))) (fun h26 => ?_)
      refine ev_ldc dX12_rate_29 coX12_143 ?_
      exact ev_reti dX12_rate_31 rfl rfl (⟨rfl, md_XS hX0, hf1⟩)
